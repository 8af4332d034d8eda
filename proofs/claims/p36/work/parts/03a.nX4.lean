theorem dX4_init_0 : decode cX4_init 0 = .ok (.aload_n 0, 1) := by decide +kernel
theorem dX4_init_1 : decode cX4_init 1 = .ok (.invokespecial 3, 3) := by decide +kernel
theorem dX4_init_4 : decode cX4_init 4 = .ok (.aload_n 0, 1) := by decide +kernel
theorem dX4_init_5 : decode cX4_init 5 = .ok (.bipush 49, 2) := by decide +kernel
theorem dX4_init_7 : decode cX4_init 7 = .ok (.newarray .int, 2) := by decide +kernel
theorem dX4_init_9 : decode cX4_init 9 = .ok (.putfield 9, 3) := by decide +kernel
theorem dX4_init_12 : decode cX4_init 12 = .ok (.aload_n 0, 1) := by decide +kernel
theorem dX4_init_13 : decode cX4_init 13 = .ok (.iconst 3, 1) := by decide +kernel
theorem dX4_init_14 : decode cX4_init 14 = .ok (.putfield 15, 3) := by decide +kernel
theorem dX4_init_17 : decode cX4_init 17 = .ok (.return_, 1) := by decide +kernel
theorem dX4_size_0 : decode cX4_size 0 = .ok (.aload_n 0, 1) := by decide +kernel
theorem dX4_size_1 : decode cX4_size 1 = .ok (.getfield 15, 3) := by decide +kernel
theorem dX4_size_4 : decode cX4_size 4 = .ok (.ireturn, 1) := by decide +kernel
theorem dX4_has_0 : decode cX4_has 0 = .ok (.iload_n 1, 1) := by decide +kernel
theorem dX4_has_1 : decode cX4_has 1 = .ok (.ifCond .lt 15, 3) := by decide +kernel
theorem dX4_has_4 : decode cX4_has 4 = .ok (.iload_n 1, 1) := by decide +kernel
theorem dX4_has_5 : decode cX4_has 5 = .ok (.aload_n 0, 1) := by decide +kernel
theorem dX4_has_6 : decode cX4_has 6 = .ok (.getfield 15, 3) := by decide +kernel
theorem dX4_has_9 : decode cX4_has 9 = .ok (.if_icmp .ge 7, 3) := by decide +kernel
theorem dX4_has_12 : decode cX4_has 12 = .ok (.iconst 1, 1) := by decide +kernel
theorem dX4_has_13 : decode cX4_has 13 = .ok (.goto 4, 3) := by decide +kernel
theorem dX4_has_16 : decode cX4_has 16 = .ok (.iconst 0, 1) := by decide +kernel
theorem dX4_has_17 : decode cX4_has 17 = .ok (.ireturn, 1) := by decide +kernel
theorem dX4_allLines_0 : decode cX4_allLines 0 = .ok (.iconst 1, 1) := by decide +kernel
theorem dX4_allLines_1 : decode cX4_allLines 1 = .ok (.aload_n 0, 1) := by decide +kernel
theorem dX4_allLines_2 : decode cX4_allLines 2 = .ok (.getfield 15, 3) := by decide +kernel
theorem dX4_allLines_5 : decode cX4_allLines 5 = .ok (.ishl, 1) := by decide +kernel
theorem dX4_allLines_6 : decode cX4_allLines 6 = .ok (.iconst 1, 1) := by decide +kernel
theorem dX4_allLines_7 : decode cX4_allLines 7 = .ok (.isub, 1) := by decide +kernel
theorem dX4_allLines_8 : decode cX4_allLines 8 = .ok (.ireturn, 1) := by decide +kernel
set_option maxRecDepth 20000 in
theorem ggX4_at_X4_has : GoodIn wsX4_at wsX4_has := goodIn_r _ [6, 7, 8, 9] (by decide +kernel) (by decide +kernel)
set_option maxRecDepth 20000 in
theorem gX4_at_X4_has : GoodIn wsX4_at (wsV RX4 19 RX4 yX4_has wsX4_has) := goodIn_app (goodIn_of _ (by decide +kernel)) ggX4_at_X4_has
theorem dX4_at_0 : decode cX4_at 0 = .ok (.aload_n 0, 1) := by decide +kernel
theorem dX4_at_1 : decode cX4_at 1 = .ok (.iload_n 1, 1) := by decide +kernel
theorem dX4_at_2 : decode cX4_at 2 = .ok (.invokevirtual 19, 3) := by decide +kernel
theorem dX4_at_5 : decode cX4_at 5 = .ok (.ifCond .eq 25, 3) := by decide +kernel
theorem dX4_at_8 : decode cX4_at 8 = .ok (.aload_n 0, 1) := by decide +kernel
theorem dX4_at_9 : decode cX4_at 9 = .ok (.iload_n 2, 1) := by decide +kernel
theorem dX4_at_10 : decode cX4_at 10 = .ok (.invokevirtual 19, 3) := by decide +kernel
theorem dX4_at_13 : decode cX4_at 13 = .ok (.ifCond .eq 17, 3) := by decide +kernel
theorem dX4_at_16 : decode cX4_at 16 = .ok (.aload_n 0, 1) := by decide +kernel
theorem dX4_at_17 : decode cX4_at 17 = .ok (.getfield 9, 3) := by decide +kernel
theorem dX4_at_20 : decode cX4_at 20 = .ok (.iload_n 1, 1) := by decide +kernel
theorem dX4_at_21 : decode cX4_at 21 = .ok (.bipush 7, 2) := by decide +kernel
theorem dX4_at_23 : decode cX4_at 23 = .ok (.imul, 1) := by decide +kernel
theorem dX4_at_24 : decode cX4_at 24 = .ok (.iload_n 2, 1) := by decide +kernel
theorem dX4_at_25 : decode cX4_at 25 = .ok (.iadd, 1) := by decide +kernel
theorem dX4_at_26 : decode cX4_at 26 = .ok (.iaload, 1) := by decide +kernel
theorem dX4_at_27 : decode cX4_at 27 = .ok (.goto 4, 3) := by decide +kernel
theorem dX4_at_30 : decode cX4_at 30 = .ok (.iconst 0, 1) := by decide +kernel
theorem dX4_at_31 : decode cX4_at 31 = .ok (.ireturn, 1) := by decide +kernel
set_option maxRecDepth 20000 in
theorem ggX4_put_X4_has : GoodIn wsX4_put wsX4_has := goodIn_r _ [6, 7, 8, 9] (by decide +kernel) (by decide +kernel)
set_option maxRecDepth 20000 in
theorem gX4_put_X4_has : GoodIn wsX4_put (wsV RX4 19 RX4 yX4_has wsX4_has) := goodIn_app (goodIn_of _ (by decide +kernel)) ggX4_put_X4_has
theorem dX4_put_0 : decode cX4_put 0 = .ok (.aload_n 0, 1) := by decide +kernel
theorem dX4_put_1 : decode cX4_put 1 = .ok (.iload_n 1, 1) := by decide +kernel
theorem dX4_put_2 : decode cX4_put 2 = .ok (.invokevirtual 19, 3) := by decide +kernel
theorem dX4_put_5 : decode cX4_put 5 = .ok (.ifCond .eq 23, 3) := by decide +kernel
theorem dX4_put_8 : decode cX4_put 8 = .ok (.aload_n 0, 1) := by decide +kernel
theorem dX4_put_9 : decode cX4_put 9 = .ok (.iload_n 2, 1) := by decide +kernel
theorem dX4_put_10 : decode cX4_put 10 = .ok (.invokevirtual 19, 3) := by decide +kernel
theorem dX4_put_13 : decode cX4_put 13 = .ok (.ifCond .eq 15, 3) := by decide +kernel
theorem dX4_put_16 : decode cX4_put 16 = .ok (.aload_n 0, 1) := by decide +kernel
theorem dX4_put_17 : decode cX4_put 17 = .ok (.getfield 9, 3) := by decide +kernel
theorem dX4_put_20 : decode cX4_put 20 = .ok (.iload_n 1, 1) := by decide +kernel
theorem dX4_put_21 : decode cX4_put 21 = .ok (.bipush 7, 2) := by decide +kernel
theorem dX4_put_23 : decode cX4_put 23 = .ok (.imul, 1) := by decide +kernel
theorem dX4_put_24 : decode cX4_put 24 = .ok (.iload_n 2, 1) := by decide +kernel
theorem dX4_put_25 : decode cX4_put 25 = .ok (.iadd, 1) := by decide +kernel
theorem dX4_put_26 : decode cX4_put 26 = .ok (.iload_n 3, 1) := by decide +kernel
theorem dX4_put_27 : decode cX4_put 27 = .ok (.iastore, 1) := by decide +kernel
theorem dX4_put_28 : decode cX4_put 28 = .ok (.return_, 1) := by decide +kernel
set_option maxRecDepth 20000 in
theorem ggX4_fillWithZeros_X4_resize : GoodIn wsX4_fillWithZeros wsX4_resize := goodIn_r _ [6, 7, 8, 9] (by decide +kernel) (by decide +kernel)
set_option maxRecDepth 20000 in
theorem gX4_fillWithZeros_X4_resize : GoodIn wsX4_fillWithZeros (wsV RX4 23 RX4 yX4_resize wsX4_resize) := goodIn_app (goodIn_of _ (by decide +kernel)) ggX4_fillWithZeros_X4_resize
theorem dX4_fillWithZeros_0 : decode cX4_fillWithZeros 0 = .ok (.iconst 0, 1) := by decide +kernel
theorem dX4_fillWithZeros_1 : decode cX4_fillWithZeros 1 = .ok (.istore_n 2, 1) := by decide +kernel
theorem dX4_fillWithZeros_2 : decode cX4_fillWithZeros 2 = .ok (.iload_n 2, 1) := by decide +kernel
theorem dX4_fillWithZeros_3 : decode cX4_fillWithZeros 3 = .ok (.bipush 49, 2) := by decide +kernel
theorem dX4_fillWithZeros_5 : decode cX4_fillWithZeros 5 = .ok (.if_icmp .ge 16, 3) := by decide +kernel
theorem dX4_fillWithZeros_8 : decode cX4_fillWithZeros 8 = .ok (.aload_n 0, 1) := by decide +kernel
theorem dX4_fillWithZeros_9 : decode cX4_fillWithZeros 9 = .ok (.getfield 9, 3) := by decide +kernel
theorem dX4_fillWithZeros_12 : decode cX4_fillWithZeros 12 = .ok (.iload_n 2, 1) := by decide +kernel
theorem dX4_fillWithZeros_13 : decode cX4_fillWithZeros 13 = .ok (.iconst 0, 1) := by decide +kernel
theorem dX4_fillWithZeros_14 : decode cX4_fillWithZeros 14 = .ok (.iastore, 1) := by decide +kernel
theorem dX4_fillWithZeros_15 : decode cX4_fillWithZeros 15 = .ok (.iinc 2 1, 3) := by decide +kernel
theorem dX4_fillWithZeros_18 : decode cX4_fillWithZeros 18 = .ok (.goto (-16), 3) := by decide +kernel
theorem dX4_fillWithZeros_21 : decode cX4_fillWithZeros 21 = .ok (.aload_n 0, 1) := by decide +kernel
theorem dX4_fillWithZeros_22 : decode cX4_fillWithZeros 22 = .ok (.iload_n 1, 1) := by decide +kernel
theorem dX4_fillWithZeros_23 : decode cX4_fillWithZeros 23 = .ok (.invokevirtual 23, 3) := by decide +kernel
theorem dX4_fillWithZeros_26 : decode cX4_fillWithZeros 26 = .ok (.return_, 1) := by decide +kernel
theorem dX4_resize_0 : decode cX4_resize 0 = .ok (.iload_n 1, 1) := by decide +kernel
theorem dX4_resize_1 : decode cX4_resize 1 = .ok (.iconst 1, 1) := by decide +kernel
theorem dX4_resize_2 : decode cX4_resize 2 = .ok (.if_icmp .lt 14, 3) := by decide +kernel
theorem dX4_resize_5 : decode cX4_resize 5 = .ok (.iload_n 1, 1) := by decide +kernel
theorem dX4_resize_6 : decode cX4_resize 6 = .ok (.bipush 7, 2) := by decide +kernel
theorem dX4_resize_8 : decode cX4_resize 8 = .ok (.if_icmp .gt 8, 3) := by decide +kernel
theorem dX4_resize_11 : decode cX4_resize 11 = .ok (.aload_n 0, 1) := by decide +kernel
theorem dX4_resize_12 : decode cX4_resize 12 = .ok (.iload_n 1, 1) := by decide +kernel
theorem dX4_resize_13 : decode cX4_resize 13 = .ok (.putfield 15, 3) := by decide +kernel
theorem dX4_resize_16 : decode cX4_resize 16 = .ok (.return_, 1) := by decide +kernel
theorem dX4_copyFrom_0 : decode cX4_copyFrom 0 = .ok (.aload_n 1, 1) := by decide +kernel
theorem dX4_copyFrom_1 : decode cX4_copyFrom 1 = .ok (.ifnull 26, 3) := by decide +kernel
theorem dX4_copyFrom_4 : decode cX4_copyFrom 4 = .ok (.aload_n 1, 1) := by decide +kernel
theorem dX4_copyFrom_5 : decode cX4_copyFrom 5 = .ok (.getfield 9, 3) := by decide +kernel
theorem dX4_copyFrom_8 : decode cX4_copyFrom 8 = .ok (.iconst 0, 1) := by decide +kernel
theorem dX4_copyFrom_9 : decode cX4_copyFrom 9 = .ok (.aload_n 0, 1) := by decide +kernel
theorem dX4_copyFrom_10 : decode cX4_copyFrom 10 = .ok (.getfield 9, 3) := by decide +kernel
theorem dX4_copyFrom_13 : decode cX4_copyFrom 13 = .ok (.iconst 0, 1) := by decide +kernel
theorem dX4_copyFrom_14 : decode cX4_copyFrom 14 = .ok (.bipush 49, 2) := by decide +kernel
theorem dX4_copyFrom_16 : decode cX4_copyFrom 16 = .ok (.invokestatic 27, 3) := by decide +kernel
theorem dX4_copyFrom_19 : decode cX4_copyFrom 19 = .ok (.aload_n 0, 1) := by decide +kernel
theorem dX4_copyFrom_20 : decode cX4_copyFrom 20 = .ok (.aload_n 1, 1) := by decide +kernel
theorem dX4_copyFrom_21 : decode cX4_copyFrom 21 = .ok (.getfield 15, 3) := by decide +kernel
theorem dX4_copyFrom_24 : decode cX4_copyFrom 24 = .ok (.putfield 15, 3) := by decide +kernel
theorem dX4_copyFrom_27 : decode cX4_copyFrom 27 = .ok (.return_, 1) := by decide +kernel
set_option maxRecDepth 20000 in
theorem ggX4_markNotZero_X4_fillWithZeros : GoodIn wsX4_markNotZero wsX4_fillWithZeros := goodIn_r _ [6, 7, 8, 9, 10, 5, 11, 1, 24, 25] (by decide +kernel) (by decide +kernel)
set_option maxRecDepth 20000 in
theorem gX4_markNotZero_X4_fillWithZeros : GoodIn wsX4_markNotZero (wsV RX4 33 RX4 yX4_fillWithZeros wsX4_fillWithZeros) := goodIn_app (goodIn_of _ (by decide +kernel)) ggX4_markNotZero_X4_fillWithZeros
set_option maxRecDepth 20000 in
theorem ggX4_markNotZero_X4_at : GoodIn wsX4_markNotZero wsX4_at := goodIn_r _ [15, 7, 16, 17, 18, 5, 19, 1, 24, 25] (by decide +kernel) (by decide +kernel)
set_option maxRecDepth 20000 in
theorem gX4_markNotZero_X4_at : GoodIn wsX4_markNotZero (wsV RX4 36 RX4 yX4_at wsX4_at) := goodIn_app (goodIn_of _ (by decide +kernel)) ggX4_markNotZero_X4_at
set_option maxRecDepth 20000 in
theorem ggX4_markNotZero_X4_put : GoodIn wsX4_markNotZero wsX4_put := goodIn_r _ [23, 7, 16, 17, 18, 5, 19, 1, 24, 25] (by decide +kernel) (by decide +kernel)
set_option maxRecDepth 20000 in
theorem gX4_markNotZero_X4_put : GoodIn wsX4_markNotZero (wsV RX4 40 RX4 yX4_put wsX4_put) := goodIn_app (goodIn_of _ (by decide +kernel)) ggX4_markNotZero_X4_put
theorem dX4_markNotZero_0 : decode cX4_markNotZero 0 = .ok (.aload_n 0, 1) := by decide +kernel
theorem dX4_markNotZero_1 : decode cX4_markNotZero 1 = .ok (.aload_n 1, 1) := by decide +kernel
theorem dX4_markNotZero_2 : decode cX4_markNotZero 2 = .ok (.getfield 15, 3) := by decide +kernel
theorem dX4_markNotZero_5 : decode cX4_markNotZero 5 = .ok (.invokevirtual 33, 3) := by decide +kernel
theorem dX4_markNotZero_8 : decode cX4_markNotZero 8 = .ok (.iconst 0, 1) := by decide +kernel
theorem dX4_markNotZero_9 : decode cX4_markNotZero 9 = .ok (.istore_n 2, 1) := by decide +kernel
theorem dX4_markNotZero_10 : decode cX4_markNotZero 10 = .ok (.iload_n 2, 1) := by decide +kernel
theorem dX4_markNotZero_11 : decode cX4_markNotZero 11 = .ok (.aload_n 0, 1) := by decide +kernel
theorem dX4_markNotZero_12 : decode cX4_markNotZero 12 = .ok (.getfield 15, 3) := by decide +kernel
theorem dX4_markNotZero_15 : decode cX4_markNotZero 15 = .ok (.if_icmp .ge 45, 3) := by decide +kernel
theorem dX4_markNotZero_18 : decode cX4_markNotZero 18 = .ok (.iconst 0, 1) := by decide +kernel
theorem dX4_markNotZero_19 : decode cX4_markNotZero 19 = .ok (.istore_n 3, 1) := by decide +kernel
theorem dX4_markNotZero_20 : decode cX4_markNotZero 20 = .ok (.iload_n 3, 1) := by decide +kernel
theorem dX4_markNotZero_21 : decode cX4_markNotZero 21 = .ok (.aload_n 0, 1) := by decide +kernel
theorem dX4_markNotZero_22 : decode cX4_markNotZero 22 = .ok (.getfield 15, 3) := by decide +kernel
theorem dX4_markNotZero_25 : decode cX4_markNotZero 25 = .ok (.if_icmp .ge 29, 3) := by decide +kernel
theorem dX4_markNotZero_28 : decode cX4_markNotZero 28 = .ok (.aload_n 0, 1) := by decide +kernel
theorem dX4_markNotZero_29 : decode cX4_markNotZero 29 = .ok (.iload_n 2, 1) := by decide +kernel
theorem dX4_markNotZero_30 : decode cX4_markNotZero 30 = .ok (.iload_n 3, 1) := by decide +kernel
theorem dX4_markNotZero_31 : decode cX4_markNotZero 31 = .ok (.aload_n 1, 1) := by decide +kernel
theorem dX4_markNotZero_32 : decode cX4_markNotZero 32 = .ok (.iload_n 2, 1) := by decide +kernel
theorem dX4_markNotZero_33 : decode cX4_markNotZero 33 = .ok (.iload_n 3, 1) := by decide +kernel
theorem dX4_markNotZero_34 : decode cX4_markNotZero 34 = .ok (.invokevirtual 36, 3) := by decide +kernel
theorem dX4_markNotZero_37 : decode cX4_markNotZero 37 = .ok (.ifCond .ne 7, 3) := by decide +kernel
theorem dX4_markNotZero_40 : decode cX4_markNotZero 40 = .ok (.iconst 0, 1) := by decide +kernel
theorem dX4_markNotZero_41 : decode cX4_markNotZero 41 = .ok (.goto 4, 3) := by decide +kernel
theorem dX4_markNotZero_44 : decode cX4_markNotZero 44 = .ok (.iconst 1, 1) := by decide +kernel
theorem dX4_markNotZero_45 : decode cX4_markNotZero 45 = .ok (.invokevirtual 40, 3) := by decide +kernel
theorem dX4_markNotZero_48 : decode cX4_markNotZero 48 = .ok (.iinc 3 1, 3) := by decide +kernel
theorem dX4_markNotZero_51 : decode cX4_markNotZero 51 = .ok (.goto (-31), 3) := by decide +kernel
theorem dX4_markNotZero_54 : decode cX4_markNotZero 54 = .ok (.iinc 2 1, 3) := by decide +kernel
theorem dX4_markNotZero_57 : decode cX4_markNotZero 57 = .ok (.goto (-47), 3) := by decide +kernel
theorem dX4_markNotZero_60 : decode cX4_markNotZero 60 = .ok (.return_, 1) := by decide +kernel
set_option maxRecDepth 20000 in
theorem ggX4_countUnlike_X4_at : GoodIn wsX4_countUnlike wsX4_at := goodIn_r _ [6, 7, 8, 9, 10, 5, 11, 1, 12, 13] (by decide +kernel) (by decide +kernel)
set_option maxRecDepth 20000 in
theorem gX4_countUnlike_X4_at : GoodIn wsX4_countUnlike (wsV RX4 36 RX4 yX4_at wsX4_at) := goodIn_app (goodIn_of _ (by decide +kernel)) ggX4_countUnlike_X4_at
theorem dX4_countUnlike_0 : decode cX4_countUnlike 0 = .ok (.iconst 0, 1) := by decide +kernel
theorem dX4_countUnlike_1 : decode cX4_countUnlike 1 = .ok (.istore_n 2, 1) := by decide +kernel
theorem dX4_countUnlike_2 : decode cX4_countUnlike 2 = .ok (.iconst 0, 1) := by decide +kernel
theorem dX4_countUnlike_3 : decode cX4_countUnlike 3 = .ok (.istore_n 3, 1) := by decide +kernel
theorem dX4_countUnlike_4 : decode cX4_countUnlike 4 = .ok (.iload_n 3, 1) := by decide +kernel
theorem dX4_countUnlike_5 : decode cX4_countUnlike 5 = .ok (.aload_n 0, 1) := by decide +kernel
theorem dX4_countUnlike_6 : decode cX4_countUnlike 6 = .ok (.getfield 15, 3) := by decide +kernel
theorem dX4_countUnlike_9 : decode cX4_countUnlike 9 = .ok (.if_icmp .ge 47, 3) := by decide +kernel
theorem dX4_countUnlike_12 : decode cX4_countUnlike 12 = .ok (.iconst 0, 1) := by decide +kernel
theorem dX4_countUnlike_13 : decode cX4_countUnlike 13 = .ok (.istore 4, 2) := by decide +kernel
theorem dX4_countUnlike_15 : decode cX4_countUnlike 15 = .ok (.iload 4, 2) := by decide +kernel
theorem dX4_countUnlike_17 : decode cX4_countUnlike 17 = .ok (.aload_n 0, 1) := by decide +kernel
theorem dX4_countUnlike_18 : decode cX4_countUnlike 18 = .ok (.getfield 15, 3) := by decide +kernel
theorem dX4_countUnlike_21 : decode cX4_countUnlike 21 = .ok (.if_icmp .ge 29, 3) := by decide +kernel
theorem dX4_countUnlike_24 : decode cX4_countUnlike 24 = .ok (.aload_n 0, 1) := by decide +kernel
theorem dX4_countUnlike_25 : decode cX4_countUnlike 25 = .ok (.iload_n 3, 1) := by decide +kernel
theorem dX4_countUnlike_26 : decode cX4_countUnlike 26 = .ok (.iload 4, 2) := by decide +kernel
theorem dX4_countUnlike_28 : decode cX4_countUnlike 28 = .ok (.invokevirtual 36, 3) := by decide +kernel
theorem dX4_countUnlike_31 : decode cX4_countUnlike 31 = .ok (.aload_n 1, 1) := by decide +kernel
theorem dX4_countUnlike_32 : decode cX4_countUnlike 32 = .ok (.iload_n 3, 1) := by decide +kernel
theorem dX4_countUnlike_33 : decode cX4_countUnlike 33 = .ok (.iload 4, 2) := by decide +kernel
theorem dX4_countUnlike_35 : decode cX4_countUnlike 35 = .ok (.invokevirtual 36, 3) := by decide +kernel
theorem dX4_countUnlike_38 : decode cX4_countUnlike 38 = .ok (.if_icmp .eq 6, 3) := by decide +kernel
theorem dX4_countUnlike_41 : decode cX4_countUnlike 41 = .ok (.iinc 2 1, 3) := by decide +kernel
theorem dX4_countUnlike_44 : decode cX4_countUnlike 44 = .ok (.iinc 4 1, 3) := by decide +kernel
theorem dX4_countUnlike_47 : decode cX4_countUnlike 47 = .ok (.goto (-32), 3) := by decide +kernel
theorem dX4_countUnlike_50 : decode cX4_countUnlike 50 = .ok (.iinc 3 1, 3) := by decide +kernel
theorem dX4_countUnlike_53 : decode cX4_countUnlike 53 = .ok (.goto (-49), 3) := by decide +kernel
theorem dX4_countUnlike_56 : decode cX4_countUnlike 56 = .ok (.iload_n 2, 1) := by decide +kernel
theorem dX4_countUnlike_57 : decode cX4_countUnlike 57 = .ok (.ireturn, 1) := by decide +kernel
set_option maxRecDepth 20000 in
theorem ggX4_countNotZero_X4_columnsOfRow : GoodIn wsX4_countNotZero wsX4_columnsOfRow := goodIn_r _ [6, 1, 7, 8, 9, 5, 10, 11, 12, 13, 14, 15, 23, 24] (by decide +kernel) (by decide +kernel)
set_option maxRecDepth 20000 in
theorem gX4_countNotZero_X4_columnsOfRow : GoodIn wsX4_countNotZero (wsV RX4 44 RX4 yX4_columnsOfRow wsX4_columnsOfRow) := goodIn_app (goodIn_of _ (by decide +kernel)) ggX4_countNotZero_X4_columnsOfRow
set_option maxRecDepth 20000 in
theorem ggX4_countNotZero_J6_bitCount_0f7a4 : GoodIn wsX4_countNotZero wsJ6_bitCount_0f7a4 := goodIn_r _ [19, 20, 21, 22] (by decide +kernel) (by decide +kernel)
set_option maxRecDepth 20000 in
theorem gX4_countNotZero_J6_bitCount_0f7a4 : GoodIn wsX4_countNotZero (va_wsS RX4 48 yJ6_bitCount_0f7a4 wsJ6_bitCount_0f7a4) := goodIn_app (goodIn_of _ (by decide +kernel)) ggX4_countNotZero_J6_bitCount_0f7a4
theorem dX4_countNotZero_0 : decode cX4_countNotZero 0 = .ok (.iconst 0, 1) := by decide +kernel
theorem dX4_countNotZero_1 : decode cX4_countNotZero 1 = .ok (.istore_n 1, 1) := by decide +kernel
theorem dX4_countNotZero_2 : decode cX4_countNotZero 2 = .ok (.iconst 0, 1) := by decide +kernel
theorem dX4_countNotZero_3 : decode cX4_countNotZero 3 = .ok (.istore_n 2, 1) := by decide +kernel
theorem dX4_countNotZero_4 : decode cX4_countNotZero 4 = .ok (.iload_n 2, 1) := by decide +kernel
theorem dX4_countNotZero_5 : decode cX4_countNotZero 5 = .ok (.aload_n 0, 1) := by decide +kernel
theorem dX4_countNotZero_6 : decode cX4_countNotZero 6 = .ok (.getfield 15, 3) := by decide +kernel
theorem dX4_countNotZero_9 : decode cX4_countNotZero 9 = .ok (.if_icmp .ge 20, 3) := by decide +kernel
theorem dX4_countNotZero_12 : decode cX4_countNotZero 12 = .ok (.iload_n 1, 1) := by decide +kernel
theorem dX4_countNotZero_13 : decode cX4_countNotZero 13 = .ok (.aload_n 0, 1) := by decide +kernel
theorem dX4_countNotZero_14 : decode cX4_countNotZero 14 = .ok (.iload_n 2, 1) := by decide +kernel
theorem dX4_countNotZero_15 : decode cX4_countNotZero 15 = .ok (.invokevirtual 44, 3) := by decide +kernel
theorem dX4_countNotZero_18 : decode cX4_countNotZero 18 = .ok (.invokestatic 48, 3) := by decide +kernel
theorem dX4_countNotZero_21 : decode cX4_countNotZero 21 = .ok (.iadd, 1) := by decide +kernel
theorem dX4_countNotZero_22 : decode cX4_countNotZero 22 = .ok (.istore_n 1, 1) := by decide +kernel
theorem dX4_countNotZero_23 : decode cX4_countNotZero 23 = .ok (.iinc 2 1, 3) := by decide +kernel
theorem dX4_countNotZero_26 : decode cX4_countNotZero 26 = .ok (.goto (-22), 3) := by decide +kernel
theorem dX4_countNotZero_29 : decode cX4_countNotZero 29 = .ok (.iload_n 1, 1) := by decide +kernel
theorem dX4_countNotZero_30 : decode cX4_countNotZero 30 = .ok (.ireturn, 1) := by decide +kernel
set_option maxRecDepth 20000 in
theorem ggX4_columnsOfRow_X4_at : GoodIn wsX4_columnsOfRow wsX4_at := goodIn_r _ [6, 7, 8, 9, 10, 5, 11, 1, 12, 13] (by decide +kernel) (by decide +kernel)
set_option maxRecDepth 20000 in
theorem gX4_columnsOfRow_X4_at : GoodIn wsX4_columnsOfRow (wsV RX4 36 RX4 yX4_at wsX4_at) := goodIn_app (goodIn_of _ (by decide +kernel)) ggX4_columnsOfRow_X4_at
theorem dX4_columnsOfRow_0 : decode cX4_columnsOfRow 0 = .ok (.iconst 0, 1) := by decide +kernel
theorem dX4_columnsOfRow_1 : decode cX4_columnsOfRow 1 = .ok (.istore_n 2, 1) := by decide +kernel
theorem dX4_columnsOfRow_2 : decode cX4_columnsOfRow 2 = .ok (.iconst 0, 1) := by decide +kernel
theorem dX4_columnsOfRow_3 : decode cX4_columnsOfRow 3 = .ok (.istore_n 3, 1) := by decide +kernel
theorem dX4_columnsOfRow_4 : decode cX4_columnsOfRow 4 = .ok (.iload_n 3, 1) := by decide +kernel
theorem dX4_columnsOfRow_5 : decode cX4_columnsOfRow 5 = .ok (.aload_n 0, 1) := by decide +kernel
theorem dX4_columnsOfRow_6 : decode cX4_columnsOfRow 6 = .ok (.getfield 15, 3) := by decide +kernel
theorem dX4_columnsOfRow_9 : decode cX4_columnsOfRow 9 = .ok (.if_icmp .ge 24, 3) := by decide +kernel
theorem dX4_columnsOfRow_12 : decode cX4_columnsOfRow 12 = .ok (.aload_n 0, 1) := by decide +kernel
theorem dX4_columnsOfRow_13 : decode cX4_columnsOfRow 13 = .ok (.iload_n 1, 1) := by decide +kernel
theorem dX4_columnsOfRow_14 : decode cX4_columnsOfRow 14 = .ok (.iload_n 3, 1) := by decide +kernel
theorem dX4_columnsOfRow_15 : decode cX4_columnsOfRow 15 = .ok (.invokevirtual 36, 3) := by decide +kernel
theorem dX4_columnsOfRow_18 : decode cX4_columnsOfRow 18 = .ok (.ifCond .eq 9, 3) := by decide +kernel
theorem dX4_columnsOfRow_21 : decode cX4_columnsOfRow 21 = .ok (.iload_n 2, 1) := by decide +kernel
theorem dX4_columnsOfRow_22 : decode cX4_columnsOfRow 22 = .ok (.iconst 1, 1) := by decide +kernel
theorem dX4_columnsOfRow_23 : decode cX4_columnsOfRow 23 = .ok (.iload_n 3, 1) := by decide +kernel
theorem dX4_columnsOfRow_24 : decode cX4_columnsOfRow 24 = .ok (.ishl, 1) := by decide +kernel
theorem dX4_columnsOfRow_25 : decode cX4_columnsOfRow 25 = .ok (.ior, 1) := by decide +kernel
theorem dX4_columnsOfRow_26 : decode cX4_columnsOfRow 26 = .ok (.istore_n 2, 1) := by decide +kernel
theorem dX4_columnsOfRow_27 : decode cX4_columnsOfRow 27 = .ok (.iinc 3 1, 3) := by decide +kernel
theorem dX4_columnsOfRow_30 : decode cX4_columnsOfRow 30 = .ok (.goto (-26), 3) := by decide +kernel
theorem dX4_columnsOfRow_33 : decode cX4_columnsOfRow 33 = .ok (.iload_n 2, 1) := by decide +kernel
theorem dX4_columnsOfRow_34 : decode cX4_columnsOfRow 34 = .ok (.ireturn, 1) := by decide +kernel
set_option maxRecDepth 20000 in
theorem ggX4_columnsOf_X4_columnsOfRow : GoodIn wsX4_columnsOf wsX4_columnsOfRow := goodIn_r _ [6, 1, 7, 8, 9, 5, 10, 11, 12, 13, 14, 15, 16, 17] (by decide +kernel) (by decide +kernel)
set_option maxRecDepth 20000 in
theorem gX4_columnsOf_X4_columnsOfRow : GoodIn wsX4_columnsOf (wsV RX4 44 RX4 yX4_columnsOfRow wsX4_columnsOfRow) := goodIn_app (goodIn_of _ (by decide +kernel)) ggX4_columnsOf_X4_columnsOfRow
theorem dX4_columnsOf_0 : decode cX4_columnsOf 0 = .ok (.iconst 0, 1) := by decide +kernel
theorem dX4_columnsOf_1 : decode cX4_columnsOf 1 = .ok (.istore_n 2, 1) := by decide +kernel
theorem dX4_columnsOf_2 : decode cX4_columnsOf 2 = .ok (.iconst 0, 1) := by decide +kernel
theorem dX4_columnsOf_3 : decode cX4_columnsOf 3 = .ok (.istore_n 3, 1) := by decide +kernel
theorem dX4_columnsOf_4 : decode cX4_columnsOf 4 = .ok (.iload_n 3, 1) := by decide +kernel
theorem dX4_columnsOf_5 : decode cX4_columnsOf 5 = .ok (.aload_n 0, 1) := by decide +kernel
theorem dX4_columnsOf_6 : decode cX4_columnsOf 6 = .ok (.getfield 15, 3) := by decide +kernel
theorem dX4_columnsOf_9 : decode cX4_columnsOf 9 = .ok (.if_icmp .ge 25, 3) := by decide +kernel
theorem dX4_columnsOf_12 : decode cX4_columnsOf 12 = .ok (.iload_n 1, 1) := by decide +kernel
theorem dX4_columnsOf_13 : decode cX4_columnsOf 13 = .ok (.iconst 1, 1) := by decide +kernel
theorem dX4_columnsOf_14 : decode cX4_columnsOf 14 = .ok (.iload_n 3, 1) := by decide +kernel
theorem dX4_columnsOf_15 : decode cX4_columnsOf 15 = .ok (.ishl, 1) := by decide +kernel
theorem dX4_columnsOf_16 : decode cX4_columnsOf 16 = .ok (.iand, 1) := by decide +kernel
theorem dX4_columnsOf_17 : decode cX4_columnsOf 17 = .ok (.ifCond .eq 11, 3) := by decide +kernel
theorem dX4_columnsOf_20 : decode cX4_columnsOf 20 = .ok (.iload_n 2, 1) := by decide +kernel
theorem dX4_columnsOf_21 : decode cX4_columnsOf 21 = .ok (.aload_n 0, 1) := by decide +kernel
theorem dX4_columnsOf_22 : decode cX4_columnsOf 22 = .ok (.iload_n 3, 1) := by decide +kernel
theorem dX4_columnsOf_23 : decode cX4_columnsOf 23 = .ok (.invokevirtual 44, 3) := by decide +kernel
theorem dX4_columnsOf_26 : decode cX4_columnsOf 26 = .ok (.ior, 1) := by decide +kernel
theorem dX4_columnsOf_27 : decode cX4_columnsOf 27 = .ok (.istore_n 2, 1) := by decide +kernel
theorem dX4_columnsOf_28 : decode cX4_columnsOf 28 = .ok (.iinc 3 1, 3) := by decide +kernel
theorem dX4_columnsOf_31 : decode cX4_columnsOf 31 = .ok (.goto (-27), 3) := by decide +kernel
theorem dX4_columnsOf_34 : decode cX4_columnsOf 34 = .ok (.iload_n 2, 1) := by decide +kernel
theorem dX4_columnsOf_35 : decode cX4_columnsOf 35 = .ok (.ireturn, 1) := by decide +kernel
set_option maxRecDepth 20000 in
theorem ggX4_sumOfRow_X4_at : GoodIn wsX4_sumOfRow wsX4_at := goodIn_r _ [6, 7, 8, 9, 10, 5, 11, 1, 12, 13] (by decide +kernel) (by decide +kernel)
set_option maxRecDepth 20000 in
theorem gX4_sumOfRow_X4_at : GoodIn wsX4_sumOfRow (wsV RX4 36 RX4 yX4_at wsX4_at) := goodIn_app (goodIn_of _ (by decide +kernel)) ggX4_sumOfRow_X4_at
theorem dX4_sumOfRow_0 : decode cX4_sumOfRow 0 = .ok (.iconst 0, 1) := by decide +kernel
theorem dX4_sumOfRow_1 : decode cX4_sumOfRow 1 = .ok (.istore_n 2, 1) := by decide +kernel
theorem dX4_sumOfRow_2 : decode cX4_sumOfRow 2 = .ok (.iconst 0, 1) := by decide +kernel
theorem dX4_sumOfRow_3 : decode cX4_sumOfRow 3 = .ok (.istore_n 3, 1) := by decide +kernel
theorem dX4_sumOfRow_4 : decode cX4_sumOfRow 4 = .ok (.iload_n 3, 1) := by decide +kernel
theorem dX4_sumOfRow_5 : decode cX4_sumOfRow 5 = .ok (.aload_n 0, 1) := by decide +kernel
theorem dX4_sumOfRow_6 : decode cX4_sumOfRow 6 = .ok (.getfield 15, 3) := by decide +kernel
theorem dX4_sumOfRow_9 : decode cX4_sumOfRow 9 = .ok (.if_icmp .ge 18, 3) := by decide +kernel
theorem dX4_sumOfRow_12 : decode cX4_sumOfRow 12 = .ok (.iload_n 2, 1) := by decide +kernel
theorem dX4_sumOfRow_13 : decode cX4_sumOfRow 13 = .ok (.aload_n 0, 1) := by decide +kernel
theorem dX4_sumOfRow_14 : decode cX4_sumOfRow 14 = .ok (.iload_n 1, 1) := by decide +kernel
theorem dX4_sumOfRow_15 : decode cX4_sumOfRow 15 = .ok (.iload_n 3, 1) := by decide +kernel
theorem dX4_sumOfRow_16 : decode cX4_sumOfRow 16 = .ok (.invokevirtual 36, 3) := by decide +kernel
theorem dX4_sumOfRow_19 : decode cX4_sumOfRow 19 = .ok (.iadd, 1) := by decide +kernel
theorem dX4_sumOfRow_20 : decode cX4_sumOfRow 20 = .ok (.istore_n 2, 1) := by decide +kernel
theorem dX4_sumOfRow_21 : decode cX4_sumOfRow 21 = .ok (.iinc 3 1, 3) := by decide +kernel
theorem dX4_sumOfRow_24 : decode cX4_sumOfRow 24 = .ok (.goto (-20), 3) := by decide +kernel
theorem dX4_sumOfRow_27 : decode cX4_sumOfRow 27 = .ok (.iload_n 2, 1) := by decide +kernel
theorem dX4_sumOfRow_28 : decode cX4_sumOfRow 28 = .ok (.ireturn, 1) := by decide +kernel
set_option maxRecDepth 20000 in
theorem ggX4_sumOfColumn_X4_at : GoodIn wsX4_sumOfColumn wsX4_at := goodIn_r _ [6, 7, 8, 9, 10, 5, 11, 1, 12, 13] (by decide +kernel) (by decide +kernel)
set_option maxRecDepth 20000 in
theorem gX4_sumOfColumn_X4_at : GoodIn wsX4_sumOfColumn (wsV RX4 36 RX4 yX4_at wsX4_at) := goodIn_app (goodIn_of _ (by decide +kernel)) ggX4_sumOfColumn_X4_at
theorem dX4_sumOfColumn_0 : decode cX4_sumOfColumn 0 = .ok (.iconst 0, 1) := by decide +kernel
theorem dX4_sumOfColumn_1 : decode cX4_sumOfColumn 1 = .ok (.istore_n 2, 1) := by decide +kernel
theorem dX4_sumOfColumn_2 : decode cX4_sumOfColumn 2 = .ok (.iconst 0, 1) := by decide +kernel
theorem dX4_sumOfColumn_3 : decode cX4_sumOfColumn 3 = .ok (.istore_n 3, 1) := by decide +kernel
theorem dX4_sumOfColumn_4 : decode cX4_sumOfColumn 4 = .ok (.iload_n 3, 1) := by decide +kernel
theorem dX4_sumOfColumn_5 : decode cX4_sumOfColumn 5 = .ok (.aload_n 0, 1) := by decide +kernel
theorem dX4_sumOfColumn_6 : decode cX4_sumOfColumn 6 = .ok (.getfield 15, 3) := by decide +kernel
theorem dX4_sumOfColumn_9 : decode cX4_sumOfColumn 9 = .ok (.if_icmp .ge 18, 3) := by decide +kernel
theorem dX4_sumOfColumn_12 : decode cX4_sumOfColumn 12 = .ok (.iload_n 2, 1) := by decide +kernel
theorem dX4_sumOfColumn_13 : decode cX4_sumOfColumn 13 = .ok (.aload_n 0, 1) := by decide +kernel
theorem dX4_sumOfColumn_14 : decode cX4_sumOfColumn 14 = .ok (.iload_n 3, 1) := by decide +kernel
theorem dX4_sumOfColumn_15 : decode cX4_sumOfColumn 15 = .ok (.iload_n 1, 1) := by decide +kernel
theorem dX4_sumOfColumn_16 : decode cX4_sumOfColumn 16 = .ok (.invokevirtual 36, 3) := by decide +kernel
theorem dX4_sumOfColumn_19 : decode cX4_sumOfColumn 19 = .ok (.iadd, 1) := by decide +kernel
theorem dX4_sumOfColumn_20 : decode cX4_sumOfColumn 20 = .ok (.istore_n 2, 1) := by decide +kernel
theorem dX4_sumOfColumn_21 : decode cX4_sumOfColumn 21 = .ok (.iinc 3 1, 3) := by decide +kernel
theorem dX4_sumOfColumn_24 : decode cX4_sumOfColumn 24 = .ok (.goto (-20), 3) := by decide +kernel
theorem dX4_sumOfColumn_27 : decode cX4_sumOfColumn 27 = .ok (.iload_n 2, 1) := by decide +kernel
theorem dX4_sumOfColumn_28 : decode cX4_sumOfColumn 28 = .ok (.ireturn, 1) := by decide +kernel
set_option maxRecDepth 20000 in
theorem ggX4_sumOfAll_X4_sumOfRow : GoodIn wsX4_sumOfAll wsX4_sumOfRow := goodIn_r _ [6, 1, 7, 8, 9, 5, 10, 11, 12, 13, 14, 15, 16, 17] (by decide +kernel) (by decide +kernel)
set_option maxRecDepth 20000 in
theorem gX4_sumOfAll_X4_sumOfRow : GoodIn wsX4_sumOfAll (wsV RX4 53 RX4 yX4_sumOfRow wsX4_sumOfRow) := goodIn_app (goodIn_of _ (by decide +kernel)) ggX4_sumOfAll_X4_sumOfRow
theorem dX4_sumOfAll_0 : decode cX4_sumOfAll 0 = .ok (.iconst 0, 1) := by decide +kernel
theorem dX4_sumOfAll_1 : decode cX4_sumOfAll 1 = .ok (.istore_n 1, 1) := by decide +kernel
theorem dX4_sumOfAll_2 : decode cX4_sumOfAll 2 = .ok (.iconst 0, 1) := by decide +kernel
theorem dX4_sumOfAll_3 : decode cX4_sumOfAll 3 = .ok (.istore_n 2, 1) := by decide +kernel
theorem dX4_sumOfAll_4 : decode cX4_sumOfAll 4 = .ok (.iload_n 2, 1) := by decide +kernel
theorem dX4_sumOfAll_5 : decode cX4_sumOfAll 5 = .ok (.aload_n 0, 1) := by decide +kernel
theorem dX4_sumOfAll_6 : decode cX4_sumOfAll 6 = .ok (.getfield 15, 3) := by decide +kernel
theorem dX4_sumOfAll_9 : decode cX4_sumOfAll 9 = .ok (.if_icmp .ge 17, 3) := by decide +kernel
theorem dX4_sumOfAll_12 : decode cX4_sumOfAll 12 = .ok (.iload_n 1, 1) := by decide +kernel
theorem dX4_sumOfAll_13 : decode cX4_sumOfAll 13 = .ok (.aload_n 0, 1) := by decide +kernel
theorem dX4_sumOfAll_14 : decode cX4_sumOfAll 14 = .ok (.iload_n 2, 1) := by decide +kernel
theorem dX4_sumOfAll_15 : decode cX4_sumOfAll 15 = .ok (.invokevirtual 53, 3) := by decide +kernel
theorem dX4_sumOfAll_18 : decode cX4_sumOfAll 18 = .ok (.iadd, 1) := by decide +kernel
theorem dX4_sumOfAll_19 : decode cX4_sumOfAll 19 = .ok (.istore_n 1, 1) := by decide +kernel
theorem dX4_sumOfAll_20 : decode cX4_sumOfAll 20 = .ok (.iinc 2 1, 3) := by decide +kernel
theorem dX4_sumOfAll_23 : decode cX4_sumOfAll 23 = .ok (.goto (-19), 3) := by decide +kernel
theorem dX4_sumOfAll_26 : decode cX4_sumOfAll 26 = .ok (.iload_n 1, 1) := by decide +kernel
theorem dX4_sumOfAll_27 : decode cX4_sumOfAll 27 = .ok (.ireturn, 1) := by decide +kernel
set_option maxRecDepth 20000 in
theorem ggX4_greatest_X4_at : GoodIn wsX4_greatest wsX4_at := goodIn_r _ [10, 11, 12, 13, 14, 9, 15, 1, 16, 17] (by decide +kernel) (by decide +kernel)
set_option maxRecDepth 20000 in
theorem gX4_greatest_X4_at : GoodIn wsX4_greatest (wsV RX4 36 RX4 yX4_at wsX4_at) := goodIn_app (goodIn_of _ (by decide +kernel)) ggX4_greatest_X4_at
theorem dX4_greatest_0 : decode cX4_greatest 0 = .ok (.aload_n 0, 1) := by decide +kernel
theorem dX4_greatest_1 : decode cX4_greatest 1 = .ok (.iconst 0, 1) := by decide +kernel
theorem dX4_greatest_2 : decode cX4_greatest 2 = .ok (.iconst 0, 1) := by decide +kernel
theorem dX4_greatest_3 : decode cX4_greatest 3 = .ok (.invokevirtual 36, 3) := by decide +kernel
theorem dX4_greatest_6 : decode cX4_greatest 6 = .ok (.istore_n 1, 1) := by decide +kernel
theorem dX4_greatest_7 : decode cX4_greatest 7 = .ok (.iconst 0, 1) := by decide +kernel
theorem dX4_greatest_8 : decode cX4_greatest 8 = .ok (.istore_n 2, 1) := by decide +kernel
theorem dX4_greatest_9 : decode cX4_greatest 9 = .ok (.iload_n 2, 1) := by decide +kernel
theorem dX4_greatest_10 : decode cX4_greatest 10 = .ok (.aload_n 0, 1) := by decide +kernel
theorem dX4_greatest_11 : decode cX4_greatest 11 = .ok (.getfield 15, 3) := by decide +kernel
theorem dX4_greatest_14 : decode cX4_greatest 14 = .ok (.if_icmp .ge 36, 3) := by decide +kernel
theorem dX4_greatest_17 : decode cX4_greatest 17 = .ok (.iconst 0, 1) := by decide +kernel
theorem dX4_greatest_18 : decode cX4_greatest 18 = .ok (.istore_n 3, 1) := by decide +kernel
theorem dX4_greatest_19 : decode cX4_greatest 19 = .ok (.iload_n 3, 1) := by decide +kernel
theorem dX4_greatest_20 : decode cX4_greatest 20 = .ok (.aload_n 0, 1) := by decide +kernel
theorem dX4_greatest_21 : decode cX4_greatest 21 = .ok (.getfield 15, 3) := by decide +kernel
theorem dX4_greatest_24 : decode cX4_greatest 24 = .ok (.if_icmp .ge 20, 3) := by decide +kernel
theorem dX4_greatest_27 : decode cX4_greatest 27 = .ok (.iload_n 1, 1) := by decide +kernel
theorem dX4_greatest_28 : decode cX4_greatest 28 = .ok (.aload_n 0, 1) := by decide +kernel
theorem dX4_greatest_29 : decode cX4_greatest 29 = .ok (.iload_n 2, 1) := by decide +kernel
theorem dX4_greatest_30 : decode cX4_greatest 30 = .ok (.iload_n 3, 1) := by decide +kernel
theorem dX4_greatest_31 : decode cX4_greatest 31 = .ok (.invokevirtual 36, 3) := by decide +kernel
theorem dX4_greatest_34 : decode cX4_greatest 34 = .ok (.invokestatic 56, 3) := by decide +kernel
theorem dX4_greatest_37 : decode cX4_greatest 37 = .ok (.istore_n 1, 1) := by decide +kernel
theorem dX4_greatest_38 : decode cX4_greatest 38 = .ok (.iinc 3 1, 3) := by decide +kernel
theorem dX4_greatest_41 : decode cX4_greatest 41 = .ok (.goto (-22), 3) := by decide +kernel
theorem dX4_greatest_44 : decode cX4_greatest 44 = .ok (.iinc 2 1, 3) := by decide +kernel
theorem dX4_greatest_47 : decode cX4_greatest 47 = .ok (.goto (-38), 3) := by decide +kernel
theorem dX4_greatest_50 : decode cX4_greatest 50 = .ok (.iload_n 1, 1) := by decide +kernel
theorem dX4_greatest_51 : decode cX4_greatest 51 = .ok (.ireturn, 1) := by decide +kernel
set_option maxRecDepth 20000 in
theorem ggX4_least_X4_at : GoodIn wsX4_least wsX4_at := goodIn_r _ [10, 11, 12, 13, 14, 9, 15, 1, 16, 17] (by decide +kernel) (by decide +kernel)
set_option maxRecDepth 20000 in
theorem gX4_least_X4_at : GoodIn wsX4_least (wsV RX4 36 RX4 yX4_at wsX4_at) := goodIn_app (goodIn_of _ (by decide +kernel)) ggX4_least_X4_at
theorem dX4_least_0 : decode cX4_least 0 = .ok (.aload_n 0, 1) := by decide +kernel
theorem dX4_least_1 : decode cX4_least 1 = .ok (.iconst 0, 1) := by decide +kernel
theorem dX4_least_2 : decode cX4_least 2 = .ok (.iconst 0, 1) := by decide +kernel
theorem dX4_least_3 : decode cX4_least 3 = .ok (.invokevirtual 36, 3) := by decide +kernel
theorem dX4_least_6 : decode cX4_least 6 = .ok (.istore_n 1, 1) := by decide +kernel
theorem dX4_least_7 : decode cX4_least 7 = .ok (.iconst 0, 1) := by decide +kernel
theorem dX4_least_8 : decode cX4_least 8 = .ok (.istore_n 2, 1) := by decide +kernel
theorem dX4_least_9 : decode cX4_least 9 = .ok (.iload_n 2, 1) := by decide +kernel
theorem dX4_least_10 : decode cX4_least 10 = .ok (.aload_n 0, 1) := by decide +kernel
theorem dX4_least_11 : decode cX4_least 11 = .ok (.getfield 15, 3) := by decide +kernel
theorem dX4_least_14 : decode cX4_least 14 = .ok (.if_icmp .ge 36, 3) := by decide +kernel
theorem dX4_least_17 : decode cX4_least 17 = .ok (.iconst 0, 1) := by decide +kernel
theorem dX4_least_18 : decode cX4_least 18 = .ok (.istore_n 3, 1) := by decide +kernel
theorem dX4_least_19 : decode cX4_least 19 = .ok (.iload_n 3, 1) := by decide +kernel
theorem dX4_least_20 : decode cX4_least 20 = .ok (.aload_n 0, 1) := by decide +kernel
theorem dX4_least_21 : decode cX4_least 21 = .ok (.getfield 15, 3) := by decide +kernel
theorem dX4_least_24 : decode cX4_least 24 = .ok (.if_icmp .ge 20, 3) := by decide +kernel
theorem dX4_least_27 : decode cX4_least 27 = .ok (.iload_n 1, 1) := by decide +kernel
theorem dX4_least_28 : decode cX4_least 28 = .ok (.aload_n 0, 1) := by decide +kernel
theorem dX4_least_29 : decode cX4_least 29 = .ok (.iload_n 2, 1) := by decide +kernel
theorem dX4_least_30 : decode cX4_least 30 = .ok (.iload_n 3, 1) := by decide +kernel
theorem dX4_least_31 : decode cX4_least 31 = .ok (.invokevirtual 36, 3) := by decide +kernel
theorem dX4_least_34 : decode cX4_least 34 = .ok (.invokestatic 61, 3) := by decide +kernel
theorem dX4_least_37 : decode cX4_least 37 = .ok (.istore_n 1, 1) := by decide +kernel
theorem dX4_least_38 : decode cX4_least 38 = .ok (.iinc 3 1, 3) := by decide +kernel
theorem dX4_least_41 : decode cX4_least 41 = .ok (.goto (-22), 3) := by decide +kernel
theorem dX4_least_44 : decode cX4_least 44 = .ok (.iinc 2 1, 3) := by decide +kernel
theorem dX4_least_47 : decode cX4_least 47 = .ok (.goto (-38), 3) := by decide +kernel
theorem dX4_least_50 : decode cX4_least 50 = .ok (.iload_n 1, 1) := by decide +kernel
theorem dX4_least_51 : decode cX4_least 51 = .ok (.ireturn, 1) := by decide +kernel
set_option maxRecDepth 20000 in
theorem ggX4_isSymmetric_X4_at : GoodIn wsX4_isSymmetric wsX4_at := goodIn_r _ [6, 7, 8, 9, 10, 5, 11, 1, 12, 13] (by decide +kernel) (by decide +kernel)
set_option maxRecDepth 20000 in
theorem gX4_isSymmetric_X4_at : GoodIn wsX4_isSymmetric (wsV RX4 36 RX4 yX4_at wsX4_at) := goodIn_app (goodIn_of _ (by decide +kernel)) ggX4_isSymmetric_X4_at
theorem dX4_isSymmetric_0 : decode cX4_isSymmetric 0 = .ok (.iconst 1, 1) := by decide +kernel
theorem dX4_isSymmetric_1 : decode cX4_isSymmetric 1 = .ok (.istore_n 1, 1) := by decide +kernel
theorem dX4_isSymmetric_2 : decode cX4_isSymmetric 2 = .ok (.iload_n 1, 1) := by decide +kernel
theorem dX4_isSymmetric_3 : decode cX4_isSymmetric 3 = .ok (.aload_n 0, 1) := by decide +kernel
theorem dX4_isSymmetric_4 : decode cX4_isSymmetric 4 = .ok (.getfield 15, 3) := by decide +kernel
theorem dX4_isSymmetric_7 : decode cX4_isSymmetric 7 = .ok (.if_icmp .ge 39, 3) := by decide +kernel
theorem dX4_isSymmetric_10 : decode cX4_isSymmetric 10 = .ok (.iconst 0, 1) := by decide +kernel
theorem dX4_isSymmetric_11 : decode cX4_isSymmetric 11 = .ok (.istore_n 2, 1) := by decide +kernel
theorem dX4_isSymmetric_12 : decode cX4_isSymmetric 12 = .ok (.iload_n 2, 1) := by decide +kernel
theorem dX4_isSymmetric_13 : decode cX4_isSymmetric 13 = .ok (.iload_n 1, 1) := by decide +kernel
theorem dX4_isSymmetric_14 : decode cX4_isSymmetric 14 = .ok (.if_icmp .ge 26, 3) := by decide +kernel
theorem dX4_isSymmetric_17 : decode cX4_isSymmetric 17 = .ok (.aload_n 0, 1) := by decide +kernel
theorem dX4_isSymmetric_18 : decode cX4_isSymmetric 18 = .ok (.iload_n 1, 1) := by decide +kernel
theorem dX4_isSymmetric_19 : decode cX4_isSymmetric 19 = .ok (.iload_n 2, 1) := by decide +kernel
theorem dX4_isSymmetric_20 : decode cX4_isSymmetric 20 = .ok (.invokevirtual 36, 3) := by decide +kernel
theorem dX4_isSymmetric_23 : decode cX4_isSymmetric 23 = .ok (.aload_n 0, 1) := by decide +kernel
theorem dX4_isSymmetric_24 : decode cX4_isSymmetric 24 = .ok (.iload_n 2, 1) := by decide +kernel
theorem dX4_isSymmetric_25 : decode cX4_isSymmetric 25 = .ok (.iload_n 1, 1) := by decide +kernel
theorem dX4_isSymmetric_26 : decode cX4_isSymmetric 26 = .ok (.invokevirtual 36, 3) := by decide +kernel
theorem dX4_isSymmetric_29 : decode cX4_isSymmetric 29 = .ok (.if_icmp .eq 5, 3) := by decide +kernel
theorem dX4_isSymmetric_32 : decode cX4_isSymmetric 32 = .ok (.iconst 0, 1) := by decide +kernel
theorem dX4_isSymmetric_33 : decode cX4_isSymmetric 33 = .ok (.ireturn, 1) := by decide +kernel
theorem dX4_isSymmetric_34 : decode cX4_isSymmetric 34 = .ok (.iinc 2 1, 3) := by decide +kernel
theorem dX4_isSymmetric_37 : decode cX4_isSymmetric 37 = .ok (.goto (-25), 3) := by decide +kernel
theorem dX4_isSymmetric_40 : decode cX4_isSymmetric 40 = .ok (.iinc 1 1, 3) := by decide +kernel
theorem dX4_isSymmetric_43 : decode cX4_isSymmetric 43 = .ok (.goto (-41), 3) := by decide +kernel
theorem dX4_isSymmetric_46 : decode cX4_isSymmetric 46 = .ok (.iconst 1, 1) := by decide +kernel
theorem dX4_isSymmetric_47 : decode cX4_isSymmetric 47 = .ok (.ireturn, 1) := by decide +kernel
set_option maxRecDepth 20000 in
theorem ggX4_hasLikeSums_X4_sumOfRow : GoodIn wsX4_hasLikeSums wsX4_sumOfRow := goodIn_r _ [6, 1, 7, 8, 9, 5, 10, 11, 12, 13, 14, 15, 20, 21] (by decide +kernel) (by decide +kernel)
set_option maxRecDepth 20000 in
theorem gX4_hasLikeSums_X4_sumOfRow : GoodIn wsX4_hasLikeSums (wsV RX4 53 RX4 yX4_sumOfRow wsX4_sumOfRow) := goodIn_app (goodIn_of _ (by decide +kernel)) ggX4_hasLikeSums_X4_sumOfRow
set_option maxRecDepth 20000 in
theorem ggX4_hasLikeSums_X4_sumOfColumn : GoodIn wsX4_hasLikeSums wsX4_sumOfColumn := goodIn_r _ [19, 1, 7, 8, 9, 5, 10, 11, 12, 13, 14, 15, 20, 21] (by decide +kernel) (by decide +kernel)
set_option maxRecDepth 20000 in
theorem gX4_hasLikeSums_X4_sumOfColumn : GoodIn wsX4_hasLikeSums (wsV RX4 64 RX4 yX4_sumOfColumn wsX4_sumOfColumn) := goodIn_app (goodIn_of _ (by decide +kernel)) ggX4_hasLikeSums_X4_sumOfColumn
theorem dX4_hasLikeSums_0 : decode cX4_hasLikeSums 0 = .ok (.aload_n 0, 1) := by decide +kernel
theorem dX4_hasLikeSums_1 : decode cX4_hasLikeSums 1 = .ok (.iconst 0, 1) := by decide +kernel
theorem dX4_hasLikeSums_2 : decode cX4_hasLikeSums 2 = .ok (.invokevirtual 53, 3) := by decide +kernel
theorem dX4_hasLikeSums_5 : decode cX4_hasLikeSums 5 = .ok (.istore_n 1, 1) := by decide +kernel
theorem dX4_hasLikeSums_6 : decode cX4_hasLikeSums 6 = .ok (.iconst 0, 1) := by decide +kernel
theorem dX4_hasLikeSums_7 : decode cX4_hasLikeSums 7 = .ok (.istore_n 2, 1) := by decide +kernel
theorem dX4_hasLikeSums_8 : decode cX4_hasLikeSums 8 = .ok (.iload_n 2, 1) := by decide +kernel
theorem dX4_hasLikeSums_9 : decode cX4_hasLikeSums 9 = .ok (.aload_n 0, 1) := by decide +kernel
theorem dX4_hasLikeSums_10 : decode cX4_hasLikeSums 10 = .ok (.getfield 15, 3) := by decide +kernel
theorem dX4_hasLikeSums_13 : decode cX4_hasLikeSums 13 = .ok (.if_icmp .ge 29, 3) := by decide +kernel
theorem dX4_hasLikeSums_16 : decode cX4_hasLikeSums 16 = .ok (.aload_n 0, 1) := by decide +kernel
theorem dX4_hasLikeSums_17 : decode cX4_hasLikeSums 17 = .ok (.iload_n 2, 1) := by decide +kernel
theorem dX4_hasLikeSums_18 : decode cX4_hasLikeSums 18 = .ok (.invokevirtual 53, 3) := by decide +kernel
theorem dX4_hasLikeSums_21 : decode cX4_hasLikeSums 21 = .ok (.iload_n 1, 1) := by decide +kernel
theorem dX4_hasLikeSums_22 : decode cX4_hasLikeSums 22 = .ok (.if_icmp .ne 12, 3) := by decide +kernel
theorem dX4_hasLikeSums_25 : decode cX4_hasLikeSums 25 = .ok (.aload_n 0, 1) := by decide +kernel
theorem dX4_hasLikeSums_26 : decode cX4_hasLikeSums 26 = .ok (.iload_n 2, 1) := by decide +kernel
theorem dX4_hasLikeSums_27 : decode cX4_hasLikeSums 27 = .ok (.invokevirtual 64, 3) := by decide +kernel
theorem dX4_hasLikeSums_30 : decode cX4_hasLikeSums 30 = .ok (.iload_n 1, 1) := by decide +kernel
theorem dX4_hasLikeSums_31 : decode cX4_hasLikeSums 31 = .ok (.if_icmp .eq 5, 3) := by decide +kernel
theorem dX4_hasLikeSums_34 : decode cX4_hasLikeSums 34 = .ok (.iconst 0, 1) := by decide +kernel
theorem dX4_hasLikeSums_35 : decode cX4_hasLikeSums 35 = .ok (.ireturn, 1) := by decide +kernel
theorem dX4_hasLikeSums_36 : decode cX4_hasLikeSums 36 = .ok (.iinc 2 1, 3) := by decide +kernel
theorem dX4_hasLikeSums_39 : decode cX4_hasLikeSums 39 = .ok (.goto (-31), 3) := by decide +kernel
theorem dX4_hasLikeSums_42 : decode cX4_hasLikeSums 42 = .ok (.iconst 1, 1) := by decide +kernel
theorem dX4_hasLikeSums_43 : decode cX4_hasLikeSums 43 = .ok (.ireturn, 1) := by decide +kernel
set_option maxRecDepth 20000 in
theorem ggX4_hasDiagonal_X4_has : GoodIn wsX4_hasDiagonal wsX4_has := goodIn_r _ [6, 1, 7, 8] (by decide +kernel) (by decide +kernel)
set_option maxRecDepth 20000 in
theorem gX4_hasDiagonal_X4_has : GoodIn wsX4_hasDiagonal (wsV RX4 19 RX4 yX4_has wsX4_has) := goodIn_app (goodIn_of _ (by decide +kernel)) ggX4_hasDiagonal_X4_has
theorem dX4_hasDiagonal_0 : decode cX4_hasDiagonal 0 = .ok (.iload_n 1, 1) := by decide +kernel
theorem dX4_hasDiagonal_1 : decode cX4_hasDiagonal 1 = .ok (.ifCond .ge 5, 3) := by decide +kernel
theorem dX4_hasDiagonal_4 : decode cX4_hasDiagonal 4 = .ok (.iconst 0, 1) := by decide +kernel
theorem dX4_hasDiagonal_5 : decode cX4_hasDiagonal 5 = .ok (.ireturn, 1) := by decide +kernel
theorem dX4_hasDiagonal_6 : decode cX4_hasDiagonal 6 = .ok (.iconst 0, 1) := by decide +kernel
theorem dX4_hasDiagonal_7 : decode cX4_hasDiagonal 7 = .ok (.istore_n 2, 1) := by decide +kernel
theorem dX4_hasDiagonal_8 : decode cX4_hasDiagonal 8 = .ok (.iload_n 1, 1) := by decide +kernel
theorem dX4_hasDiagonal_9 : decode cX4_hasDiagonal 9 = .ok (.istore_n 3, 1) := by decide +kernel
theorem dX4_hasDiagonal_10 : decode cX4_hasDiagonal 10 = .ok (.aload_n 0, 1) := by decide +kernel
theorem dX4_hasDiagonal_11 : decode cX4_hasDiagonal 11 = .ok (.getfield 15, 3) := by decide +kernel
theorem dX4_hasDiagonal_14 : decode cX4_hasDiagonal 14 = .ok (.iconst 1, 1) := by decide +kernel
theorem dX4_hasDiagonal_15 : decode cX4_hasDiagonal 15 = .ok (.isub, 1) := by decide +kernel
theorem dX4_hasDiagonal_16 : decode cX4_hasDiagonal 16 = .ok (.istore 4, 2) := by decide +kernel
theorem dX4_hasDiagonal_18 : decode cX4_hasDiagonal 18 = .ok (.iload 4, 2) := by decide +kernel
theorem dX4_hasDiagonal_20 : decode cX4_hasDiagonal 20 = .ok (.ifCond .lt 47, 3) := by decide +kernel
theorem dX4_hasDiagonal_23 : decode cX4_hasDiagonal 23 = .ok (.iload_n 3, 1) := by decide +kernel
theorem dX4_hasDiagonal_24 : decode cX4_hasDiagonal 24 = .ok (.bipush 10, 2) := by decide +kernel
theorem dX4_hasDiagonal_26 : decode cX4_hasDiagonal 26 = .ok (.irem, 1) := by decide +kernel
theorem dX4_hasDiagonal_27 : decode cX4_hasDiagonal 27 = .ok (.istore 5, 2) := by decide +kernel
theorem dX4_hasDiagonal_29 : decode cX4_hasDiagonal 29 = .ok (.aload_n 0, 1) := by decide +kernel
theorem dX4_hasDiagonal_30 : decode cX4_hasDiagonal 30 = .ok (.iload 5, 2) := by decide +kernel
theorem dX4_hasDiagonal_32 : decode cX4_hasDiagonal 32 = .ok (.invokevirtual 19, 3) := by decide +kernel
theorem dX4_hasDiagonal_35 : decode cX4_hasDiagonal 35 = .ok (.ifCond .eq 12, 3) := by decide +kernel
theorem dX4_hasDiagonal_38 : decode cX4_hasDiagonal 38 = .ok (.iload_n 2, 1) := by decide +kernel
theorem dX4_hasDiagonal_39 : decode cX4_hasDiagonal 39 = .ok (.iconst 1, 1) := by decide +kernel
theorem dX4_hasDiagonal_40 : decode cX4_hasDiagonal 40 = .ok (.iload 5, 2) := by decide +kernel
theorem dX4_hasDiagonal_42 : decode cX4_hasDiagonal 42 = .ok (.ishl, 1) := by decide +kernel
theorem dX4_hasDiagonal_43 : decode cX4_hasDiagonal 43 = .ok (.iand, 1) := by decide +kernel
theorem dX4_hasDiagonal_44 : decode cX4_hasDiagonal 44 = .ok (.ifCond .eq 5, 3) := by decide +kernel
theorem dX4_hasDiagonal_47 : decode cX4_hasDiagonal 47 = .ok (.iconst 0, 1) := by decide +kernel
theorem dX4_hasDiagonal_48 : decode cX4_hasDiagonal 48 = .ok (.ireturn, 1) := by decide +kernel
theorem dX4_hasDiagonal_49 : decode cX4_hasDiagonal 49 = .ok (.iload_n 2, 1) := by decide +kernel
theorem dX4_hasDiagonal_50 : decode cX4_hasDiagonal 50 = .ok (.iconst 1, 1) := by decide +kernel
theorem dX4_hasDiagonal_51 : decode cX4_hasDiagonal 51 = .ok (.iload 5, 2) := by decide +kernel
theorem dX4_hasDiagonal_53 : decode cX4_hasDiagonal 53 = .ok (.ishl, 1) := by decide +kernel
theorem dX4_hasDiagonal_54 : decode cX4_hasDiagonal 54 = .ok (.ior, 1) := by decide +kernel
theorem dX4_hasDiagonal_55 : decode cX4_hasDiagonal 55 = .ok (.istore_n 2, 1) := by decide +kernel
theorem dX4_hasDiagonal_56 : decode cX4_hasDiagonal 56 = .ok (.iload_n 3, 1) := by decide +kernel
theorem dX4_hasDiagonal_57 : decode cX4_hasDiagonal 57 = .ok (.bipush 10, 2) := by decide +kernel
theorem dX4_hasDiagonal_59 : decode cX4_hasDiagonal 59 = .ok (.idiv, 1) := by decide +kernel
theorem dX4_hasDiagonal_60 : decode cX4_hasDiagonal 60 = .ok (.istore_n 3, 1) := by decide +kernel
theorem dX4_hasDiagonal_61 : decode cX4_hasDiagonal 61 = .ok (.iinc 4 (-1), 3) := by decide +kernel
theorem dX4_hasDiagonal_64 : decode cX4_hasDiagonal 64 = .ok (.goto (-46), 3) := by decide +kernel
theorem dX4_hasDiagonal_67 : decode cX4_hasDiagonal 67 = .ok (.iload_n 3, 1) := by decide +kernel
theorem dX4_hasDiagonal_68 : decode cX4_hasDiagonal 68 = .ok (.ifCond .ne 7, 3) := by decide +kernel
theorem dX4_hasDiagonal_71 : decode cX4_hasDiagonal 71 = .ok (.iconst 1, 1) := by decide +kernel
theorem dX4_hasDiagonal_72 : decode cX4_hasDiagonal 72 = .ok (.goto 4, 3) := by decide +kernel
theorem dX4_hasDiagonal_75 : decode cX4_hasDiagonal 75 = .ok (.iconst 0, 1) := by decide +kernel
theorem dX4_hasDiagonal_76 : decode cX4_hasDiagonal 76 = .ok (.ireturn, 1) := by decide +kernel
set_option maxRecDepth 20000 in
theorem ggX4_greatestOn_X4_at : GoodIn wsX4_greatestOn wsX4_at := goodIn_r _ [10, 11, 12, 13, 14, 9, 15, 1, 16, 17] (by decide +kernel) (by decide +kernel)
set_option maxRecDepth 20000 in
theorem gX4_greatestOn_X4_at : GoodIn wsX4_greatestOn (wsV RX4 36 RX4 yX4_at wsX4_at) := goodIn_app (goodIn_of _ (by decide +kernel)) ggX4_greatestOn_X4_at
theorem dX4_greatestOn_0 : decode cX4_greatestOn 0 = .ok (.bipush (-20), 2) := by decide +kernel
theorem dX4_greatestOn_2 : decode cX4_greatestOn 2 = .ok (.istore_n 2, 1) := by decide +kernel
theorem dX4_greatestOn_3 : decode cX4_greatestOn 3 = .ok (.iload_n 1, 1) := by decide +kernel
theorem dX4_greatestOn_4 : decode cX4_greatestOn 4 = .ok (.istore_n 3, 1) := by decide +kernel
theorem dX4_greatestOn_5 : decode cX4_greatestOn 5 = .ok (.aload_n 0, 1) := by decide +kernel
theorem dX4_greatestOn_6 : decode cX4_greatestOn 6 = .ok (.getfield 15, 3) := by decide +kernel
theorem dX4_greatestOn_9 : decode cX4_greatestOn 9 = .ok (.iconst 1, 1) := by decide +kernel
theorem dX4_greatestOn_10 : decode cX4_greatestOn 10 = .ok (.isub, 1) := by decide +kernel
theorem dX4_greatestOn_11 : decode cX4_greatestOn 11 = .ok (.istore 4, 2) := by decide +kernel
theorem dX4_greatestOn_13 : decode cX4_greatestOn 13 = .ok (.iload 4, 2) := by decide +kernel
theorem dX4_greatestOn_15 : decode cX4_greatestOn 15 = .ok (.ifCond .lt 29, 3) := by decide +kernel
theorem dX4_greatestOn_18 : decode cX4_greatestOn 18 = .ok (.iload_n 2, 1) := by decide +kernel
theorem dX4_greatestOn_19 : decode cX4_greatestOn 19 = .ok (.aload_n 0, 1) := by decide +kernel
theorem dX4_greatestOn_20 : decode cX4_greatestOn 20 = .ok (.iload 4, 2) := by decide +kernel
theorem dX4_greatestOn_22 : decode cX4_greatestOn 22 = .ok (.iload_n 3, 1) := by decide +kernel
theorem dX4_greatestOn_23 : decode cX4_greatestOn 23 = .ok (.bipush 10, 2) := by decide +kernel
theorem dX4_greatestOn_25 : decode cX4_greatestOn 25 = .ok (.irem, 1) := by decide +kernel
theorem dX4_greatestOn_26 : decode cX4_greatestOn 26 = .ok (.invokevirtual 36, 3) := by decide +kernel
theorem dX4_greatestOn_29 : decode cX4_greatestOn 29 = .ok (.invokestatic 56, 3) := by decide +kernel
theorem dX4_greatestOn_32 : decode cX4_greatestOn 32 = .ok (.istore_n 2, 1) := by decide +kernel
theorem dX4_greatestOn_33 : decode cX4_greatestOn 33 = .ok (.iload_n 3, 1) := by decide +kernel
theorem dX4_greatestOn_34 : decode cX4_greatestOn 34 = .ok (.bipush 10, 2) := by decide +kernel
theorem dX4_greatestOn_36 : decode cX4_greatestOn 36 = .ok (.idiv, 1) := by decide +kernel
theorem dX4_greatestOn_37 : decode cX4_greatestOn 37 = .ok (.istore_n 3, 1) := by decide +kernel
theorem dX4_greatestOn_38 : decode cX4_greatestOn 38 = .ok (.iinc 4 (-1), 3) := by decide +kernel
theorem dX4_greatestOn_41 : decode cX4_greatestOn 41 = .ok (.goto (-28), 3) := by decide +kernel
theorem dX4_greatestOn_44 : decode cX4_greatestOn 44 = .ok (.iload_n 2, 1) := by decide +kernel
theorem dX4_greatestOn_45 : decode cX4_greatestOn 45 = .ok (.ireturn, 1) := by decide +kernel
set_option maxRecDepth 20000 in
theorem ggX4_sumOn_X4_at : GoodIn wsX4_sumOn wsX4_at := goodIn_r _ [6, 7, 8, 9, 10, 5, 11, 1, 12, 13] (by decide +kernel) (by decide +kernel)
set_option maxRecDepth 20000 in
theorem gX4_sumOn_X4_at : GoodIn wsX4_sumOn (wsV RX4 36 RX4 yX4_at wsX4_at) := goodIn_app (goodIn_of _ (by decide +kernel)) ggX4_sumOn_X4_at
theorem dX4_sumOn_0 : decode cX4_sumOn 0 = .ok (.iconst 0, 1) := by decide +kernel
theorem dX4_sumOn_1 : decode cX4_sumOn 1 = .ok (.istore_n 2, 1) := by decide +kernel
theorem dX4_sumOn_2 : decode cX4_sumOn 2 = .ok (.iload_n 1, 1) := by decide +kernel
theorem dX4_sumOn_3 : decode cX4_sumOn 3 = .ok (.istore_n 3, 1) := by decide +kernel
theorem dX4_sumOn_4 : decode cX4_sumOn 4 = .ok (.aload_n 0, 1) := by decide +kernel
theorem dX4_sumOn_5 : decode cX4_sumOn 5 = .ok (.getfield 15, 3) := by decide +kernel
theorem dX4_sumOn_8 : decode cX4_sumOn 8 = .ok (.iconst 1, 1) := by decide +kernel
theorem dX4_sumOn_9 : decode cX4_sumOn 9 = .ok (.isub, 1) := by decide +kernel
theorem dX4_sumOn_10 : decode cX4_sumOn 10 = .ok (.istore 4, 2) := by decide +kernel
theorem dX4_sumOn_12 : decode cX4_sumOn 12 = .ok (.iload 4, 2) := by decide +kernel
theorem dX4_sumOn_14 : decode cX4_sumOn 14 = .ok (.ifCond .lt 27, 3) := by decide +kernel
theorem dX4_sumOn_17 : decode cX4_sumOn 17 = .ok (.iload_n 2, 1) := by decide +kernel
theorem dX4_sumOn_18 : decode cX4_sumOn 18 = .ok (.aload_n 0, 1) := by decide +kernel
theorem dX4_sumOn_19 : decode cX4_sumOn 19 = .ok (.iload 4, 2) := by decide +kernel
theorem dX4_sumOn_21 : decode cX4_sumOn 21 = .ok (.iload_n 3, 1) := by decide +kernel
theorem dX4_sumOn_22 : decode cX4_sumOn 22 = .ok (.bipush 10, 2) := by decide +kernel
theorem dX4_sumOn_24 : decode cX4_sumOn 24 = .ok (.irem, 1) := by decide +kernel
theorem dX4_sumOn_25 : decode cX4_sumOn 25 = .ok (.invokevirtual 36, 3) := by decide +kernel
theorem dX4_sumOn_28 : decode cX4_sumOn 28 = .ok (.iadd, 1) := by decide +kernel
theorem dX4_sumOn_29 : decode cX4_sumOn 29 = .ok (.istore_n 2, 1) := by decide +kernel
theorem dX4_sumOn_30 : decode cX4_sumOn 30 = .ok (.iload_n 3, 1) := by decide +kernel
theorem dX4_sumOn_31 : decode cX4_sumOn 31 = .ok (.bipush 10, 2) := by decide +kernel
theorem dX4_sumOn_33 : decode cX4_sumOn 33 = .ok (.idiv, 1) := by decide +kernel
theorem dX4_sumOn_34 : decode cX4_sumOn 34 = .ok (.istore_n 3, 1) := by decide +kernel
theorem dX4_sumOn_35 : decode cX4_sumOn 35 = .ok (.iinc 4 (-1), 3) := by decide +kernel
theorem dX4_sumOn_38 : decode cX4_sumOn 38 = .ok (.goto (-26), 3) := by decide +kernel
theorem dX4_sumOn_41 : decode cX4_sumOn 41 = .ok (.iload_n 2, 1) := by decide +kernel
theorem dX4_sumOn_42 : decode cX4_sumOn 42 = .ok (.ireturn, 1) := by decide +kernel
set_option maxRecDepth 20000 in
theorem ggX4_increaseOn_X4_at : GoodIn wsX4_increaseOn wsX4_at := goodIn_r _ [6, 7, 8, 9, 10, 5, 11, 1, 16, 17] (by decide +kernel) (by decide +kernel)
set_option maxRecDepth 20000 in
theorem gX4_increaseOn_X4_at : GoodIn wsX4_increaseOn (wsV RX4 36 RX4 yX4_at wsX4_at) := goodIn_app (goodIn_of _ (by decide +kernel)) ggX4_increaseOn_X4_at
set_option maxRecDepth 20000 in
theorem ggX4_increaseOn_X4_put : GoodIn wsX4_increaseOn wsX4_put := goodIn_r _ [15, 7, 8, 9, 10, 5, 11, 1, 16, 17] (by decide +kernel) (by decide +kernel)
set_option maxRecDepth 20000 in
theorem gX4_increaseOn_X4_put : GoodIn wsX4_increaseOn (wsV RX4 40 RX4 yX4_put wsX4_put) := goodIn_app (goodIn_of _ (by decide +kernel)) ggX4_increaseOn_X4_put
theorem dX4_increaseOn_0 : decode cX4_increaseOn 0 = .ok (.iload_n 1, 1) := by decide +kernel
theorem dX4_increaseOn_1 : decode cX4_increaseOn 1 = .ok (.istore_n 3, 1) := by decide +kernel
theorem dX4_increaseOn_2 : decode cX4_increaseOn 2 = .ok (.aload_n 0, 1) := by decide +kernel
theorem dX4_increaseOn_3 : decode cX4_increaseOn 3 = .ok (.getfield 15, 3) := by decide +kernel
theorem dX4_increaseOn_6 : decode cX4_increaseOn 6 = .ok (.iconst 1, 1) := by decide +kernel
theorem dX4_increaseOn_7 : decode cX4_increaseOn 7 = .ok (.isub, 1) := by decide +kernel
theorem dX4_increaseOn_8 : decode cX4_increaseOn 8 = .ok (.istore 4, 2) := by decide +kernel
theorem dX4_increaseOn_10 : decode cX4_increaseOn 10 = .ok (.iload 4, 2) := by decide +kernel
theorem dX4_increaseOn_12 : decode cX4_increaseOn 12 = .ok (.ifCond .lt 38, 3) := by decide +kernel
theorem dX4_increaseOn_15 : decode cX4_increaseOn 15 = .ok (.iload_n 3, 1) := by decide +kernel
theorem dX4_increaseOn_16 : decode cX4_increaseOn 16 = .ok (.bipush 10, 2) := by decide +kernel
theorem dX4_increaseOn_18 : decode cX4_increaseOn 18 = .ok (.irem, 1) := by decide +kernel
theorem dX4_increaseOn_19 : decode cX4_increaseOn 19 = .ok (.istore 5, 2) := by decide +kernel
theorem dX4_increaseOn_21 : decode cX4_increaseOn 21 = .ok (.aload_n 0, 1) := by decide +kernel
theorem dX4_increaseOn_22 : decode cX4_increaseOn 22 = .ok (.iload 4, 2) := by decide +kernel
theorem dX4_increaseOn_24 : decode cX4_increaseOn 24 = .ok (.iload 5, 2) := by decide +kernel
theorem dX4_increaseOn_26 : decode cX4_increaseOn 26 = .ok (.aload_n 0, 1) := by decide +kernel
theorem dX4_increaseOn_27 : decode cX4_increaseOn 27 = .ok (.iload 4, 2) := by decide +kernel
theorem dX4_increaseOn_29 : decode cX4_increaseOn 29 = .ok (.iload 5, 2) := by decide +kernel
theorem dX4_increaseOn_31 : decode cX4_increaseOn 31 = .ok (.invokevirtual 36, 3) := by decide +kernel
theorem dX4_increaseOn_34 : decode cX4_increaseOn 34 = .ok (.iload_n 2, 1) := by decide +kernel
theorem dX4_increaseOn_35 : decode cX4_increaseOn 35 = .ok (.iadd, 1) := by decide +kernel
theorem dX4_increaseOn_36 : decode cX4_increaseOn 36 = .ok (.invokevirtual 40, 3) := by decide +kernel
theorem dX4_increaseOn_39 : decode cX4_increaseOn 39 = .ok (.iload_n 3, 1) := by decide +kernel
theorem dX4_increaseOn_40 : decode cX4_increaseOn 40 = .ok (.bipush 10, 2) := by decide +kernel
theorem dX4_increaseOn_42 : decode cX4_increaseOn 42 = .ok (.idiv, 1) := by decide +kernel
theorem dX4_increaseOn_43 : decode cX4_increaseOn 43 = .ok (.istore_n 3, 1) := by decide +kernel
theorem dX4_increaseOn_44 : decode cX4_increaseOn 44 = .ok (.iinc 4 (-1), 3) := by decide +kernel
theorem dX4_increaseOn_47 : decode cX4_increaseOn 47 = .ok (.goto (-37), 3) := by decide +kernel
theorem dX4_increaseOn_50 : decode cX4_increaseOn 50 = .ok (.return_, 1) := by decide +kernel

theorem dX1_init_0 : decode cX1_init 0 = .ok (.aload_n 0, 1) := by decide +kernel
theorem dX1_init_1 : decode cX1_init 1 = .ok (.invokespecial 1, 3) := by decide +kernel
theorem dX1_init_4 : decode cX1_init 4 = .ok (.aload_n 0, 1) := by decide +kernel
theorem dX1_init_5 : decode cX1_init 5 = .ok (.bipush 60, 2) := by decide +kernel
theorem dX1_init_7 : decode cX1_init 7 = .ok (.newarray .int, 2) := by decide +kernel
theorem dX1_init_9 : decode cX1_init 9 = .ok (.putfield 7, 3) := by decide +kernel
theorem dX1_init_12 : decode cX1_init 12 = .ok (.aload_n 0, 1) := by decide +kernel
theorem dX1_init_13 : decode cX1_init 13 = .ok (.bipush 60, 2) := by decide +kernel
theorem dX1_init_15 : decode cX1_init 15 = .ok (.newarray .int, 2) := by decide +kernel
theorem dX1_init_17 : decode cX1_init 17 = .ok (.putfield 13, 3) := by decide +kernel
theorem dX1_init_20 : decode cX1_init 20 = .ok (.aload_n 0, 1) := by decide +kernel
theorem dX1_init_21 : decode cX1_init 21 = .ok (.bipush 60, 2) := by decide +kernel
theorem dX1_init_23 : decode cX1_init 23 = .ok (.newarray .int, 2) := by decide +kernel
theorem dX1_init_25 : decode cX1_init 25 = .ok (.putfield 16, 3) := by decide +kernel
theorem dX1_init_28 : decode cX1_init 28 = .ok (.aload_n 0, 1) := by decide +kernel
theorem dX1_init_29 : decode cX1_init 29 = .ok (.bipush 60, 2) := by decide +kernel
theorem dX1_init_31 : decode cX1_init 31 = .ok (.newarray .long, 2) := by decide +kernel
theorem dX1_init_33 : decode cX1_init 33 = .ok (.putfield 19, 3) := by decide +kernel
theorem dX1_init_36 : decode cX1_init 36 = .ok (.aload_n 0, 1) := by decide +kernel
theorem dX1_init_37 : decode cX1_init 37 = .ok (.bipush 60, 2) := by decide +kernel
theorem dX1_init_39 : decode cX1_init 39 = .ok (.newarray .long, 2) := by decide +kernel
theorem dX1_init_41 : decode cX1_init 41 = .ok (.putfield 23, 3) := by decide +kernel
theorem dX1_init_44 : decode cX1_init 44 = .ok (.aload_n 0, 1) := by decide +kernel
theorem dX1_init_45 : decode cX1_init 45 = .ok (.iconst 4, 1) := by decide +kernel
theorem dX1_init_46 : decode cX1_init 46 = .ok (.newarray .long, 2) := by decide +kernel
theorem dX1_init_48 : decode cX1_init 48 = .ok (.putfield 26, 3) := by decide +kernel
theorem dX1_init_51 : decode cX1_init 51 = .ok (.aload_n 0, 1) := by decide +kernel
theorem dX1_init_52 : decode cX1_init 52 = .ok (.bipush 60, 2) := by decide +kernel
theorem dX1_init_54 : decode cX1_init 54 = .ok (.newarray .int, 2) := by decide +kernel
theorem dX1_init_56 : decode cX1_init 56 = .ok (.putfield 29, 3) := by decide +kernel
theorem dX1_init_59 : decode cX1_init 59 = .ok (.return_, 1) := by decide +kernel
theorem dX1_thrown_0 : decode cX1_thrown 0 = .ok (.aload_n 0, 1) := by decide +kernel
theorem dX1_thrown_1 : decode cX1_thrown 1 = .ok (.getfield 32, 3) := by decide +kernel
theorem dX1_thrown_4 : decode cX1_thrown 4 = .ok (.ireturn, 1) := by decide +kernel
theorem dX1_in_0 : decode cX1_in 0 = .ok (.iload_n 0, 1) := by decide +kernel
theorem dX1_in_1 : decode cX1_in 1 = .ok (.iload_n 1, 1) := by decide +kernel
theorem dX1_in_2 : decode cX1_in 2 = .ok (.if_icmp .lt 12, 3) := by decide +kernel
theorem dX1_in_5 : decode cX1_in 5 = .ok (.iload_n 0, 1) := by decide +kernel
theorem dX1_in_6 : decode cX1_in 6 = .ok (.iload_n 2, 1) := by decide +kernel
theorem dX1_in_7 : decode cX1_in 7 = .ok (.if_icmp .gt 7, 3) := by decide +kernel
theorem dX1_in_10 : decode cX1_in 10 = .ok (.iconst 1, 1) := by decide +kernel
theorem dX1_in_11 : decode cX1_in 11 = .ok (.goto 4, 3) := by decide +kernel
theorem dX1_in_14 : decode cX1_in 14 = .ok (.iconst 0, 1) := by decide +kernel
theorem dX1_in_15 : decode cX1_in 15 = .ok (.ireturn, 1) := by decide +kernel
theorem dX1_asked_0 : decode cX1_asked 0 = .ok (.aload_n 0, 1) := by decide +kernel
theorem dX1_asked_1 : decode cX1_asked 1 = .ok (.iload_n 1, 1) := by decide +kernel
theorem dX1_asked_2 : decode cX1_asked 2 = .ok (.ifCond .eq 7, 3) := by decide +kernel
theorem dX1_asked_5 : decode cX1_asked 5 = .ok (.iconst 0, 1) := by decide +kernel
theorem dX1_asked_6 : decode cX1_asked 6 = .ok (.goto 4, 3) := by decide +kernel
theorem dX1_asked_9 : decode cX1_asked 9 = .ok (.iconst 1, 1) := by decide +kernel
theorem dX1_asked_10 : decode cX1_asked 10 = .ok (.putfield 32, 3) := by decide +kernel
theorem dX1_asked_13 : decode cX1_asked 13 = .ok (.iload_n 1, 1) := by decide +kernel
theorem dX1_asked_14 : decode cX1_asked 14 = .ok (.ireturn, 1) := by decide +kernel
theorem dX1_asked__0 : decode cX1_asked_ 0 = .ok (.aload_n 0, 1) := by decide +kernel
theorem dX1_asked__1 : decode cX1_asked_ 1 = .ok (.iload_n 1, 1) := by decide +kernel
theorem dX1_asked__2 : decode cX1_asked_ 2 = .ok (.ifCond .ne 7, 3) := by decide +kernel
theorem dX1_asked__5 : decode cX1_asked_ 5 = .ok (.iconst 1, 1) := by decide +kernel
theorem dX1_asked__6 : decode cX1_asked_ 6 = .ok (.goto 12, 3) := by decide +kernel
theorem dX1_asked__9 : decode cX1_asked_ 9 = .ok (.iload_n 2, 1) := by decide +kernel
theorem dX1_asked__10 : decode cX1_asked_ 10 = .ok (.ifCond .eq 7, 3) := by decide +kernel
theorem dX1_asked__13 : decode cX1_asked_ 13 = .ok (.iconst 0, 1) := by decide +kernel
theorem dX1_asked__14 : decode cX1_asked_ 14 = .ok (.goto 4, 3) := by decide +kernel
theorem dX1_asked__17 : decode cX1_asked_ 17 = .ok (.iconst 2, 1) := by decide +kernel
theorem dX1_asked__18 : decode cX1_asked_ 18 = .ok (.putfield 32, 3) := by decide +kernel
theorem dX1_asked__21 : decode cX1_asked_ 21 = .ok (.aload_n 0, 1) := by decide +kernel
theorem dX1_asked__22 : decode cX1_asked_ 22 = .ok (.getfield 32, 3) := by decide +kernel
theorem dX1_asked__25 : decode cX1_asked_ 25 = .ok (.ifCond .ne 7, 3) := by decide +kernel
theorem dX1_asked__28 : decode cX1_asked_ 28 = .ok (.iconst 1, 1) := by decide +kernel
theorem dX1_asked__29 : decode cX1_asked_ 29 = .ok (.goto 4, 3) := by decide +kernel
theorem dX1_asked__32 : decode cX1_asked_ 32 = .ok (.iconst 0, 1) := by decide +kernel
theorem dX1_asked__33 : decode cX1_asked_ 33 = .ok (.ireturn, 1) := by decide +kernel
theorem dX1_asked___0 : decode cX1_asked__ 0 = .ok (.aload_n 0, 1) := by decide +kernel
theorem dX1_asked___1 : decode cX1_asked__ 1 = .ok (.iload_n 1, 1) := by decide +kernel
theorem dX1_asked___2 : decode cX1_asked__ 2 = .ok (.ifCond .ne 7, 3) := by decide +kernel
theorem dX1_asked___5 : decode cX1_asked__ 5 = .ok (.iconst 1, 1) := by decide +kernel
theorem dX1_asked___6 : decode cX1_asked__ 6 = .ok (.goto 20, 3) := by decide +kernel
theorem dX1_asked___9 : decode cX1_asked__ 9 = .ok (.iload_n 2, 1) := by decide +kernel
theorem dX1_asked___10 : decode cX1_asked__ 10 = .ok (.ifCond .ne 7, 3) := by decide +kernel
theorem dX1_asked___13 : decode cX1_asked__ 13 = .ok (.iconst 2, 1) := by decide +kernel
theorem dX1_asked___14 : decode cX1_asked__ 14 = .ok (.goto 12, 3) := by decide +kernel
theorem dX1_asked___17 : decode cX1_asked__ 17 = .ok (.iload_n 3, 1) := by decide +kernel
theorem dX1_asked___18 : decode cX1_asked__ 18 = .ok (.ifCond .eq 7, 3) := by decide +kernel
theorem dX1_asked___21 : decode cX1_asked__ 21 = .ok (.iconst 0, 1) := by decide +kernel
theorem dX1_asked___22 : decode cX1_asked__ 22 = .ok (.goto 4, 3) := by decide +kernel
theorem dX1_asked___25 : decode cX1_asked__ 25 = .ok (.iconst 3, 1) := by decide +kernel
theorem dX1_asked___26 : decode cX1_asked__ 26 = .ok (.putfield 32, 3) := by decide +kernel
theorem dX1_asked___29 : decode cX1_asked__ 29 = .ok (.aload_n 0, 1) := by decide +kernel
theorem dX1_asked___30 : decode cX1_asked__ 30 = .ok (.getfield 32, 3) := by decide +kernel
theorem dX1_asked___33 : decode cX1_asked__ 33 = .ok (.ifCond .ne 7, 3) := by decide +kernel
theorem dX1_asked___36 : decode cX1_asked__ 36 = .ok (.iconst 1, 1) := by decide +kernel
theorem dX1_asked___37 : decode cX1_asked__ 37 = .ok (.goto 4, 3) := by decide +kernel
theorem dX1_asked___40 : decode cX1_asked__ 40 = .ok (.iconst 0, 1) := by decide +kernel
theorem dX1_asked___41 : decode cX1_asked__ 41 = .ok (.ireturn, 1) := by decide +kernel
set_option maxRecDepth 20000 in
theorem ggX1_isAuthor_X1_in : GoodIn wsX1_isAuthor wsX1_in := goodIn_r _ [4] (by decide +kernel) (by decide +kernel)
set_option maxRecDepth 20000 in
theorem gX1_isAuthor_X1_in : GoodIn wsX1_isAuthor (va_wsS RX1 36 yX1_in wsX1_in) := goodIn_app (goodIn_of _ (by decide +kernel)) ggX1_isAuthor_X1_in
theorem dX1_isAuthor_0 : decode cX1_isAuthor 0 = .ok (.iload_n 0, 1) := by decide +kernel
theorem dX1_isAuthor_1 : decode cX1_isAuthor 1 = .ok (.iconst 0, 1) := by decide +kernel
theorem dX1_isAuthor_2 : decode cX1_isAuthor 2 = .ok (.iconst 3, 1) := by decide +kernel
theorem dX1_isAuthor_3 : decode cX1_isAuthor 3 = .ok (.invokestatic 36, 3) := by decide +kernel
theorem dX1_isAuthor_6 : decode cX1_isAuthor 6 = .ok (.ireturn, 1) := by decide +kernel
set_option maxRecDepth 20000 in
theorem ggX1_isEvent_X1_in : GoodIn wsX1_isEvent wsX1_in := goodIn_r _ [5] (by decide +kernel) (by decide +kernel)
set_option maxRecDepth 20000 in
theorem gX1_isEvent_X1_in : GoodIn wsX1_isEvent (va_wsS RX1 36 yX1_in wsX1_in) := goodIn_app (goodIn_of _ (by decide +kernel)) ggX1_isEvent_X1_in
theorem dX1_isEvent_0 : decode cX1_isEvent 0 = .ok (.iload_n 1, 1) := by decide +kernel
theorem dX1_isEvent_1 : decode cX1_isEvent 1 = .ok (.iconst 0, 1) := by decide +kernel
theorem dX1_isEvent_2 : decode cX1_isEvent 2 = .ok (.aload_n 0, 1) := by decide +kernel
theorem dX1_isEvent_3 : decode cX1_isEvent 3 = .ok (.getfield 40, 3) := by decide +kernel
theorem dX1_isEvent_6 : decode cX1_isEvent 6 = .ok (.iconst 1, 1) := by decide +kernel
theorem dX1_isEvent_7 : decode cX1_isEvent 7 = .ok (.isub, 1) := by decide +kernel
theorem dX1_isEvent_8 : decode cX1_isEvent 8 = .ok (.invokestatic 36, 3) := by decide +kernel
theorem dX1_isEvent_11 : decode cX1_isEvent 11 = .ok (.ireturn, 1) := by decide +kernel
theorem dX1_has_0 : decode cX1_has 0 = .ok (.lload_n 0, 1) := by decide +kernel
theorem dX1_has_1 : decode cX1_has 1 = .ok (.iload_n 2, 1) := by decide +kernel
theorem dX1_has_2 : decode cX1_has 2 = .ok (.lushr, 1) := by decide +kernel
theorem dX1_has_3 : decode cX1_has 3 = .ok (.lconst 1, 1) := by decide +kernel
theorem dX1_has_4 : decode cX1_has 4 = .ok (.land, 1) := by decide +kernel
theorem dX1_has_5 : decode cX1_has 5 = .ok (.lconst 1, 1) := by decide +kernel
theorem dX1_has_6 : decode cX1_has 6 = .ok (.lcmp, 1) := by decide +kernel
theorem dX1_has_7 : decode cX1_has 7 = .ok (.ifCond .ne 7, 3) := by decide +kernel
theorem dX1_has_10 : decode cX1_has 10 = .ok (.iconst 1, 1) := by decide +kernel
theorem dX1_has_11 : decode cX1_has 11 = .ok (.goto 4, 3) := by decide +kernel
theorem dX1_has_14 : decode cX1_has 14 = .ok (.iconst 0, 1) := by decide +kernel
theorem dX1_has_15 : decode cX1_has 15 = .ok (.ireturn, 1) := by decide +kernel
set_option maxRecDepth 20000 in
theorem ggX1_count_X1_has : GoodIn wsX1_count wsX1_has := goodIn_r _ [5] (by decide +kernel) (by decide +kernel)
set_option maxRecDepth 20000 in
theorem gX1_count_X1_has : GoodIn wsX1_count (va_wsS RX1 43 yX1_has wsX1_has) := goodIn_app (goodIn_of _ (by decide +kernel)) ggX1_count_X1_has
theorem dX1_count_0 : decode cX1_count 0 = .ok (.iconst 0, 1) := by decide +kernel
theorem dX1_count_1 : decode cX1_count 1 = .ok (.istore_n 3, 1) := by decide +kernel
theorem dX1_count_2 : decode cX1_count 2 = .ok (.iconst 0, 1) := by decide +kernel
theorem dX1_count_3 : decode cX1_count 3 = .ok (.istore 4, 2) := by decide +kernel
theorem dX1_count_5 : decode cX1_count 5 = .ok (.iload 4, 2) := by decide +kernel
theorem dX1_count_7 : decode cX1_count 7 = .ok (.aload_n 0, 1) := by decide +kernel
theorem dX1_count_8 : decode cX1_count 8 = .ok (.getfield 40, 3) := by decide +kernel
theorem dX1_count_11 : decode cX1_count 11 = .ok (.if_icmp .ge 26, 3) := by decide +kernel
theorem dX1_count_14 : decode cX1_count 14 = .ok (.iload_n 3, 1) := by decide +kernel
theorem dX1_count_15 : decode cX1_count 15 = .ok (.lload_n 1, 1) := by decide +kernel
theorem dX1_count_16 : decode cX1_count 16 = .ok (.iload 4, 2) := by decide +kernel
theorem dX1_count_18 : decode cX1_count 18 = .ok (.invokestatic 43, 3) := by decide +kernel
theorem dX1_count_21 : decode cX1_count 21 = .ok (.ifCond .eq 7, 3) := by decide +kernel
theorem dX1_count_24 : decode cX1_count 24 = .ok (.iconst 1, 1) := by decide +kernel
theorem dX1_count_25 : decode cX1_count 25 = .ok (.goto 4, 3) := by decide +kernel
theorem dX1_count_28 : decode cX1_count 28 = .ok (.iconst 0, 1) := by decide +kernel
theorem dX1_count_29 : decode cX1_count 29 = .ok (.iadd, 1) := by decide +kernel
theorem dX1_count_30 : decode cX1_count 30 = .ok (.istore_n 3, 1) := by decide +kernel
theorem dX1_count_31 : decode cX1_count 31 = .ok (.iinc 4 1, 3) := by decide +kernel
theorem dX1_count_34 : decode cX1_count 34 = .ok (.goto (-29), 3) := by decide +kernel
theorem dX1_count_37 : decode cX1_count 37 = .ok (.iload_n 3, 1) := by decide +kernel
theorem dX1_count_38 : decode cX1_count 38 = .ok (.ireturn, 1) := by decide +kernel
theorem dX1_versionOf_0 : decode cX1_versionOf 0 = .ok (.aload_n 0, 1) := by decide +kernel
theorem dX1_versionOf_1 : decode cX1_versionOf 1 = .ok (.getfield 23, 3) := by decide +kernel
theorem dX1_versionOf_4 : decode cX1_versionOf 4 = .ok (.iload_n 1, 1) := by decide +kernel
theorem dX1_versionOf_5 : decode cX1_versionOf 5 = .ok (.laload, 1) := by decide +kernel
theorem dX1_versionOf_6 : decode cX1_versionOf 6 = .ok (.lconst 1, 1) := by decide +kernel
theorem dX1_versionOf_7 : decode cX1_versionOf 7 = .ok (.iload_n 1, 1) := by decide +kernel
theorem dX1_versionOf_8 : decode cX1_versionOf 8 = .ok (.lshl, 1) := by decide +kernel
theorem dX1_versionOf_9 : decode cX1_versionOf 9 = .ok (.lor, 1) := by decide +kernel
theorem dX1_versionOf_10 : decode cX1_versionOf 10 = .ok (.lreturn, 1) := by decide +kernel
set_option maxRecDepth 20000 in
theorem ggX1_headsOf_X1_has : GoodIn wsX1_headsOf wsX1_has := goodIn_r _ [7] (by decide +kernel) (by decide +kernel)
set_option maxRecDepth 20000 in
theorem gX1_headsOf_X1_has : GoodIn wsX1_headsOf (va_wsS RX1 43 yX1_has wsX1_has) := goodIn_app (goodIn_of _ (by decide +kernel)) ggX1_headsOf_X1_has
theorem dX1_headsOf_0 : decode cX1_headsOf 0 = .ok (.lload_n 1, 1) := by decide +kernel
theorem dX1_headsOf_1 : decode cX1_headsOf 1 = .ok (.lstore_n 3, 1) := by decide +kernel
theorem dX1_headsOf_2 : decode cX1_headsOf 2 = .ok (.iconst 0, 1) := by decide +kernel
theorem dX1_headsOf_3 : decode cX1_headsOf 3 = .ok (.istore 5, 2) := by decide +kernel
theorem dX1_headsOf_5 : decode cX1_headsOf 5 = .ok (.iload 5, 2) := by decide +kernel
theorem dX1_headsOf_7 : decode cX1_headsOf 7 = .ok (.aload_n 0, 1) := by decide +kernel
theorem dX1_headsOf_8 : decode cX1_headsOf 8 = .ok (.getfield 40, 3) := by decide +kernel
theorem dX1_headsOf_11 : decode cX1_headsOf 11 = .ok (.if_icmp .ge 38, 3) := by decide +kernel
theorem dX1_headsOf_14 : decode cX1_headsOf 14 = .ok (.lload_n 3, 1) := by decide +kernel
theorem dX1_headsOf_15 : decode cX1_headsOf 15 = .ok (.lload_n 1, 1) := by decide +kernel
theorem dX1_headsOf_16 : decode cX1_headsOf 16 = .ok (.iload 5, 2) := by decide +kernel
theorem dX1_headsOf_18 : decode cX1_headsOf 18 = .ok (.invokestatic 43, 3) := by decide +kernel
theorem dX1_headsOf_21 : decode cX1_headsOf 21 = .ok (.ifCond .eq 17, 3) := by decide +kernel
theorem dX1_headsOf_24 : decode cX1_headsOf 24 = .ok (.aload_n 0, 1) := by decide +kernel
theorem dX1_headsOf_25 : decode cX1_headsOf 25 = .ok (.getfield 19, 3) := by decide +kernel
theorem dX1_headsOf_28 : decode cX1_headsOf 28 = .ok (.iload 5, 2) := by decide +kernel
theorem dX1_headsOf_30 : decode cX1_headsOf 30 = .ok (.laload, 1) := by decide +kernel
theorem dX1_headsOf_31 : decode cX1_headsOf 31 = .ok (.ldc2_w 47, 3) := by decide +kernel
theorem dX1_headsOf_34 : decode cX1_headsOf 34 = .ok (.lxor, 1) := by decide +kernel
theorem dX1_headsOf_35 : decode cX1_headsOf 35 = .ok (.goto 6, 3) := by decide +kernel
theorem dX1_headsOf_38 : decode cX1_headsOf 38 = .ok (.ldc2_w 47, 3) := by decide +kernel
theorem dX1_headsOf_41 : decode cX1_headsOf 41 = .ok (.land, 1) := by decide +kernel
theorem dX1_headsOf_42 : decode cX1_headsOf 42 = .ok (.lstore_n 3, 1) := by decide +kernel
theorem dX1_headsOf_43 : decode cX1_headsOf 43 = .ok (.iinc 5 1, 3) := by decide +kernel
theorem dX1_headsOf_46 : decode cX1_headsOf 46 = .ok (.goto (-41), 3) := by decide +kernel
theorem dX1_headsOf_49 : decode cX1_headsOf 49 = .ok (.lload_n 3, 1) := by decide +kernel
theorem dX1_headsOf_50 : decode cX1_headsOf 50 = .ok (.lreturn, 1) := by decide +kernel
set_option maxRecDepth 20000 in
theorem ggX1_reads_X1_has : GoodIn wsX1_reads wsX1_has := goodIn_r _ [9] (by decide +kernel) (by decide +kernel)
set_option maxRecDepth 20000 in
theorem gX1_reads_X1_has : GoodIn wsX1_reads (va_wsS RX1 43 yX1_has wsX1_has) := goodIn_app (goodIn_of _ (by decide +kernel)) ggX1_reads_X1_has
theorem dX1_reads_0 : decode cX1_reads 0 = .ok (.aload_n 0, 1) := by decide +kernel
theorem dX1_reads_1 : decode cX1_reads 1 = .ok (.iconst 0, 1) := by decide +kernel
theorem dX1_reads_2 : decode cX1_reads 2 = .ok (.putfield 49, 3) := by decide +kernel
theorem dX1_reads_5 : decode cX1_reads 5 = .ok (.iconst 0, 1) := by decide +kernel
theorem dX1_reads_6 : decode cX1_reads 6 = .ok (.istore_n 3, 1) := by decide +kernel
theorem dX1_reads_7 : decode cX1_reads 7 = .ok (.iload_n 3, 1) := by decide +kernel
theorem dX1_reads_8 : decode cX1_reads 8 = .ok (.aload_n 0, 1) := by decide +kernel
theorem dX1_reads_9 : decode cX1_reads 9 = .ok (.getfield 40, 3) := by decide +kernel
theorem dX1_reads_12 : decode cX1_reads 12 = .ok (.if_icmp .ge 135, 3) := by decide +kernel
theorem dX1_reads_15 : decode cX1_reads 15 = .ok (.lload_n 1, 1) := by decide +kernel
theorem dX1_reads_16 : decode cX1_reads 16 = .ok (.iload_n 3, 1) := by decide +kernel
theorem dX1_reads_17 : decode cX1_reads 17 = .ok (.invokestatic 43, 3) := by decide +kernel
theorem dX1_reads_20 : decode cX1_reads 20 = .ok (.ifCond .eq 121, 3) := by decide +kernel
theorem dX1_reads_23 : decode cX1_reads 23 = .ok (.aload_n 0, 1) := by decide +kernel
theorem dX1_reads_24 : decode cX1_reads 24 = .ok (.getfield 13, 3) := by decide +kernel
theorem dX1_reads_27 : decode cX1_reads 27 = .ok (.iload_n 3, 1) := by decide +kernel
theorem dX1_reads_28 : decode cX1_reads 28 = .ok (.iaload, 1) := by decide +kernel
theorem dX1_reads_29 : decode cX1_reads 29 = .ok (.iconst (-1), 1) := by decide +kernel
theorem dX1_reads_30 : decode cX1_reads 30 = .ok (.if_icmp .eq 111, 3) := by decide +kernel
theorem dX1_reads_33 : decode cX1_reads 33 = .ok (.iconst 0, 1) := by decide +kernel
theorem dX1_reads_34 : decode cX1_reads 34 = .ok (.istore 4, 2) := by decide +kernel
theorem dX1_reads_36 : decode cX1_reads 36 = .ok (.aload_n 0, 1) := by decide +kernel
theorem dX1_reads_37 : decode cX1_reads 37 = .ok (.getfield 16, 3) := by decide +kernel
theorem dX1_reads_40 : decode cX1_reads 40 = .ok (.iload_n 3, 1) := by decide +kernel
theorem dX1_reads_41 : decode cX1_reads 41 = .ok (.iaload, 1) := by decide +kernel
theorem dX1_reads_42 : decode cX1_reads 42 = .ok (.iconst (-1), 1) := by decide +kernel
theorem dX1_reads_43 : decode cX1_reads 43 = .ok (.if_icmp .eq 25, 3) := by decide +kernel
theorem dX1_reads_46 : decode cX1_reads 46 = .ok (.aload_n 0, 1) := by decide +kernel
theorem dX1_reads_47 : decode cX1_reads 47 = .ok (.getfield 29, 3) := by decide +kernel
theorem dX1_reads_50 : decode cX1_reads 50 = .ok (.iload 4, 2) := by decide +kernel
theorem dX1_reads_52 : decode cX1_reads 52 = .ok (.iaload, 1) := by decide +kernel
theorem dX1_reads_53 : decode cX1_reads 53 = .ok (.aload_n 0, 1) := by decide +kernel
theorem dX1_reads_54 : decode cX1_reads 54 = .ok (.getfield 16, 3) := by decide +kernel
theorem dX1_reads_57 : decode cX1_reads 57 = .ok (.iload_n 3, 1) := by decide +kernel
theorem dX1_reads_58 : decode cX1_reads 58 = .ok (.iaload, 1) := by decide +kernel
theorem dX1_reads_59 : decode cX1_reads 59 = .ok (.if_icmp .eq 9, 3) := by decide +kernel
theorem dX1_reads_62 : decode cX1_reads 62 = .ok (.iinc 4 1, 3) := by decide +kernel
theorem dX1_reads_65 : decode cX1_reads 65 = .ok (.goto (-29), 3) := by decide +kernel
theorem dX1_reads_68 : decode cX1_reads 68 = .ok (.iload 4, 2) := by decide +kernel
theorem dX1_reads_70 : decode cX1_reads 70 = .ok (.aload_n 0, 1) := by decide +kernel
theorem dX1_reads_71 : decode cX1_reads 71 = .ok (.getfield 16, 3) := by decide +kernel
theorem dX1_reads_74 : decode cX1_reads 74 = .ok (.iload_n 3, 1) := by decide +kernel
theorem dX1_reads_75 : decode cX1_reads 75 = .ok (.iaload, 1) := by decide +kernel
theorem dX1_reads_76 : decode cX1_reads 76 = .ok (.iconst (-1), 1) := by decide +kernel
theorem dX1_reads_77 : decode cX1_reads 77 = .ok (.if_icmp .ne 7, 3) := by decide +kernel
theorem dX1_reads_80 : decode cX1_reads 80 = .ok (.iconst 0, 1) := by decide +kernel
theorem dX1_reads_81 : decode cX1_reads 81 = .ok (.goto 4, 3) := by decide +kernel
theorem dX1_reads_84 : decode cX1_reads 84 = .ok (.iconst 1, 1) := by decide +kernel
theorem dX1_reads_85 : decode cX1_reads 85 = .ok (.iadd, 1) := by decide +kernel
theorem dX1_reads_86 : decode cX1_reads 86 = .ok (.istore 4, 2) := by decide +kernel
theorem dX1_reads_88 : decode cX1_reads 88 = .ok (.aload_n 0, 1) := by decide +kernel
theorem dX1_reads_89 : decode cX1_reads 89 = .ok (.getfield 49, 3) := by decide +kernel
theorem dX1_reads_92 : decode cX1_reads 92 = .ok (.istore 5, 2) := by decide +kernel
theorem dX1_reads_94 : decode cX1_reads 94 = .ok (.iload 5, 2) := by decide +kernel
theorem dX1_reads_96 : decode cX1_reads 96 = .ok (.iload 4, 2) := by decide +kernel
theorem dX1_reads_98 : decode cX1_reads 98 = .ok (.if_icmp .le 25, 3) := by decide +kernel
theorem dX1_reads_101 : decode cX1_reads 101 = .ok (.aload_n 0, 1) := by decide +kernel
theorem dX1_reads_102 : decode cX1_reads 102 = .ok (.getfield 29, 3) := by decide +kernel
theorem dX1_reads_105 : decode cX1_reads 105 = .ok (.iload 5, 2) := by decide +kernel
theorem dX1_reads_107 : decode cX1_reads 107 = .ok (.aload_n 0, 1) := by decide +kernel
theorem dX1_reads_108 : decode cX1_reads 108 = .ok (.getfield 29, 3) := by decide +kernel
theorem dX1_reads_111 : decode cX1_reads 111 = .ok (.iload 5, 2) := by decide +kernel
theorem dX1_reads_113 : decode cX1_reads 113 = .ok (.iconst 1, 1) := by decide +kernel
theorem dX1_reads_114 : decode cX1_reads 114 = .ok (.isub, 1) := by decide +kernel
theorem dX1_reads_115 : decode cX1_reads 115 = .ok (.iaload, 1) := by decide +kernel
theorem dX1_reads_116 : decode cX1_reads 116 = .ok (.iastore, 1) := by decide +kernel
theorem dX1_reads_117 : decode cX1_reads 117 = .ok (.iinc 5 (-1), 3) := by decide +kernel
theorem dX1_reads_120 : decode cX1_reads 120 = .ok (.goto (-26), 3) := by decide +kernel
theorem dX1_reads_123 : decode cX1_reads 123 = .ok (.aload_n 0, 1) := by decide +kernel
theorem dX1_reads_124 : decode cX1_reads 124 = .ok (.getfield 29, 3) := by decide +kernel
theorem dX1_reads_127 : decode cX1_reads 127 = .ok (.iload 4, 2) := by decide +kernel
theorem dX1_reads_129 : decode cX1_reads 129 = .ok (.iload_n 3, 1) := by decide +kernel
theorem dX1_reads_130 : decode cX1_reads 130 = .ok (.iastore, 1) := by decide +kernel
theorem dX1_reads_131 : decode cX1_reads 131 = .ok (.aload_n 0, 1) := by decide +kernel
theorem dX1_reads_132 : decode cX1_reads 132 = .ok (.dup, 1) := by decide +kernel
theorem dX1_reads_133 : decode cX1_reads 133 = .ok (.getfield 49, 3) := by decide +kernel
theorem dX1_reads_136 : decode cX1_reads 136 = .ok (.iconst 1, 1) := by decide +kernel
theorem dX1_reads_137 : decode cX1_reads 137 = .ok (.iadd, 1) := by decide +kernel
theorem dX1_reads_138 : decode cX1_reads 138 = .ok (.putfield 49, 3) := by decide +kernel
theorem dX1_reads_141 : decode cX1_reads 141 = .ok (.iinc 3 1, 3) := by decide +kernel
theorem dX1_reads_144 : decode cX1_reads 144 = .ok (.goto (-137), 3) := by decide +kernel
theorem dX1_reads_147 : decode cX1_reads 147 = .ok (.iconst 0, 1) := by decide +kernel
theorem dX1_reads_148 : decode cX1_reads 148 = .ok (.istore_n 3, 1) := by decide +kernel
theorem dX1_reads_149 : decode cX1_reads 149 = .ok (.iconst 0, 1) := by decide +kernel
theorem dX1_reads_150 : decode cX1_reads 150 = .ok (.istore 4, 2) := by decide +kernel
theorem dX1_reads_152 : decode cX1_reads 152 = .ok (.iload 4, 2) := by decide +kernel
theorem dX1_reads_154 : decode cX1_reads 154 = .ok (.aload_n 0, 1) := by decide +kernel
theorem dX1_reads_155 : decode cX1_reads 155 = .ok (.getfield 49, 3) := by decide +kernel
theorem dX1_reads_158 : decode cX1_reads 158 = .ok (.if_icmp .ge 105, 3) := by decide +kernel
theorem dX1_reads_161 : decode cX1_reads 161 = .ok (.iconst 0, 1) := by decide +kernel
theorem dX1_reads_162 : decode cX1_reads 162 = .ok (.istore 5, 2) := by decide +kernel
theorem dX1_reads_164 : decode cX1_reads 164 = .ok (.iconst 0, 1) := by decide +kernel
theorem dX1_reads_165 : decode cX1_reads 165 = .ok (.istore 6, 2) := by decide +kernel
theorem dX1_reads_167 : decode cX1_reads 167 = .ok (.iload 6, 2) := by decide +kernel
theorem dX1_reads_169 : decode cX1_reads 169 = .ok (.aload_n 0, 1) := by decide +kernel
theorem dX1_reads_170 : decode cX1_reads 170 = .ok (.getfield 40, 3) := by decide +kernel
theorem dX1_reads_173 : decode cX1_reads 173 = .ok (.if_icmp .ge 58, 3) := by decide +kernel
theorem dX1_reads_176 : decode cX1_reads 176 = .ok (.iload 5, 2) := by decide +kernel
theorem dX1_reads_178 : decode cX1_reads 178 = .ok (.ifCond .ne 40, 3) := by decide +kernel
theorem dX1_reads_181 : decode cX1_reads 181 = .ok (.lload_n 1, 1) := by decide +kernel
theorem dX1_reads_182 : decode cX1_reads 182 = .ok (.iload 6, 2) := by decide +kernel
theorem dX1_reads_184 : decode cX1_reads 184 = .ok (.invokestatic 43, 3) := by decide +kernel
theorem dX1_reads_187 : decode cX1_reads 187 = .ok (.ifCond .eq 35, 3) := by decide +kernel
theorem dX1_reads_190 : decode cX1_reads 190 = .ok (.aload_n 0, 1) := by decide +kernel
theorem dX1_reads_191 : decode cX1_reads 191 = .ok (.getfield 13, 3) := by decide +kernel
theorem dX1_reads_194 : decode cX1_reads 194 = .ok (.iload 6, 2) := by decide +kernel
theorem dX1_reads_196 : decode cX1_reads 196 = .ok (.iaload, 1) := by decide +kernel
theorem dX1_reads_197 : decode cX1_reads 197 = .ok (.iconst (-1), 1) := by decide +kernel
theorem dX1_reads_198 : decode cX1_reads 198 = .ok (.if_icmp .ne 24, 3) := by decide +kernel
theorem dX1_reads_201 : decode cX1_reads 201 = .ok (.aload_n 0, 1) := by decide +kernel
theorem dX1_reads_202 : decode cX1_reads 202 = .ok (.getfield 16, 3) := by decide +kernel
theorem dX1_reads_205 : decode cX1_reads 205 = .ok (.iload 6, 2) := by decide +kernel
theorem dX1_reads_207 : decode cX1_reads 207 = .ok (.iaload, 1) := by decide +kernel
theorem dX1_reads_208 : decode cX1_reads 208 = .ok (.aload_n 0, 1) := by decide +kernel
theorem dX1_reads_209 : decode cX1_reads 209 = .ok (.getfield 29, 3) := by decide +kernel
theorem dX1_reads_212 : decode cX1_reads 212 = .ok (.iload 4, 2) := by decide +kernel
theorem dX1_reads_214 : decode cX1_reads 214 = .ok (.iaload, 1) := by decide +kernel
theorem dX1_reads_215 : decode cX1_reads 215 = .ok (.if_icmp .ne 7, 3) := by decide +kernel
theorem dX1_reads_218 : decode cX1_reads 218 = .ok (.iconst 1, 1) := by decide +kernel
theorem dX1_reads_219 : decode cX1_reads 219 = .ok (.goto 4, 3) := by decide +kernel
theorem dX1_reads_222 : decode cX1_reads 222 = .ok (.iconst 0, 1) := by decide +kernel
theorem dX1_reads_223 : decode cX1_reads 223 = .ok (.istore 5, 2) := by decide +kernel
theorem dX1_reads_225 : decode cX1_reads 225 = .ok (.iinc 6 1, 3) := by decide +kernel
theorem dX1_reads_228 : decode cX1_reads 228 = .ok (.goto (-61), 3) := by decide +kernel
theorem dX1_reads_231 : decode cX1_reads 231 = .ok (.aload_n 0, 1) := by decide +kernel
theorem dX1_reads_232 : decode cX1_reads 232 = .ok (.getfield 29, 3) := by decide +kernel
theorem dX1_reads_235 : decode cX1_reads 235 = .ok (.iload_n 3, 1) := by decide +kernel
theorem dX1_reads_236 : decode cX1_reads 236 = .ok (.aload_n 0, 1) := by decide +kernel
theorem dX1_reads_237 : decode cX1_reads 237 = .ok (.getfield 29, 3) := by decide +kernel
theorem dX1_reads_240 : decode cX1_reads 240 = .ok (.iload 4, 2) := by decide +kernel
theorem dX1_reads_242 : decode cX1_reads 242 = .ok (.iaload, 1) := by decide +kernel
theorem dX1_reads_243 : decode cX1_reads 243 = .ok (.iastore, 1) := by decide +kernel
theorem dX1_reads_244 : decode cX1_reads 244 = .ok (.iload_n 3, 1) := by decide +kernel
theorem dX1_reads_245 : decode cX1_reads 245 = .ok (.iload 5, 2) := by decide +kernel
theorem dX1_reads_247 : decode cX1_reads 247 = .ok (.ifCond .eq 7, 3) := by decide +kernel
theorem dX1_reads_250 : decode cX1_reads 250 = .ok (.iconst 0, 1) := by decide +kernel
theorem dX1_reads_251 : decode cX1_reads 251 = .ok (.goto 4, 3) := by decide +kernel
theorem dX1_reads_254 : decode cX1_reads 254 = .ok (.iconst 1, 1) := by decide +kernel
theorem dX1_reads_255 : decode cX1_reads 255 = .ok (.iadd, 1) := by decide +kernel
theorem dX1_reads_256 : decode cX1_reads 256 = .ok (.istore_n 3, 1) := by decide +kernel
theorem dX1_reads_257 : decode cX1_reads 257 = .ok (.iinc 4 1, 3) := by decide +kernel
theorem dX1_reads_260 : decode cX1_reads 260 = .ok (.goto (-108), 3) := by decide +kernel
theorem dX1_reads_263 : decode cX1_reads 263 = .ok (.aload_n 0, 1) := by decide +kernel
theorem dX1_reads_264 : decode cX1_reads 264 = .ok (.iload_n 3, 1) := by decide +kernel
theorem dX1_reads_265 : decode cX1_reads 265 = .ok (.putfield 49, 3) := by decide +kernel
theorem dX1_reads_268 : decode cX1_reads 268 = .ok (.return_, 1) := by decide +kernel
set_option maxRecDepth 20000 in
theorem ggX1_makes_X1_headsOf : GoodIn wsX1_makes wsX1_headsOf := goodIn_r _ [12, 2, 5, 13, 14, 15, 11, 16, 17, 18, 19, 20, 21, 22, 23, 24, 25, 26] (by decide +kernel) (by decide +kernel)
set_option maxRecDepth 20000 in
theorem gX1_makes_X1_headsOf : GoodIn wsX1_makes (wsV RX1 52 RX1 yX1_headsOf wsX1_headsOf) := goodIn_app (goodIn_of _ (by decide +kernel)) ggX1_makes_X1_headsOf
theorem dX1_makes_0 : decode cX1_makes 0 = .ok (.aload_n 0, 1) := by decide +kernel
theorem dX1_makes_1 : decode cX1_makes 1 = .ok (.getfield 7, 3) := by decide +kernel
theorem dX1_makes_4 : decode cX1_makes 4 = .ok (.aload_n 0, 1) := by decide +kernel
theorem dX1_makes_5 : decode cX1_makes 5 = .ok (.getfield 40, 3) := by decide +kernel
theorem dX1_makes_8 : decode cX1_makes 8 = .ok (.iload_n 1, 1) := by decide +kernel
theorem dX1_makes_9 : decode cX1_makes 9 = .ok (.iastore, 1) := by decide +kernel
theorem dX1_makes_10 : decode cX1_makes 10 = .ok (.aload_n 0, 1) := by decide +kernel
theorem dX1_makes_11 : decode cX1_makes 11 = .ok (.getfield 13, 3) := by decide +kernel
theorem dX1_makes_14 : decode cX1_makes 14 = .ok (.aload_n 0, 1) := by decide +kernel
theorem dX1_makes_15 : decode cX1_makes 15 = .ok (.getfield 40, 3) := by decide +kernel
theorem dX1_makes_18 : decode cX1_makes 18 = .ok (.iload_n 2, 1) := by decide +kernel
theorem dX1_makes_19 : decode cX1_makes 19 = .ok (.iastore, 1) := by decide +kernel
theorem dX1_makes_20 : decode cX1_makes 20 = .ok (.aload_n 0, 1) := by decide +kernel
theorem dX1_makes_21 : decode cX1_makes 21 = .ok (.getfield 16, 3) := by decide +kernel
theorem dX1_makes_24 : decode cX1_makes 24 = .ok (.aload_n 0, 1) := by decide +kernel
theorem dX1_makes_25 : decode cX1_makes 25 = .ok (.getfield 40, 3) := by decide +kernel
theorem dX1_makes_28 : decode cX1_makes 28 = .ok (.iload_n 3, 1) := by decide +kernel
theorem dX1_makes_29 : decode cX1_makes 29 = .ok (.iastore, 1) := by decide +kernel
theorem dX1_makes_30 : decode cX1_makes 30 = .ok (.aload_n 0, 1) := by decide +kernel
theorem dX1_makes_31 : decode cX1_makes 31 = .ok (.getfield 19, 3) := by decide +kernel
theorem dX1_makes_34 : decode cX1_makes 34 = .ok (.aload_n 0, 1) := by decide +kernel
theorem dX1_makes_35 : decode cX1_makes 35 = .ok (.getfield 40, 3) := by decide +kernel
theorem dX1_makes_38 : decode cX1_makes 38 = .ok (.aload_n 0, 1) := by decide +kernel
theorem dX1_makes_39 : decode cX1_makes 39 = .ok (.aload_n 0, 1) := by decide +kernel
theorem dX1_makes_40 : decode cX1_makes 40 = .ok (.getfield 26, 3) := by decide +kernel
theorem dX1_makes_43 : decode cX1_makes 43 = .ok (.iload_n 1, 1) := by decide +kernel
theorem dX1_makes_44 : decode cX1_makes 44 = .ok (.laload, 1) := by decide +kernel
theorem dX1_makes_45 : decode cX1_makes 45 = .ok (.invokevirtual 52, 3) := by decide +kernel
theorem dX1_makes_48 : decode cX1_makes 48 = .ok (.lastore, 1) := by decide +kernel
theorem dX1_makes_49 : decode cX1_makes 49 = .ok (.aload_n 0, 1) := by decide +kernel
theorem dX1_makes_50 : decode cX1_makes 50 = .ok (.getfield 23, 3) := by decide +kernel
theorem dX1_makes_53 : decode cX1_makes 53 = .ok (.aload_n 0, 1) := by decide +kernel
theorem dX1_makes_54 : decode cX1_makes 54 = .ok (.getfield 40, 3) := by decide +kernel
theorem dX1_makes_57 : decode cX1_makes 57 = .ok (.aload_n 0, 1) := by decide +kernel
theorem dX1_makes_58 : decode cX1_makes 58 = .ok (.getfield 26, 3) := by decide +kernel
theorem dX1_makes_61 : decode cX1_makes 61 = .ok (.iload_n 1, 1) := by decide +kernel
theorem dX1_makes_62 : decode cX1_makes 62 = .ok (.laload, 1) := by decide +kernel
theorem dX1_makes_63 : decode cX1_makes 63 = .ok (.lastore, 1) := by decide +kernel
theorem dX1_makes_64 : decode cX1_makes 64 = .ok (.aload_n 0, 1) := by decide +kernel
theorem dX1_makes_65 : decode cX1_makes 65 = .ok (.getfield 26, 3) := by decide +kernel
theorem dX1_makes_68 : decode cX1_makes 68 = .ok (.iload_n 1, 1) := by decide +kernel
theorem dX1_makes_69 : decode cX1_makes 69 = .ok (.dup2, 1) := by decide +kernel
theorem dX1_makes_70 : decode cX1_makes 70 = .ok (.laload, 1) := by decide +kernel
theorem dX1_makes_71 : decode cX1_makes 71 = .ok (.lconst 1, 1) := by decide +kernel
theorem dX1_makes_72 : decode cX1_makes 72 = .ok (.aload_n 0, 1) := by decide +kernel
theorem dX1_makes_73 : decode cX1_makes 73 = .ok (.getfield 40, 3) := by decide +kernel
theorem dX1_makes_76 : decode cX1_makes 76 = .ok (.lshl, 1) := by decide +kernel
theorem dX1_makes_77 : decode cX1_makes 77 = .ok (.lor, 1) := by decide +kernel
theorem dX1_makes_78 : decode cX1_makes 78 = .ok (.lastore, 1) := by decide +kernel
theorem dX1_makes_79 : decode cX1_makes 79 = .ok (.aload_n 0, 1) := by decide +kernel
theorem dX1_makes_80 : decode cX1_makes 80 = .ok (.dup, 1) := by decide +kernel
theorem dX1_makes_81 : decode cX1_makes 81 = .ok (.getfield 40, 3) := by decide +kernel
theorem dX1_makes_84 : decode cX1_makes 84 = .ok (.iconst 1, 1) := by decide +kernel
theorem dX1_makes_85 : decode cX1_makes 85 = .ok (.iadd, 1) := by decide +kernel
theorem dX1_makes_86 : decode cX1_makes 86 = .ok (.putfield 40, 3) := by decide +kernel
theorem dX1_makes_89 : decode cX1_makes 89 = .ok (.aload_n 0, 1) := by decide +kernel
theorem dX1_makes_90 : decode cX1_makes 90 = .ok (.getfield 40, 3) := by decide +kernel
theorem dX1_makes_93 : decode cX1_makes 93 = .ok (.iconst 1, 1) := by decide +kernel
theorem dX1_makes_94 : decode cX1_makes 94 = .ok (.isub, 1) := by decide +kernel
theorem dX1_makes_95 : decode cX1_makes 95 = .ok (.ireturn, 1) := by decide +kernel
set_option maxRecDepth 20000 in
theorem ggX1_looks_X1_isAuthor : GoodIn wsX1_looks wsX1_isAuthor := goodIn_r _ [5, 6, 7, 4, 8] (by decide +kernel) (by decide +kernel)
set_option maxRecDepth 20000 in
theorem gX1_looks_X1_isAuthor : GoodIn wsX1_looks (va_wsS RX1 56 yX1_isAuthor wsX1_isAuthor) := goodIn_app (goodIn_of _ (by decide +kernel)) ggX1_looks_X1_isAuthor
set_option maxRecDepth 20000 in
theorem ggX1_looks_X1_reads : GoodIn wsX1_looks wsX1_reads := goodIn_r _ [12, 13, 14, 15, 16, 17, 18, 19, 4, 20, 21, 22, 23, 24, 25, 26, 27, 28, 29, 30] (by decide +kernel) (by decide +kernel)
set_option maxRecDepth 20000 in
theorem gX1_looks_X1_reads : GoodIn wsX1_looks (wsV RX1 60 RX1 yX1_reads wsX1_reads) := goodIn_app (goodIn_of _ (by decide +kernel)) ggX1_looks_X1_reads
theorem dX1_looks_0 : decode cX1_looks 0 = .ok (.iload_n 1, 1) := by decide +kernel
theorem dX1_looks_1 : decode cX1_looks 1 = .ok (.invokestatic 56, 3) := by decide +kernel
theorem dX1_looks_4 : decode cX1_looks 4 = .ok (.istore_n 2, 1) := by decide +kernel
theorem dX1_looks_5 : decode cX1_looks 5 = .ok (.iload_n 2, 1) := by decide +kernel
theorem dX1_looks_6 : decode cX1_looks 6 = .ok (.ifCond .eq 13, 3) := by decide +kernel
theorem dX1_looks_9 : decode cX1_looks 9 = .ok (.aload_n 0, 1) := by decide +kernel
theorem dX1_looks_10 : decode cX1_looks 10 = .ok (.aload_n 0, 1) := by decide +kernel
theorem dX1_looks_11 : decode cX1_looks 11 = .ok (.getfield 26, 3) := by decide +kernel
theorem dX1_looks_14 : decode cX1_looks 14 = .ok (.iload_n 1, 1) := by decide +kernel
theorem dX1_looks_15 : decode cX1_looks 15 = .ok (.laload, 1) := by decide +kernel
theorem dX1_looks_16 : decode cX1_looks 16 = .ok (.invokevirtual 60, 3) := by decide +kernel
theorem dX1_looks_19 : decode cX1_looks 19 = .ok (.iload_n 2, 1) := by decide +kernel
theorem dX1_looks_20 : decode cX1_looks 20 = .ok (.ireturn, 1) := by decide +kernel
set_option maxRecDepth 20000 in
theorem ggX1_insert_X1_looks : GoodIn wsX1_insert wsX1_looks := goodIn_r _ [8, 9, 10, 11, 7, 12, 13, 14, 15, 16, 17, 18, 19, 1, 2, 20, 21, 3, 22, 23, 24, 42, 43, 44, 45, 46, 47, 48, 49, 50, 51] (by decide +kernel) (by decide +kernel)
set_option maxRecDepth 20000 in
theorem gX1_insert_X1_looks : GoodIn wsX1_insert (wsV RX1 64 RX1 yX1_looks wsX1_looks) := goodIn_app (goodIn_of _ (by decide +kernel)) ggX1_insert_X1_looks
set_option maxRecDepth 20000 in
theorem ggX1_insert_X1_in : GoodIn wsX1_insert wsX1_in := goodIn_r _ [15] (by decide +kernel) (by decide +kernel)
set_option maxRecDepth 20000 in
theorem gX1_insert_X1_in : GoodIn wsX1_insert (va_wsS RX1 36 yX1_in wsX1_in) := goodIn_app (goodIn_of _ (by decide +kernel)) ggX1_insert_X1_in
set_option maxRecDepth 20000 in
theorem ggX1_insert_X1_asked__ : GoodIn wsX1_insert wsX1_asked__ := goodIn_r _ [28, 29, 42, 43, 44, 45, 46, 47, 48, 49, 50, 51] (by decide +kernel) (by decide +kernel)
set_option maxRecDepth 20000 in
theorem gX1_insert_X1_asked__ : GoodIn wsX1_insert (wsV RX1 67 RX1 yX1_asked__ wsX1_asked__) := goodIn_app (goodIn_of _ (by decide +kernel)) ggX1_insert_X1_asked__
set_option maxRecDepth 20000 in
theorem ggX1_insert_X1_makes : GoodIn wsX1_insert wsX1_makes := goodIn_r _ [33, 34, 2, 20, 21, 35, 9, 36, 37, 38, 39, 7, 40, 41, 22, 23, 24, 42, 43, 44, 45, 46, 47, 48, 49, 50, 51] (by decide +kernel) (by decide +kernel)
set_option maxRecDepth 20000 in
theorem gX1_insert_X1_makes : GoodIn wsX1_insert (wsV RX1 71 RX1 yX1_makes wsX1_makes) := goodIn_app (goodIn_of _ (by decide +kernel)) ggX1_insert_X1_makes
theorem dX1_insert_0 : decode cX1_insert 0 = .ok (.aload_n 0, 1) := by decide +kernel
theorem dX1_insert_1 : decode cX1_insert 1 = .ok (.iload_n 1, 1) := by decide +kernel
theorem dX1_insert_2 : decode cX1_insert 2 = .ok (.invokevirtual 64, 3) := by decide +kernel
theorem dX1_insert_5 : decode cX1_insert 5 = .ok (.ifCond .eq 19, 3) := by decide +kernel
theorem dX1_insert_8 : decode cX1_insert 8 = .ok (.iload_n 2, 1) := by decide +kernel
theorem dX1_insert_9 : decode cX1_insert 9 = .ok (.iconst 0, 1) := by decide +kernel
theorem dX1_insert_10 : decode cX1_insert 10 = .ok (.aload_n 0, 1) := by decide +kernel
theorem dX1_insert_11 : decode cX1_insert 11 = .ok (.getfield 49, 3) := by decide +kernel
theorem dX1_insert_14 : decode cX1_insert 14 = .ok (.invokestatic 36, 3) := by decide +kernel
theorem dX1_insert_17 : decode cX1_insert 17 = .ok (.ifCond .eq 7, 3) := by decide +kernel
theorem dX1_insert_20 : decode cX1_insert 20 = .ok (.iconst 1, 1) := by decide +kernel
theorem dX1_insert_21 : decode cX1_insert 21 = .ok (.goto 4, 3) := by decide +kernel
theorem dX1_insert_24 : decode cX1_insert 24 = .ok (.iconst 0, 1) := by decide +kernel
theorem dX1_insert_25 : decode cX1_insert 25 = .ok (.istore 4, 2) := by decide +kernel
theorem dX1_insert_27 : decode cX1_insert 27 = .ok (.aload_n 0, 1) := by decide +kernel
theorem dX1_insert_28 : decode cX1_insert 28 = .ok (.iload 4, 2) := by decide +kernel
theorem dX1_insert_30 : decode cX1_insert 30 = .ok (.iload_n 3, 1) := by decide +kernel
theorem dX1_insert_31 : decode cX1_insert 31 = .ok (.iconst 0, 1) := by decide +kernel
theorem dX1_insert_32 : decode cX1_insert 32 = .ok (.bipush 25, 2) := by decide +kernel
theorem dX1_insert_34 : decode cX1_insert 34 = .ok (.invokestatic 36, 3) := by decide +kernel
theorem dX1_insert_37 : decode cX1_insert 37 = .ok (.aload_n 0, 1) := by decide +kernel
theorem dX1_insert_38 : decode cX1_insert 38 = .ok (.getfield 40, 3) := by decide +kernel
theorem dX1_insert_41 : decode cX1_insert 41 = .ok (.bipush 60, 2) := by decide +kernel
theorem dX1_insert_43 : decode cX1_insert 43 = .ok (.if_icmp .ge 7, 3) := by decide +kernel
theorem dX1_insert_46 : decode cX1_insert 46 = .ok (.iconst 1, 1) := by decide +kernel
theorem dX1_insert_47 : decode cX1_insert 47 = .ok (.goto 4, 3) := by decide +kernel
theorem dX1_insert_50 : decode cX1_insert 50 = .ok (.iconst 0, 1) := by decide +kernel
theorem dX1_insert_51 : decode cX1_insert 51 = .ok (.invokevirtual 67, 3) := by decide +kernel
theorem dX1_insert_54 : decode cX1_insert 54 = .ok (.ifCond .eq 28, 3) := by decide +kernel
theorem dX1_insert_57 : decode cX1_insert 57 = .ok (.aload_n 0, 1) := by decide +kernel
theorem dX1_insert_58 : decode cX1_insert 58 = .ok (.iload_n 1, 1) := by decide +kernel
theorem dX1_insert_59 : decode cX1_insert 59 = .ok (.iload_n 3, 1) := by decide +kernel
theorem dX1_insert_60 : decode cX1_insert 60 = .ok (.iload_n 2, 1) := by decide +kernel
theorem dX1_insert_61 : decode cX1_insert 61 = .ok (.ifCond .ne 7, 3) := by decide +kernel
theorem dX1_insert_64 : decode cX1_insert 64 = .ok (.iconst (-1), 1) := by decide +kernel
theorem dX1_insert_65 : decode cX1_insert 65 = .ok (.goto 11, 3) := by decide +kernel
theorem dX1_insert_68 : decode cX1_insert 68 = .ok (.aload_n 0, 1) := by decide +kernel
theorem dX1_insert_69 : decode cX1_insert 69 = .ok (.getfield 29, 3) := by decide +kernel
theorem dX1_insert_72 : decode cX1_insert 72 = .ok (.iload_n 2, 1) := by decide +kernel
theorem dX1_insert_73 : decode cX1_insert 73 = .ok (.iconst 1, 1) := by decide +kernel
theorem dX1_insert_74 : decode cX1_insert 74 = .ok (.isub, 1) := by decide +kernel
theorem dX1_insert_75 : decode cX1_insert 75 = .ok (.iaload, 1) := by decide +kernel
theorem dX1_insert_76 : decode cX1_insert 76 = .ok (.invokevirtual 71, 3) := by decide +kernel
theorem dX1_insert_79 : decode cX1_insert 79 = .ok (.goto 4, 3) := by decide +kernel
theorem dX1_insert_82 : decode cX1_insert 82 = .ok (.iconst 0, 1) := by decide +kernel
theorem dX1_insert_83 : decode cX1_insert 83 = .ok (.ireturn, 1) := by decide +kernel
set_option maxRecDepth 20000 in
theorem ggX1_delete_X1_looks : GoodIn wsX1_delete wsX1_looks := goodIn_r _ [8, 9, 10, 11, 7, 12, 13, 14, 15, 16, 17, 18, 19, 1, 2, 20, 21, 3, 22, 23, 24, 42, 43, 44, 45, 46, 47, 48, 49, 50, 51] (by decide +kernel) (by decide +kernel)
set_option maxRecDepth 20000 in
theorem gX1_delete_X1_looks : GoodIn wsX1_delete (wsV RX1 64 RX1 yX1_looks wsX1_looks) := goodIn_app (goodIn_of _ (by decide +kernel)) ggX1_delete_X1_looks
set_option maxRecDepth 20000 in
theorem ggX1_delete_X1_in : GoodIn wsX1_delete wsX1_in := goodIn_r _ [15] (by decide +kernel) (by decide +kernel)
set_option maxRecDepth 20000 in
theorem gX1_delete_X1_in : GoodIn wsX1_delete (va_wsS RX1 36 yX1_in wsX1_in) := goodIn_app (goodIn_of _ (by decide +kernel)) ggX1_delete_X1_in
set_option maxRecDepth 20000 in
theorem ggX1_delete_X1_asked_ : GoodIn wsX1_delete wsX1_asked_ := goodIn_r _ [28, 29, 42, 43, 44, 45, 46, 47, 48, 49, 50, 51] (by decide +kernel) (by decide +kernel)
set_option maxRecDepth 20000 in
theorem gX1_delete_X1_asked_ : GoodIn wsX1_delete (wsV RX1 75 RX1 yX1_asked_ wsX1_asked_) := goodIn_app (goodIn_of _ (by decide +kernel)) ggX1_delete_X1_asked_
set_option maxRecDepth 20000 in
theorem ggX1_delete_X1_makes : GoodIn wsX1_delete wsX1_makes := goodIn_r _ [33, 34, 2, 20, 21, 35, 9, 36, 37, 38, 39, 7, 40, 41, 22, 23, 24, 42, 43, 44, 45, 46, 47, 48, 49, 50, 51] (by decide +kernel) (by decide +kernel)
set_option maxRecDepth 20000 in
theorem gX1_delete_X1_makes : GoodIn wsX1_delete (wsV RX1 71 RX1 yX1_makes wsX1_makes) := goodIn_app (goodIn_of _ (by decide +kernel)) ggX1_delete_X1_makes
theorem dX1_delete_0 : decode cX1_delete 0 = .ok (.aload_n 0, 1) := by decide +kernel
theorem dX1_delete_1 : decode cX1_delete 1 = .ok (.iload_n 1, 1) := by decide +kernel
theorem dX1_delete_2 : decode cX1_delete 2 = .ok (.invokevirtual 64, 3) := by decide +kernel
theorem dX1_delete_5 : decode cX1_delete 5 = .ok (.ifCond .eq 21, 3) := by decide +kernel
theorem dX1_delete_8 : decode cX1_delete 8 = .ok (.iload_n 2, 1) := by decide +kernel
theorem dX1_delete_9 : decode cX1_delete 9 = .ok (.iconst 0, 1) := by decide +kernel
theorem dX1_delete_10 : decode cX1_delete 10 = .ok (.aload_n 0, 1) := by decide +kernel
theorem dX1_delete_11 : decode cX1_delete 11 = .ok (.getfield 49, 3) := by decide +kernel
theorem dX1_delete_14 : decode cX1_delete 14 = .ok (.iconst 1, 1) := by decide +kernel
theorem dX1_delete_15 : decode cX1_delete 15 = .ok (.isub, 1) := by decide +kernel
theorem dX1_delete_16 : decode cX1_delete 16 = .ok (.invokestatic 36, 3) := by decide +kernel
theorem dX1_delete_19 : decode cX1_delete 19 = .ok (.ifCond .eq 7, 3) := by decide +kernel
theorem dX1_delete_22 : decode cX1_delete 22 = .ok (.iconst 1, 1) := by decide +kernel
theorem dX1_delete_23 : decode cX1_delete 23 = .ok (.goto 4, 3) := by decide +kernel
theorem dX1_delete_26 : decode cX1_delete 26 = .ok (.iconst 0, 1) := by decide +kernel
theorem dX1_delete_27 : decode cX1_delete 27 = .ok (.istore_n 3, 1) := by decide +kernel
theorem dX1_delete_28 : decode cX1_delete 28 = .ok (.aload_n 0, 1) := by decide +kernel
theorem dX1_delete_29 : decode cX1_delete 29 = .ok (.iload_n 3, 1) := by decide +kernel
theorem dX1_delete_30 : decode cX1_delete 30 = .ok (.aload_n 0, 1) := by decide +kernel
theorem dX1_delete_31 : decode cX1_delete 31 = .ok (.getfield 40, 3) := by decide +kernel
theorem dX1_delete_34 : decode cX1_delete 34 = .ok (.bipush 60, 2) := by decide +kernel
theorem dX1_delete_36 : decode cX1_delete 36 = .ok (.if_icmp .ge 7, 3) := by decide +kernel
theorem dX1_delete_39 : decode cX1_delete 39 = .ok (.iconst 1, 1) := by decide +kernel
theorem dX1_delete_40 : decode cX1_delete 40 = .ok (.goto 4, 3) := by decide +kernel
theorem dX1_delete_43 : decode cX1_delete 43 = .ok (.iconst 0, 1) := by decide +kernel
theorem dX1_delete_44 : decode cX1_delete 44 = .ok (.invokevirtual 75, 3) := by decide +kernel
theorem dX1_delete_47 : decode cX1_delete 47 = .ok (.ifCond .eq 18, 3) := by decide +kernel
theorem dX1_delete_50 : decode cX1_delete 50 = .ok (.aload_n 0, 1) := by decide +kernel
theorem dX1_delete_51 : decode cX1_delete 51 = .ok (.iload_n 1, 1) := by decide +kernel
theorem dX1_delete_52 : decode cX1_delete 52 = .ok (.iconst (-1), 1) := by decide +kernel
theorem dX1_delete_53 : decode cX1_delete 53 = .ok (.aload_n 0, 1) := by decide +kernel
theorem dX1_delete_54 : decode cX1_delete 54 = .ok (.getfield 29, 3) := by decide +kernel
theorem dX1_delete_57 : decode cX1_delete 57 = .ok (.iload_n 2, 1) := by decide +kernel
theorem dX1_delete_58 : decode cX1_delete 58 = .ok (.iaload, 1) := by decide +kernel
theorem dX1_delete_59 : decode cX1_delete 59 = .ok (.invokevirtual 71, 3) := by decide +kernel
theorem dX1_delete_62 : decode cX1_delete 62 = .ok (.goto 4, 3) := by decide +kernel
theorem dX1_delete_65 : decode cX1_delete 65 = .ok (.iconst 0, 1) := by decide +kernel
theorem dX1_delete_66 : decode cX1_delete 66 = .ok (.ireturn, 1) := by decide +kernel
set_option maxRecDepth 20000 in
theorem ggX1_learns_X1_count : GoodIn wsX1_learns wsX1_count := goodIn_r _ [6, 7, 8, 9, 5, 10, 11, 12, 13, 14, 15, 16, 17, 18, 19, 20] (by decide +kernel) (by decide +kernel)
set_option maxRecDepth 20000 in
theorem gX1_learns_X1_count : GoodIn wsX1_learns (wsV RX1 78 RX1 yX1_count wsX1_count) := goodIn_app (goodIn_of _ (by decide +kernel)) ggX1_learns_X1_count
theorem dX1_learns_0 : decode cX1_learns 0 = .ok (.aload_n 0, 1) := by decide +kernel
theorem dX1_learns_1 : decode cX1_learns 1 = .ok (.aload_n 0, 1) := by decide +kernel
theorem dX1_learns_2 : decode cX1_learns 2 = .ok (.getfield 26, 3) := by decide +kernel
theorem dX1_learns_5 : decode cX1_learns 5 = .ok (.iload_n 1, 1) := by decide +kernel
theorem dX1_learns_6 : decode cX1_learns 6 = .ok (.laload, 1) := by decide +kernel
theorem dX1_learns_7 : decode cX1_learns 7 = .ok (.invokevirtual 78, 3) := by decide +kernel
theorem dX1_learns_10 : decode cX1_learns 10 = .ok (.istore 4, 2) := by decide +kernel
theorem dX1_learns_12 : decode cX1_learns 12 = .ok (.aload_n 0, 1) := by decide +kernel
theorem dX1_learns_13 : decode cX1_learns 13 = .ok (.getfield 26, 3) := by decide +kernel
theorem dX1_learns_16 : decode cX1_learns 16 = .ok (.iload_n 1, 1) := by decide +kernel
theorem dX1_learns_17 : decode cX1_learns 17 = .ok (.dup2, 1) := by decide +kernel
theorem dX1_learns_18 : decode cX1_learns 18 = .ok (.laload, 1) := by decide +kernel
theorem dX1_learns_19 : decode cX1_learns 19 = .ok (.lload_n 2, 1) := by decide +kernel
theorem dX1_learns_20 : decode cX1_learns 20 = .ok (.lor, 1) := by decide +kernel
theorem dX1_learns_21 : decode cX1_learns 21 = .ok (.lastore, 1) := by decide +kernel
theorem dX1_learns_22 : decode cX1_learns 22 = .ok (.aload_n 0, 1) := by decide +kernel
theorem dX1_learns_23 : decode cX1_learns 23 = .ok (.aload_n 0, 1) := by decide +kernel
theorem dX1_learns_24 : decode cX1_learns 24 = .ok (.getfield 26, 3) := by decide +kernel
theorem dX1_learns_27 : decode cX1_learns 27 = .ok (.iload_n 1, 1) := by decide +kernel
theorem dX1_learns_28 : decode cX1_learns 28 = .ok (.laload, 1) := by decide +kernel
theorem dX1_learns_29 : decode cX1_learns 29 = .ok (.invokevirtual 78, 3) := by decide +kernel
theorem dX1_learns_32 : decode cX1_learns 32 = .ok (.iload 4, 2) := by decide +kernel
theorem dX1_learns_34 : decode cX1_learns 34 = .ok (.isub, 1) := by decide +kernel
theorem dX1_learns_35 : decode cX1_learns 35 = .ok (.ireturn, 1) := by decide +kernel
set_option maxRecDepth 20000 in
theorem ggX1_learn_X1_isAuthor : GoodIn wsX1_learn wsX1_isAuthor := goodIn_r _ [5, 6, 7, 4, 8] (by decide +kernel) (by decide +kernel)
set_option maxRecDepth 20000 in
theorem gX1_learn_X1_isAuthor : GoodIn wsX1_learn (va_wsS RX1 56 yX1_isAuthor wsX1_isAuthor) := goodIn_app (goodIn_of _ (by decide +kernel)) ggX1_learn_X1_isAuthor
set_option maxRecDepth 20000 in
theorem ggX1_learn_X1_asked : GoodIn wsX1_learn wsX1_asked := goodIn_r _ [12, 13, 26, 27, 28, 29, 30, 31, 32, 33, 34, 35] (by decide +kernel) (by decide +kernel)
set_option maxRecDepth 20000 in
theorem gX1_learn_X1_asked : GoodIn wsX1_learn (wsV RX1 82 RX1 yX1_asked wsX1_asked) := goodIn_app (goodIn_of _ (by decide +kernel)) ggX1_learn_X1_asked
set_option maxRecDepth 20000 in
theorem ggX1_learn_X1_learns : GoodIn wsX1_learn wsX1_learns := goodIn_r _ [17, 1, 18, 19, 20, 4, 21, 22, 23, 24, 25, 26, 27, 28, 29, 30, 31, 32, 33, 34, 35] (by decide +kernel) (by decide +kernel)
set_option maxRecDepth 20000 in
theorem gX1_learn_X1_learns : GoodIn wsX1_learn (wsV RX1 85 RX1 yX1_learns wsX1_learns) := goodIn_app (goodIn_of _ (by decide +kernel)) ggX1_learn_X1_learns
theorem dX1_learn_0 : decode cX1_learn 0 = .ok (.aload_n 0, 1) := by decide +kernel
theorem dX1_learn_1 : decode cX1_learn 1 = .ok (.iload_n 1, 1) := by decide +kernel
theorem dX1_learn_2 : decode cX1_learn 2 = .ok (.invokestatic 56, 3) := by decide +kernel
theorem dX1_learn_5 : decode cX1_learn 5 = .ok (.ifCond .eq 14, 3) := by decide +kernel
theorem dX1_learn_8 : decode cX1_learn 8 = .ok (.iload_n 2, 1) := by decide +kernel
theorem dX1_learn_9 : decode cX1_learn 9 = .ok (.invokestatic 56, 3) := by decide +kernel
theorem dX1_learn_12 : decode cX1_learn 12 = .ok (.ifCond .eq 7, 3) := by decide +kernel
theorem dX1_learn_15 : decode cX1_learn 15 = .ok (.iconst 1, 1) := by decide +kernel
theorem dX1_learn_16 : decode cX1_learn 16 = .ok (.goto 4, 3) := by decide +kernel
theorem dX1_learn_19 : decode cX1_learn 19 = .ok (.iconst 0, 1) := by decide +kernel
theorem dX1_learn_20 : decode cX1_learn 20 = .ok (.invokevirtual 82, 3) := by decide +kernel
theorem dX1_learn_23 : decode cX1_learn 23 = .ok (.ifCond .eq 17, 3) := by decide +kernel
theorem dX1_learn_26 : decode cX1_learn 26 = .ok (.aload_n 0, 1) := by decide +kernel
theorem dX1_learn_27 : decode cX1_learn 27 = .ok (.iload_n 1, 1) := by decide +kernel
theorem dX1_learn_28 : decode cX1_learn 28 = .ok (.aload_n 0, 1) := by decide +kernel
theorem dX1_learn_29 : decode cX1_learn 29 = .ok (.getfield 26, 3) := by decide +kernel
theorem dX1_learn_32 : decode cX1_learn 32 = .ok (.iload_n 2, 1) := by decide +kernel
theorem dX1_learn_33 : decode cX1_learn 33 = .ok (.laload, 1) := by decide +kernel
theorem dX1_learn_34 : decode cX1_learn 34 = .ok (.invokevirtual 85, 3) := by decide +kernel
theorem dX1_learn_37 : decode cX1_learn 37 = .ok (.goto 4, 3) := by decide +kernel
theorem dX1_learn_40 : decode cX1_learn 40 = .ok (.iconst 0, 1) := by decide +kernel
theorem dX1_learn_41 : decode cX1_learn 41 = .ok (.ireturn, 1) := by decide +kernel
set_option maxRecDepth 20000 in
theorem ggX1_learnEvent_X1_isAuthor : GoodIn wsX1_learnEvent wsX1_isAuthor := goodIn_r _ [4, 5, 6, 3, 7] (by decide +kernel) (by decide +kernel)
set_option maxRecDepth 20000 in
theorem gX1_learnEvent_X1_isAuthor : GoodIn wsX1_learnEvent (va_wsS RX1 56 yX1_isAuthor wsX1_isAuthor) := goodIn_app (goodIn_of _ (by decide +kernel)) ggX1_learnEvent_X1_isAuthor
set_option maxRecDepth 20000 in
theorem ggX1_learnEvent_X1_isEvent : GoodIn wsX1_learnEvent wsX1_isEvent := goodIn_r _ [11, 12, 5, 6, 3, 7, 35, 36, 37, 38, 39, 40, 41, 42, 43, 44] (by decide +kernel) (by decide +kernel)
set_option maxRecDepth 20000 in
theorem gX1_learnEvent_X1_isEvent : GoodIn wsX1_learnEvent (wsV RX1 89 RX1 yX1_isEvent wsX1_isEvent) := goodIn_app (goodIn_of _ (by decide +kernel)) ggX1_learnEvent_X1_isEvent
set_option maxRecDepth 20000 in
theorem ggX1_learnEvent_X1_asked : GoodIn wsX1_learnEvent wsX1_asked := goodIn_r _ [16, 17, 35, 36, 37, 38, 39, 40, 41, 42, 43, 44] (by decide +kernel) (by decide +kernel)
set_option maxRecDepth 20000 in
theorem gX1_learnEvent_X1_asked : GoodIn wsX1_learnEvent (wsV RX1 82 RX1 yX1_asked wsX1_asked) := goodIn_app (goodIn_of _ (by decide +kernel)) ggX1_learnEvent_X1_asked
set_option maxRecDepth 20000 in
theorem ggX1_learnEvent_X1_versionOf : GoodIn wsX1_learnEvent wsX1_versionOf := goodIn_r _ [21, 22, 35, 36, 37, 38, 39, 40, 41, 42, 43, 44] (by decide +kernel) (by decide +kernel)
set_option maxRecDepth 20000 in
theorem gX1_learnEvent_X1_versionOf : GoodIn wsX1_learnEvent (wsV RX1 92 RX1 yX1_versionOf wsX1_versionOf) := goodIn_app (goodIn_of _ (by decide +kernel)) ggX1_learnEvent_X1_versionOf
set_option maxRecDepth 20000 in
theorem ggX1_learnEvent_X1_learns : GoodIn wsX1_learnEvent wsX1_learns := goodIn_r _ [26, 27, 28, 29, 30, 3, 31, 12, 32, 33, 34, 35, 36, 37, 38, 39, 40, 41, 42, 43, 44] (by decide +kernel) (by decide +kernel)
set_option maxRecDepth 20000 in
theorem gX1_learnEvent_X1_learns : GoodIn wsX1_learnEvent (wsV RX1 85 RX1 yX1_learns wsX1_learns) := goodIn_app (goodIn_of _ (by decide +kernel)) ggX1_learnEvent_X1_learns
theorem dX1_learnEvent_0 : decode cX1_learnEvent 0 = .ok (.aload_n 0, 1) := by decide +kernel
theorem dX1_learnEvent_1 : decode cX1_learnEvent 1 = .ok (.iload_n 1, 1) := by decide +kernel
theorem dX1_learnEvent_2 : decode cX1_learnEvent 2 = .ok (.invokestatic 56, 3) := by decide +kernel
theorem dX1_learnEvent_5 : decode cX1_learnEvent 5 = .ok (.ifCond .eq 15, 3) := by decide +kernel
theorem dX1_learnEvent_8 : decode cX1_learnEvent 8 = .ok (.aload_n 0, 1) := by decide +kernel
theorem dX1_learnEvent_9 : decode cX1_learnEvent 9 = .ok (.iload_n 2, 1) := by decide +kernel
theorem dX1_learnEvent_10 : decode cX1_learnEvent 10 = .ok (.invokevirtual 89, 3) := by decide +kernel
theorem dX1_learnEvent_13 : decode cX1_learnEvent 13 = .ok (.ifCond .eq 7, 3) := by decide +kernel
theorem dX1_learnEvent_16 : decode cX1_learnEvent 16 = .ok (.iconst 1, 1) := by decide +kernel
theorem dX1_learnEvent_17 : decode cX1_learnEvent 17 = .ok (.goto 4, 3) := by decide +kernel
theorem dX1_learnEvent_20 : decode cX1_learnEvent 20 = .ok (.iconst 0, 1) := by decide +kernel
theorem dX1_learnEvent_21 : decode cX1_learnEvent 21 = .ok (.invokevirtual 82, 3) := by decide +kernel
theorem dX1_learnEvent_24 : decode cX1_learnEvent 24 = .ok (.ifCond .eq 16, 3) := by decide +kernel
theorem dX1_learnEvent_27 : decode cX1_learnEvent 27 = .ok (.aload_n 0, 1) := by decide +kernel
theorem dX1_learnEvent_28 : decode cX1_learnEvent 28 = .ok (.iload_n 1, 1) := by decide +kernel
theorem dX1_learnEvent_29 : decode cX1_learnEvent 29 = .ok (.aload_n 0, 1) := by decide +kernel
theorem dX1_learnEvent_30 : decode cX1_learnEvent 30 = .ok (.iload_n 2, 1) := by decide +kernel
theorem dX1_learnEvent_31 : decode cX1_learnEvent 31 = .ok (.invokevirtual 92, 3) := by decide +kernel
theorem dX1_learnEvent_34 : decode cX1_learnEvent 34 = .ok (.invokevirtual 85, 3) := by decide +kernel
theorem dX1_learnEvent_37 : decode cX1_learnEvent 37 = .ok (.goto 4, 3) := by decide +kernel
theorem dX1_learnEvent_40 : decode cX1_learnEvent 40 = .ok (.iconst 0, 1) := by decide +kernel
theorem dX1_learnEvent_41 : decode cX1_learnEvent 41 = .ok (.ireturn, 1) := by decide +kernel
theorem dX1_events_0 : decode cX1_events 0 = .ok (.aload_n 0, 1) := by decide +kernel
theorem dX1_events_1 : decode cX1_events 1 = .ok (.iconst 0, 1) := by decide +kernel
theorem dX1_events_2 : decode cX1_events 2 = .ok (.putfield 32, 3) := by decide +kernel
theorem dX1_events_5 : decode cX1_events 5 = .ok (.aload_n 0, 1) := by decide +kernel
theorem dX1_events_6 : decode cX1_events 6 = .ok (.getfield 40, 3) := by decide +kernel
theorem dX1_events_9 : decode cX1_events 9 = .ok (.ireturn, 1) := by decide +kernel
set_option maxRecDepth 20000 in
theorem ggX1_length_X1_looks : GoodIn wsX1_length wsX1_looks := goodIn_r _ [6, 7, 8, 9, 5, 10, 11, 12, 13, 14, 15, 16, 17, 1, 18, 19, 20, 21, 22, 23, 24, 30, 31, 32, 33, 34, 35, 36, 37, 38, 39] (by decide +kernel) (by decide +kernel)
set_option maxRecDepth 20000 in
theorem gX1_length_X1_looks : GoodIn wsX1_length (wsV RX1 64 RX1 yX1_looks wsX1_looks) := goodIn_app (goodIn_of _ (by decide +kernel)) ggX1_length_X1_looks
set_option maxRecDepth 20000 in
theorem ggX1_length_X1_asked : GoodIn wsX1_length wsX1_asked := goodIn_r _ [28, 29, 30, 31, 32, 33, 34, 35, 36, 37, 38, 39] (by decide +kernel) (by decide +kernel)
set_option maxRecDepth 20000 in
theorem gX1_length_X1_asked : GoodIn wsX1_length (wsV RX1 82 RX1 yX1_asked wsX1_asked) := goodIn_app (goodIn_of _ (by decide +kernel)) ggX1_length_X1_asked
theorem dX1_length_0 : decode cX1_length 0 = .ok (.aload_n 0, 1) := by decide +kernel
theorem dX1_length_1 : decode cX1_length 1 = .ok (.aload_n 0, 1) := by decide +kernel
theorem dX1_length_2 : decode cX1_length 2 = .ok (.iload_n 1, 1) := by decide +kernel
theorem dX1_length_3 : decode cX1_length 3 = .ok (.invokevirtual 64, 3) := by decide +kernel
theorem dX1_length_6 : decode cX1_length 6 = .ok (.invokevirtual 82, 3) := by decide +kernel
theorem dX1_length_9 : decode cX1_length 9 = .ok (.ifCond .eq 10, 3) := by decide +kernel
theorem dX1_length_12 : decode cX1_length 12 = .ok (.aload_n 0, 1) := by decide +kernel
theorem dX1_length_13 : decode cX1_length 13 = .ok (.getfield 49, 3) := by decide +kernel
theorem dX1_length_16 : decode cX1_length 16 = .ok (.goto 4, 3) := by decide +kernel
theorem dX1_length_19 : decode cX1_length 19 = .ok (.iconst 0, 1) := by decide +kernel
theorem dX1_length_20 : decode cX1_length 20 = .ok (.ireturn, 1) := by decide +kernel
set_option maxRecDepth 20000 in
theorem ggX1_letterAt_X1_looks : GoodIn wsX1_letterAt wsX1_looks := goodIn_r _ [8, 9, 10, 11, 7, 12, 13, 14, 15, 16, 17, 18, 19, 1, 20, 2, 21, 3, 22, 23, 24, 30, 31, 32, 33, 34, 35, 36, 37, 38, 39] (by decide +kernel) (by decide +kernel)
set_option maxRecDepth 20000 in
theorem gX1_letterAt_X1_looks : GoodIn wsX1_letterAt (wsV RX1 64 RX1 yX1_looks wsX1_looks) := goodIn_app (goodIn_of _ (by decide +kernel)) ggX1_letterAt_X1_looks
set_option maxRecDepth 20000 in
theorem ggX1_letterAt_X1_in : GoodIn wsX1_letterAt wsX1_in := goodIn_r _ [15] (by decide +kernel) (by decide +kernel)
set_option maxRecDepth 20000 in
theorem gX1_letterAt_X1_in : GoodIn wsX1_letterAt (va_wsS RX1 36 yX1_in wsX1_in) := goodIn_app (goodIn_of _ (by decide +kernel)) ggX1_letterAt_X1_in
set_option maxRecDepth 20000 in
theorem ggX1_letterAt_X1_asked : GoodIn wsX1_letterAt wsX1_asked := goodIn_r _ [28, 29, 30, 31, 32, 33, 34, 35, 36, 37, 38, 39] (by decide +kernel) (by decide +kernel)
set_option maxRecDepth 20000 in
theorem gX1_letterAt_X1_asked : GoodIn wsX1_letterAt (wsV RX1 82 RX1 yX1_asked wsX1_asked) := goodIn_app (goodIn_of _ (by decide +kernel)) ggX1_letterAt_X1_asked
theorem dX1_letterAt_0 : decode cX1_letterAt 0 = .ok (.aload_n 0, 1) := by decide +kernel
theorem dX1_letterAt_1 : decode cX1_letterAt 1 = .ok (.aload_n 0, 1) := by decide +kernel
theorem dX1_letterAt_2 : decode cX1_letterAt 2 = .ok (.iload_n 1, 1) := by decide +kernel
theorem dX1_letterAt_3 : decode cX1_letterAt 3 = .ok (.invokevirtual 64, 3) := by decide +kernel
theorem dX1_letterAt_6 : decode cX1_letterAt 6 = .ok (.ifCond .eq 21, 3) := by decide +kernel
theorem dX1_letterAt_9 : decode cX1_letterAt 9 = .ok (.iload_n 2, 1) := by decide +kernel
theorem dX1_letterAt_10 : decode cX1_letterAt 10 = .ok (.iconst 0, 1) := by decide +kernel
theorem dX1_letterAt_11 : decode cX1_letterAt 11 = .ok (.aload_n 0, 1) := by decide +kernel
theorem dX1_letterAt_12 : decode cX1_letterAt 12 = .ok (.getfield 49, 3) := by decide +kernel
theorem dX1_letterAt_15 : decode cX1_letterAt 15 = .ok (.iconst 1, 1) := by decide +kernel
theorem dX1_letterAt_16 : decode cX1_letterAt 16 = .ok (.isub, 1) := by decide +kernel
theorem dX1_letterAt_17 : decode cX1_letterAt 17 = .ok (.invokestatic 36, 3) := by decide +kernel
theorem dX1_letterAt_20 : decode cX1_letterAt 20 = .ok (.ifCond .eq 7, 3) := by decide +kernel
theorem dX1_letterAt_23 : decode cX1_letterAt 23 = .ok (.iconst 1, 1) := by decide +kernel
theorem dX1_letterAt_24 : decode cX1_letterAt 24 = .ok (.goto 4, 3) := by decide +kernel
theorem dX1_letterAt_27 : decode cX1_letterAt 27 = .ok (.iconst 0, 1) := by decide +kernel
theorem dX1_letterAt_28 : decode cX1_letterAt 28 = .ok (.invokevirtual 82, 3) := by decide +kernel
theorem dX1_letterAt_31 : decode cX1_letterAt 31 = .ok (.ifCond .eq 17, 3) := by decide +kernel
theorem dX1_letterAt_34 : decode cX1_letterAt 34 = .ok (.aload_n 0, 1) := by decide +kernel
theorem dX1_letterAt_35 : decode cX1_letterAt 35 = .ok (.getfield 13, 3) := by decide +kernel
theorem dX1_letterAt_38 : decode cX1_letterAt 38 = .ok (.aload_n 0, 1) := by decide +kernel
theorem dX1_letterAt_39 : decode cX1_letterAt 39 = .ok (.getfield 29, 3) := by decide +kernel
theorem dX1_letterAt_42 : decode cX1_letterAt 42 = .ok (.iload_n 2, 1) := by decide +kernel
theorem dX1_letterAt_43 : decode cX1_letterAt 43 = .ok (.iaload, 1) := by decide +kernel
theorem dX1_letterAt_44 : decode cX1_letterAt 44 = .ok (.iaload, 1) := by decide +kernel
theorem dX1_letterAt_45 : decode cX1_letterAt 45 = .ok (.goto 4, 3) := by decide +kernel
theorem dX1_letterAt_48 : decode cX1_letterAt 48 = .ok (.iconst 0, 1) := by decide +kernel
theorem dX1_letterAt_49 : decode cX1_letterAt 49 = .ok (.ireturn, 1) := by decide +kernel
set_option maxRecDepth 20000 in
theorem ggX1_letterByList_X1_letterAt : GoodIn wsX1_letterByList wsX1_letterAt := goodIn_r _ [5, 6, 7, 8, 9, 10, 11, 4, 12, 13, 14, 15, 16, 17, 18, 19, 20, 21, 22, 23, 24, 25, 26, 27, 28, 29, 30, 31, 32, 33, 34, 35, 36, 37, 38, 39, 40, 41, 42, 43] (by decide +kernel) (by decide +kernel)
set_option maxRecDepth 20000 in
theorem gX1_letterByList_X1_letterAt : GoodIn wsX1_letterByList (wsV RX1 96 RX1 yX1_letterAt wsX1_letterAt) := goodIn_app (goodIn_of _ (by decide +kernel)) ggX1_letterByList_X1_letterAt
theorem dX1_letterByList_0 : decode cX1_letterByList 0 = .ok (.aload_n 0, 1) := by decide +kernel
theorem dX1_letterByList_1 : decode cX1_letterByList 1 = .ok (.iload_n 1, 1) := by decide +kernel
theorem dX1_letterByList_2 : decode cX1_letterByList 2 = .ok (.iload_n 2, 1) := by decide +kernel
theorem dX1_letterByList_3 : decode cX1_letterByList 3 = .ok (.invokevirtual 96, 3) := by decide +kernel
theorem dX1_letterByList_6 : decode cX1_letterByList 6 = .ok (.ireturn, 1) := by decide +kernel
set_option maxRecDepth 20000 in
theorem ggX1_eventAt_X1_looks : GoodIn wsX1_eventAt wsX1_looks := goodIn_r _ [7, 8, 9, 10, 6, 11, 12, 13, 14, 15, 16, 17, 18, 1, 19, 20, 21, 2, 22, 23, 24, 30, 31, 32, 33, 34, 35, 36, 37, 38, 39] (by decide +kernel) (by decide +kernel)
set_option maxRecDepth 20000 in
theorem gX1_eventAt_X1_looks : GoodIn wsX1_eventAt (wsV RX1 64 RX1 yX1_looks wsX1_looks) := goodIn_app (goodIn_of _ (by decide +kernel)) ggX1_eventAt_X1_looks
set_option maxRecDepth 20000 in
theorem ggX1_eventAt_X1_in : GoodIn wsX1_eventAt wsX1_in := goodIn_r _ [14] (by decide +kernel) (by decide +kernel)
set_option maxRecDepth 20000 in
theorem gX1_eventAt_X1_in : GoodIn wsX1_eventAt (va_wsS RX1 36 yX1_in wsX1_in) := goodIn_app (goodIn_of _ (by decide +kernel)) ggX1_eventAt_X1_in
set_option maxRecDepth 20000 in
theorem ggX1_eventAt_X1_asked : GoodIn wsX1_eventAt wsX1_asked := goodIn_r _ [28, 29, 30, 31, 32, 33, 34, 35, 36, 37, 38, 39] (by decide +kernel) (by decide +kernel)
set_option maxRecDepth 20000 in
theorem gX1_eventAt_X1_asked : GoodIn wsX1_eventAt (wsV RX1 82 RX1 yX1_asked wsX1_asked) := goodIn_app (goodIn_of _ (by decide +kernel)) ggX1_eventAt_X1_asked
theorem dX1_eventAt_0 : decode cX1_eventAt 0 = .ok (.aload_n 0, 1) := by decide +kernel
theorem dX1_eventAt_1 : decode cX1_eventAt 1 = .ok (.aload_n 0, 1) := by decide +kernel
theorem dX1_eventAt_2 : decode cX1_eventAt 2 = .ok (.iload_n 1, 1) := by decide +kernel
theorem dX1_eventAt_3 : decode cX1_eventAt 3 = .ok (.invokevirtual 64, 3) := by decide +kernel
theorem dX1_eventAt_6 : decode cX1_eventAt 6 = .ok (.ifCond .eq 21, 3) := by decide +kernel
theorem dX1_eventAt_9 : decode cX1_eventAt 9 = .ok (.iload_n 2, 1) := by decide +kernel
theorem dX1_eventAt_10 : decode cX1_eventAt 10 = .ok (.iconst 0, 1) := by decide +kernel
theorem dX1_eventAt_11 : decode cX1_eventAt 11 = .ok (.aload_n 0, 1) := by decide +kernel
theorem dX1_eventAt_12 : decode cX1_eventAt 12 = .ok (.getfield 49, 3) := by decide +kernel
theorem dX1_eventAt_15 : decode cX1_eventAt 15 = .ok (.iconst 1, 1) := by decide +kernel
theorem dX1_eventAt_16 : decode cX1_eventAt 16 = .ok (.isub, 1) := by decide +kernel
theorem dX1_eventAt_17 : decode cX1_eventAt 17 = .ok (.invokestatic 36, 3) := by decide +kernel
theorem dX1_eventAt_20 : decode cX1_eventAt 20 = .ok (.ifCond .eq 7, 3) := by decide +kernel
theorem dX1_eventAt_23 : decode cX1_eventAt 23 = .ok (.iconst 1, 1) := by decide +kernel
theorem dX1_eventAt_24 : decode cX1_eventAt 24 = .ok (.goto 4, 3) := by decide +kernel
theorem dX1_eventAt_27 : decode cX1_eventAt 27 = .ok (.iconst 0, 1) := by decide +kernel
theorem dX1_eventAt_28 : decode cX1_eventAt 28 = .ok (.invokevirtual 82, 3) := by decide +kernel
theorem dX1_eventAt_31 : decode cX1_eventAt 31 = .ok (.ifCond .eq 12, 3) := by decide +kernel
theorem dX1_eventAt_34 : decode cX1_eventAt 34 = .ok (.aload_n 0, 1) := by decide +kernel
theorem dX1_eventAt_35 : decode cX1_eventAt 35 = .ok (.getfield 29, 3) := by decide +kernel
theorem dX1_eventAt_38 : decode cX1_eventAt 38 = .ok (.iload_n 2, 1) := by decide +kernel
theorem dX1_eventAt_39 : decode cX1_eventAt 39 = .ok (.iaload, 1) := by decide +kernel
theorem dX1_eventAt_40 : decode cX1_eventAt 40 = .ok (.goto 4, 3) := by decide +kernel
theorem dX1_eventAt_43 : decode cX1_eventAt 43 = .ok (.iconst 0, 1) := by decide +kernel
theorem dX1_eventAt_44 : decode cX1_eventAt 44 = .ok (.ireturn, 1) := by decide +kernel
set_option maxRecDepth 20000 in
theorem ggX1_looksAt_X1_isEvent : GoodIn wsX1_looksAt wsX1_isEvent := goodIn_r _ [5, 6, 7, 8, 4, 9, 26, 27, 28, 29, 30, 31, 32, 33, 34, 35] (by decide +kernel) (by decide +kernel)
set_option maxRecDepth 20000 in
theorem gX1_looksAt_X1_isEvent : GoodIn wsX1_looksAt (wsV RX1 89 RX1 yX1_isEvent wsX1_isEvent) := goodIn_app (goodIn_of _ (by decide +kernel)) ggX1_looksAt_X1_isEvent
set_option maxRecDepth 20000 in
theorem ggX1_looksAt_X1_versionOf : GoodIn wsX1_looksAt wsX1_versionOf := goodIn_r _ [13, 14, 26, 27, 28, 29, 30, 31, 32, 33, 34, 35] (by decide +kernel) (by decide +kernel)
set_option maxRecDepth 20000 in
theorem gX1_looksAt_X1_versionOf : GoodIn wsX1_looksAt (wsV RX1 92 RX1 yX1_versionOf wsX1_versionOf) := goodIn_app (goodIn_of _ (by decide +kernel)) ggX1_looksAt_X1_versionOf
set_option maxRecDepth 20000 in
theorem ggX1_looksAt_X1_reads : GoodIn wsX1_looksAt wsX1_reads := goodIn_r _ [18, 19, 6, 20, 21, 22, 23, 24, 4, 25, 26, 27, 28, 29, 30, 31, 32, 33, 34, 35] (by decide +kernel) (by decide +kernel)
set_option maxRecDepth 20000 in
theorem gX1_looksAt_X1_reads : GoodIn wsX1_looksAt (wsV RX1 60 RX1 yX1_reads wsX1_reads) := goodIn_app (goodIn_of _ (by decide +kernel)) ggX1_looksAt_X1_reads
theorem dX1_looksAt_0 : decode cX1_looksAt 0 = .ok (.aload_n 0, 1) := by decide +kernel
theorem dX1_looksAt_1 : decode cX1_looksAt 1 = .ok (.iload_n 1, 1) := by decide +kernel
theorem dX1_looksAt_2 : decode cX1_looksAt 2 = .ok (.invokevirtual 89, 3) := by decide +kernel
theorem dX1_looksAt_5 : decode cX1_looksAt 5 = .ok (.istore_n 2, 1) := by decide +kernel
theorem dX1_looksAt_6 : decode cX1_looksAt 6 = .ok (.iload_n 2, 1) := by decide +kernel
theorem dX1_looksAt_7 : decode cX1_looksAt 7 = .ok (.ifCond .eq 12, 3) := by decide +kernel
theorem dX1_looksAt_10 : decode cX1_looksAt 10 = .ok (.aload_n 0, 1) := by decide +kernel
theorem dX1_looksAt_11 : decode cX1_looksAt 11 = .ok (.aload_n 0, 1) := by decide +kernel
theorem dX1_looksAt_12 : decode cX1_looksAt 12 = .ok (.iload_n 1, 1) := by decide +kernel
theorem dX1_looksAt_13 : decode cX1_looksAt 13 = .ok (.invokevirtual 92, 3) := by decide +kernel
theorem dX1_looksAt_16 : decode cX1_looksAt 16 = .ok (.invokevirtual 60, 3) := by decide +kernel
theorem dX1_looksAt_19 : decode cX1_looksAt 19 = .ok (.iload_n 2, 1) := by decide +kernel
theorem dX1_looksAt_20 : decode cX1_looksAt 20 = .ok (.ireturn, 1) := by decide +kernel
set_option maxRecDepth 20000 in
theorem ggX1_lengthOf_X1_looksAt : GoodIn wsX1_lengthOf wsX1_looksAt := goodIn_r _ [6, 7, 8, 9, 5, 10, 11, 12, 13, 14, 15, 16, 17, 18, 19, 20, 21, 22, 23, 1, 24, 25, 26, 27, 28, 29, 35, 36, 37, 38, 39, 40, 41, 42, 43, 44] (by decide +kernel) (by decide +kernel)
set_option maxRecDepth 20000 in
theorem gX1_lengthOf_X1_looksAt : GoodIn wsX1_lengthOf (wsV RX1 100 RX1 yX1_looksAt wsX1_looksAt) := goodIn_app (goodIn_of _ (by decide +kernel)) ggX1_lengthOf_X1_looksAt
set_option maxRecDepth 20000 in
theorem ggX1_lengthOf_X1_asked : GoodIn wsX1_lengthOf wsX1_asked := goodIn_r _ [33, 34, 35, 36, 37, 38, 39, 40, 41, 42, 43, 44] (by decide +kernel) (by decide +kernel)
set_option maxRecDepth 20000 in
theorem gX1_lengthOf_X1_asked : GoodIn wsX1_lengthOf (wsV RX1 82 RX1 yX1_asked wsX1_asked) := goodIn_app (goodIn_of _ (by decide +kernel)) ggX1_lengthOf_X1_asked
theorem dX1_lengthOf_0 : decode cX1_lengthOf 0 = .ok (.aload_n 0, 1) := by decide +kernel
theorem dX1_lengthOf_1 : decode cX1_lengthOf 1 = .ok (.aload_n 0, 1) := by decide +kernel
theorem dX1_lengthOf_2 : decode cX1_lengthOf 2 = .ok (.iload_n 1, 1) := by decide +kernel
theorem dX1_lengthOf_3 : decode cX1_lengthOf 3 = .ok (.invokevirtual 100, 3) := by decide +kernel
theorem dX1_lengthOf_6 : decode cX1_lengthOf 6 = .ok (.invokevirtual 82, 3) := by decide +kernel
theorem dX1_lengthOf_9 : decode cX1_lengthOf 9 = .ok (.ifCond .eq 10, 3) := by decide +kernel
theorem dX1_lengthOf_12 : decode cX1_lengthOf 12 = .ok (.aload_n 0, 1) := by decide +kernel
theorem dX1_lengthOf_13 : decode cX1_lengthOf 13 = .ok (.getfield 49, 3) := by decide +kernel
theorem dX1_lengthOf_16 : decode cX1_lengthOf 16 = .ok (.goto 4, 3) := by decide +kernel
theorem dX1_lengthOf_19 : decode cX1_lengthOf 19 = .ok (.iconst 0, 1) := by decide +kernel
theorem dX1_lengthOf_20 : decode cX1_lengthOf 20 = .ok (.ireturn, 1) := by decide +kernel
set_option maxRecDepth 20000 in
theorem ggX1_letterOf_X1_looksAt : GoodIn wsX1_letterOf wsX1_looksAt := goodIn_r _ [8, 9, 10, 11, 7, 12, 13, 14, 15, 16, 17, 18, 19, 20, 21, 22, 23, 24, 25, 1, 2, 26, 3, 27, 28, 29, 35, 36, 37, 38, 39, 40, 41, 42, 43, 44] (by decide +kernel) (by decide +kernel)
set_option maxRecDepth 20000 in
theorem gX1_letterOf_X1_looksAt : GoodIn wsX1_letterOf (wsV RX1 100 RX1 yX1_looksAt wsX1_looksAt) := goodIn_app (goodIn_of _ (by decide +kernel)) ggX1_letterOf_X1_looksAt
set_option maxRecDepth 20000 in
theorem ggX1_letterOf_X1_in : GoodIn wsX1_letterOf wsX1_in := goodIn_r _ [16] (by decide +kernel) (by decide +kernel)
set_option maxRecDepth 20000 in
theorem gX1_letterOf_X1_in : GoodIn wsX1_letterOf (va_wsS RX1 36 yX1_in wsX1_in) := goodIn_app (goodIn_of _ (by decide +kernel)) ggX1_letterOf_X1_in
set_option maxRecDepth 20000 in
theorem ggX1_letterOf_X1_asked : GoodIn wsX1_letterOf wsX1_asked := goodIn_r _ [33, 34, 35, 36, 37, 38, 39, 40, 41, 42, 43, 44] (by decide +kernel) (by decide +kernel)
set_option maxRecDepth 20000 in
theorem gX1_letterOf_X1_asked : GoodIn wsX1_letterOf (wsV RX1 82 RX1 yX1_asked wsX1_asked) := goodIn_app (goodIn_of _ (by decide +kernel)) ggX1_letterOf_X1_asked
theorem dX1_letterOf_0 : decode cX1_letterOf 0 = .ok (.aload_n 0, 1) := by decide +kernel
theorem dX1_letterOf_1 : decode cX1_letterOf 1 = .ok (.aload_n 0, 1) := by decide +kernel
theorem dX1_letterOf_2 : decode cX1_letterOf 2 = .ok (.iload_n 1, 1) := by decide +kernel
theorem dX1_letterOf_3 : decode cX1_letterOf 3 = .ok (.invokevirtual 100, 3) := by decide +kernel
theorem dX1_letterOf_6 : decode cX1_letterOf 6 = .ok (.ifCond .eq 21, 3) := by decide +kernel
theorem dX1_letterOf_9 : decode cX1_letterOf 9 = .ok (.iload_n 2, 1) := by decide +kernel
theorem dX1_letterOf_10 : decode cX1_letterOf 10 = .ok (.iconst 0, 1) := by decide +kernel
theorem dX1_letterOf_11 : decode cX1_letterOf 11 = .ok (.aload_n 0, 1) := by decide +kernel
theorem dX1_letterOf_12 : decode cX1_letterOf 12 = .ok (.getfield 49, 3) := by decide +kernel
theorem dX1_letterOf_15 : decode cX1_letterOf 15 = .ok (.iconst 1, 1) := by decide +kernel
theorem dX1_letterOf_16 : decode cX1_letterOf 16 = .ok (.isub, 1) := by decide +kernel
theorem dX1_letterOf_17 : decode cX1_letterOf 17 = .ok (.invokestatic 36, 3) := by decide +kernel
theorem dX1_letterOf_20 : decode cX1_letterOf 20 = .ok (.ifCond .eq 7, 3) := by decide +kernel
theorem dX1_letterOf_23 : decode cX1_letterOf 23 = .ok (.iconst 1, 1) := by decide +kernel
theorem dX1_letterOf_24 : decode cX1_letterOf 24 = .ok (.goto 4, 3) := by decide +kernel
theorem dX1_letterOf_27 : decode cX1_letterOf 27 = .ok (.iconst 0, 1) := by decide +kernel
theorem dX1_letterOf_28 : decode cX1_letterOf 28 = .ok (.invokevirtual 82, 3) := by decide +kernel
theorem dX1_letterOf_31 : decode cX1_letterOf 31 = .ok (.ifCond .eq 17, 3) := by decide +kernel
theorem dX1_letterOf_34 : decode cX1_letterOf 34 = .ok (.aload_n 0, 1) := by decide +kernel
theorem dX1_letterOf_35 : decode cX1_letterOf 35 = .ok (.getfield 13, 3) := by decide +kernel
theorem dX1_letterOf_38 : decode cX1_letterOf 38 = .ok (.aload_n 0, 1) := by decide +kernel
theorem dX1_letterOf_39 : decode cX1_letterOf 39 = .ok (.getfield 29, 3) := by decide +kernel
theorem dX1_letterOf_42 : decode cX1_letterOf 42 = .ok (.iload_n 2, 1) := by decide +kernel
theorem dX1_letterOf_43 : decode cX1_letterOf 43 = .ok (.iaload, 1) := by decide +kernel
theorem dX1_letterOf_44 : decode cX1_letterOf 44 = .ok (.iaload, 1) := by decide +kernel
theorem dX1_letterOf_45 : decode cX1_letterOf 45 = .ok (.goto 4, 3) := by decide +kernel
theorem dX1_letterOf_48 : decode cX1_letterOf 48 = .ok (.iconst 0, 1) := by decide +kernel
theorem dX1_letterOf_49 : decode cX1_letterOf 49 = .ok (.ireturn, 1) := by decide +kernel
set_option maxRecDepth 20000 in
theorem ggX1_lettersBy_X1_isAuthor : GoodIn wsX1_lettersBy wsX1_isAuthor := goodIn_r _ [8, 9, 10, 7, 11] (by decide +kernel) (by decide +kernel)
set_option maxRecDepth 20000 in
theorem gX1_lettersBy_X1_isAuthor : GoodIn wsX1_lettersBy (va_wsS RX1 56 yX1_isAuthor wsX1_isAuthor) := goodIn_app (goodIn_of _ (by decide +kernel)) ggX1_lettersBy_X1_isAuthor
set_option maxRecDepth 20000 in
theorem ggX1_lettersBy_X1_asked : GoodIn wsX1_lettersBy wsX1_asked := goodIn_r _ [15, 16, 27, 28, 29, 30, 31, 32, 33, 34, 35, 36] (by decide +kernel) (by decide +kernel)
set_option maxRecDepth 20000 in
theorem gX1_lettersBy_X1_asked : GoodIn wsX1_lettersBy (wsV RX1 82 RX1 yX1_asked wsX1_asked) := goodIn_app (goodIn_of _ (by decide +kernel)) ggX1_lettersBy_X1_asked
set_option maxRecDepth 20000 in
theorem ggX1_lettersBy_X1_reads : GoodIn wsX1_lettersBy wsX1_reads := goodIn_r _ [20, 2, 21, 22, 23, 4, 24, 25, 7, 26, 27, 28, 29, 30, 31, 32, 33, 34, 35, 36] (by decide +kernel) (by decide +kernel)
set_option maxRecDepth 20000 in
theorem gX1_lettersBy_X1_reads : GoodIn wsX1_lettersBy (wsV RX1 60 RX1 yX1_reads wsX1_reads) := goodIn_app (goodIn_of _ (by decide +kernel)) ggX1_lettersBy_X1_reads
theorem dX1_lettersBy_0 : decode cX1_lettersBy 0 = .ok (.iconst 0, 1) := by decide +kernel
theorem dX1_lettersBy_1 : decode cX1_lettersBy 1 = .ok (.istore_n 3, 1) := by decide +kernel
theorem dX1_lettersBy_2 : decode cX1_lettersBy 2 = .ok (.aload_n 0, 1) := by decide +kernel
theorem dX1_lettersBy_3 : decode cX1_lettersBy 3 = .ok (.iload_n 1, 1) := by decide +kernel
theorem dX1_lettersBy_4 : decode cX1_lettersBy 4 = .ok (.invokestatic 56, 3) := by decide +kernel
theorem dX1_lettersBy_7 : decode cX1_lettersBy 7 = .ok (.ifCond .eq 14, 3) := by decide +kernel
theorem dX1_lettersBy_10 : decode cX1_lettersBy 10 = .ok (.iload_n 2, 1) := by decide +kernel
theorem dX1_lettersBy_11 : decode cX1_lettersBy 11 = .ok (.invokestatic 56, 3) := by decide +kernel
theorem dX1_lettersBy_14 : decode cX1_lettersBy 14 = .ok (.ifCond .eq 7, 3) := by decide +kernel
theorem dX1_lettersBy_17 : decode cX1_lettersBy 17 = .ok (.iconst 1, 1) := by decide +kernel
theorem dX1_lettersBy_18 : decode cX1_lettersBy 18 = .ok (.goto 4, 3) := by decide +kernel
theorem dX1_lettersBy_21 : decode cX1_lettersBy 21 = .ok (.iconst 0, 1) := by decide +kernel
theorem dX1_lettersBy_22 : decode cX1_lettersBy 22 = .ok (.invokevirtual 82, 3) := by decide +kernel
theorem dX1_lettersBy_25 : decode cX1_lettersBy 25 = .ok (.istore 4, 2) := by decide +kernel
theorem dX1_lettersBy_27 : decode cX1_lettersBy 27 = .ok (.iload 4, 2) := by decide +kernel
theorem dX1_lettersBy_29 : decode cX1_lettersBy 29 = .ok (.ifCond .eq 13, 3) := by decide +kernel
theorem dX1_lettersBy_32 : decode cX1_lettersBy 32 = .ok (.aload_n 0, 1) := by decide +kernel
theorem dX1_lettersBy_33 : decode cX1_lettersBy 33 = .ok (.aload_n 0, 1) := by decide +kernel
theorem dX1_lettersBy_34 : decode cX1_lettersBy 34 = .ok (.getfield 26, 3) := by decide +kernel
theorem dX1_lettersBy_37 : decode cX1_lettersBy 37 = .ok (.iload_n 1, 1) := by decide +kernel
theorem dX1_lettersBy_38 : decode cX1_lettersBy 38 = .ok (.laload, 1) := by decide +kernel
theorem dX1_lettersBy_39 : decode cX1_lettersBy 39 = .ok (.invokevirtual 60, 3) := by decide +kernel
theorem dX1_lettersBy_42 : decode cX1_lettersBy 42 = .ok (.iconst 0, 1) := by decide +kernel
theorem dX1_lettersBy_43 : decode cX1_lettersBy 43 = .ok (.istore 5, 2) := by decide +kernel
theorem dX1_lettersBy_45 : decode cX1_lettersBy 45 = .ok (.iload 4, 2) := by decide +kernel
theorem dX1_lettersBy_47 : decode cX1_lettersBy 47 = .ok (.ifCond .eq 42, 3) := by decide +kernel
theorem dX1_lettersBy_50 : decode cX1_lettersBy 50 = .ok (.iload 5, 2) := by decide +kernel
theorem dX1_lettersBy_52 : decode cX1_lettersBy 52 = .ok (.aload_n 0, 1) := by decide +kernel
theorem dX1_lettersBy_53 : decode cX1_lettersBy 53 = .ok (.getfield 49, 3) := by decide +kernel
theorem dX1_lettersBy_56 : decode cX1_lettersBy 56 = .ok (.if_icmp .ge 33, 3) := by decide +kernel
theorem dX1_lettersBy_59 : decode cX1_lettersBy 59 = .ok (.iload_n 3, 1) := by decide +kernel
theorem dX1_lettersBy_60 : decode cX1_lettersBy 60 = .ok (.aload_n 0, 1) := by decide +kernel
theorem dX1_lettersBy_61 : decode cX1_lettersBy 61 = .ok (.getfield 7, 3) := by decide +kernel
theorem dX1_lettersBy_64 : decode cX1_lettersBy 64 = .ok (.aload_n 0, 1) := by decide +kernel
theorem dX1_lettersBy_65 : decode cX1_lettersBy 65 = .ok (.getfield 29, 3) := by decide +kernel
theorem dX1_lettersBy_68 : decode cX1_lettersBy 68 = .ok (.iload 5, 2) := by decide +kernel
theorem dX1_lettersBy_70 : decode cX1_lettersBy 70 = .ok (.iaload, 1) := by decide +kernel
theorem dX1_lettersBy_71 : decode cX1_lettersBy 71 = .ok (.iaload, 1) := by decide +kernel
theorem dX1_lettersBy_72 : decode cX1_lettersBy 72 = .ok (.iload_n 2, 1) := by decide +kernel
theorem dX1_lettersBy_73 : decode cX1_lettersBy 73 = .ok (.if_icmp .ne 7, 3) := by decide +kernel
theorem dX1_lettersBy_76 : decode cX1_lettersBy 76 = .ok (.iconst 1, 1) := by decide +kernel
theorem dX1_lettersBy_77 : decode cX1_lettersBy 77 = .ok (.goto 4, 3) := by decide +kernel
theorem dX1_lettersBy_80 : decode cX1_lettersBy 80 = .ok (.iconst 0, 1) := by decide +kernel
theorem dX1_lettersBy_81 : decode cX1_lettersBy 81 = .ok (.iadd, 1) := by decide +kernel
theorem dX1_lettersBy_82 : decode cX1_lettersBy 82 = .ok (.istore_n 3, 1) := by decide +kernel
theorem dX1_lettersBy_83 : decode cX1_lettersBy 83 = .ok (.iinc 5 1, 3) := by decide +kernel
theorem dX1_lettersBy_86 : decode cX1_lettersBy 86 = .ok (.goto (-41), 3) := by decide +kernel
theorem dX1_lettersBy_89 : decode cX1_lettersBy 89 = .ok (.iload_n 3, 1) := by decide +kernel
theorem dX1_lettersBy_90 : decode cX1_lettersBy 90 = .ok (.ireturn, 1) := by decide +kernel
set_option maxRecDepth 20000 in
theorem ggX1_authorOf_X1_isEvent : GoodIn wsX1_authorOf wsX1_isEvent := goodIn_r _ [6, 7, 8, 9, 5, 10, 16, 17, 18, 19, 20, 21, 22, 23, 24, 25] (by decide +kernel) (by decide +kernel)
set_option maxRecDepth 20000 in
theorem gX1_authorOf_X1_isEvent : GoodIn wsX1_authorOf (wsV RX1 89 RX1 yX1_isEvent wsX1_isEvent) := goodIn_app (goodIn_of _ (by decide +kernel)) ggX1_authorOf_X1_isEvent
set_option maxRecDepth 20000 in
theorem ggX1_authorOf_X1_asked : GoodIn wsX1_authorOf wsX1_asked := goodIn_r _ [14, 15, 16, 17, 18, 19, 20, 21, 22, 23, 24, 25] (by decide +kernel) (by decide +kernel)
set_option maxRecDepth 20000 in
theorem gX1_authorOf_X1_asked : GoodIn wsX1_authorOf (wsV RX1 82 RX1 yX1_asked wsX1_asked) := goodIn_app (goodIn_of _ (by decide +kernel)) ggX1_authorOf_X1_asked
theorem dX1_authorOf_0 : decode cX1_authorOf 0 = .ok (.aload_n 0, 1) := by decide +kernel
theorem dX1_authorOf_1 : decode cX1_authorOf 1 = .ok (.aload_n 0, 1) := by decide +kernel
theorem dX1_authorOf_2 : decode cX1_authorOf 2 = .ok (.iload_n 1, 1) := by decide +kernel
theorem dX1_authorOf_3 : decode cX1_authorOf 3 = .ok (.invokevirtual 89, 3) := by decide +kernel
theorem dX1_authorOf_6 : decode cX1_authorOf 6 = .ok (.invokevirtual 82, 3) := by decide +kernel
theorem dX1_authorOf_9 : decode cX1_authorOf 9 = .ok (.ifCond .eq 12, 3) := by decide +kernel
theorem dX1_authorOf_12 : decode cX1_authorOf 12 = .ok (.aload_n 0, 1) := by decide +kernel
theorem dX1_authorOf_13 : decode cX1_authorOf 13 = .ok (.getfield 7, 3) := by decide +kernel
theorem dX1_authorOf_16 : decode cX1_authorOf 16 = .ok (.iload_n 1, 1) := by decide +kernel
theorem dX1_authorOf_17 : decode cX1_authorOf 17 = .ok (.iaload, 1) := by decide +kernel
theorem dX1_authorOf_18 : decode cX1_authorOf 18 = .ok (.goto 4, 3) := by decide +kernel
theorem dX1_authorOf_21 : decode cX1_authorOf 21 = .ok (.iconst 0, 1) := by decide +kernel
theorem dX1_authorOf_22 : decode cX1_authorOf 22 = .ok (.ireturn, 1) := by decide +kernel
set_option maxRecDepth 20000 in
theorem ggX1_parents_X1_isEvent : GoodIn wsX1_parents wsX1_isEvent := goodIn_r _ [6, 7, 8, 9, 5, 10, 16, 17, 18, 19, 20, 21, 22, 23, 24, 25] (by decide +kernel) (by decide +kernel)
set_option maxRecDepth 20000 in
theorem gX1_parents_X1_isEvent : GoodIn wsX1_parents (wsV RX1 89 RX1 yX1_isEvent wsX1_isEvent) := goodIn_app (goodIn_of _ (by decide +kernel)) ggX1_parents_X1_isEvent
set_option maxRecDepth 20000 in
theorem ggX1_parents_X1_asked : GoodIn wsX1_parents wsX1_asked := goodIn_r _ [14, 15, 16, 17, 18, 19, 20, 21, 22, 23, 24, 25] (by decide +kernel) (by decide +kernel)
set_option maxRecDepth 20000 in
theorem gX1_parents_X1_asked : GoodIn wsX1_parents (wsV RX1 82 RX1 yX1_asked wsX1_asked) := goodIn_app (goodIn_of _ (by decide +kernel)) ggX1_parents_X1_asked
theorem dX1_parents_0 : decode cX1_parents 0 = .ok (.aload_n 0, 1) := by decide +kernel
theorem dX1_parents_1 : decode cX1_parents 1 = .ok (.aload_n 0, 1) := by decide +kernel
theorem dX1_parents_2 : decode cX1_parents 2 = .ok (.iload_n 1, 1) := by decide +kernel
theorem dX1_parents_3 : decode cX1_parents 3 = .ok (.invokevirtual 89, 3) := by decide +kernel
theorem dX1_parents_6 : decode cX1_parents 6 = .ok (.invokevirtual 82, 3) := by decide +kernel
theorem dX1_parents_9 : decode cX1_parents 9 = .ok (.ifCond .eq 12, 3) := by decide +kernel
theorem dX1_parents_12 : decode cX1_parents 12 = .ok (.aload_n 0, 1) := by decide +kernel
theorem dX1_parents_13 : decode cX1_parents 13 = .ok (.getfield 19, 3) := by decide +kernel
theorem dX1_parents_16 : decode cX1_parents 16 = .ok (.iload_n 1, 1) := by decide +kernel
theorem dX1_parents_17 : decode cX1_parents 17 = .ok (.laload, 1) := by decide +kernel
theorem dX1_parents_18 : decode cX1_parents 18 = .ok (.goto 4, 3) := by decide +kernel
theorem dX1_parents_21 : decode cX1_parents 21 = .ok (.lconst 0, 1) := by decide +kernel
theorem dX1_parents_22 : decode cX1_parents 22 = .ok (.lreturn, 1) := by decide +kernel
set_option maxRecDepth 20000 in
theorem ggX1_isLater_X1_isEvent : GoodIn wsX1_isLater wsX1_isEvent := goodIn_r _ [6, 7, 8, 9, 5, 10, 19, 20, 21, 22, 23, 24, 25, 26, 27, 28] (by decide +kernel) (by decide +kernel)
set_option maxRecDepth 20000 in
theorem gX1_isLater_X1_isEvent : GoodIn wsX1_isLater (wsV RX1 89 RX1 yX1_isEvent wsX1_isEvent) := goodIn_app (goodIn_of _ (by decide +kernel)) ggX1_isLater_X1_isEvent
set_option maxRecDepth 20000 in
theorem ggX1_isLater_X1_asked : GoodIn wsX1_isLater wsX1_asked := goodIn_r _ [14, 15, 19, 20, 21, 22, 23, 24, 25, 26, 27, 28] (by decide +kernel) (by decide +kernel)
set_option maxRecDepth 20000 in
theorem gX1_isLater_X1_asked : GoodIn wsX1_isLater (wsV RX1 82 RX1 yX1_asked wsX1_asked) := goodIn_app (goodIn_of _ (by decide +kernel)) ggX1_isLater_X1_asked
set_option maxRecDepth 20000 in
theorem ggX1_isLater_X1_has : GoodIn wsX1_isLater wsX1_has := goodIn_r _ [18] (by decide +kernel) (by decide +kernel)
set_option maxRecDepth 20000 in
theorem gX1_isLater_X1_has : GoodIn wsX1_isLater (va_wsS RX1 43 yX1_has wsX1_has) := goodIn_app (goodIn_of _ (by decide +kernel)) ggX1_isLater_X1_has
theorem dX1_isLater_0 : decode cX1_isLater 0 = .ok (.aload_n 0, 1) := by decide +kernel
theorem dX1_isLater_1 : decode cX1_isLater 1 = .ok (.aload_n 0, 1) := by decide +kernel
theorem dX1_isLater_2 : decode cX1_isLater 2 = .ok (.iload_n 1, 1) := by decide +kernel
theorem dX1_isLater_3 : decode cX1_isLater 3 = .ok (.invokevirtual 89, 3) := by decide +kernel
theorem dX1_isLater_6 : decode cX1_isLater 6 = .ok (.ifCond .eq 15, 3) := by decide +kernel
theorem dX1_isLater_9 : decode cX1_isLater 9 = .ok (.aload_n 0, 1) := by decide +kernel
theorem dX1_isLater_10 : decode cX1_isLater 10 = .ok (.iload_n 2, 1) := by decide +kernel
theorem dX1_isLater_11 : decode cX1_isLater 11 = .ok (.invokevirtual 89, 3) := by decide +kernel
theorem dX1_isLater_14 : decode cX1_isLater 14 = .ok (.ifCond .eq 7, 3) := by decide +kernel
theorem dX1_isLater_17 : decode cX1_isLater 17 = .ok (.iconst 1, 1) := by decide +kernel
theorem dX1_isLater_18 : decode cX1_isLater 18 = .ok (.goto 4, 3) := by decide +kernel
theorem dX1_isLater_21 : decode cX1_isLater 21 = .ok (.iconst 0, 1) := by decide +kernel
theorem dX1_isLater_22 : decode cX1_isLater 22 = .ok (.invokevirtual 82, 3) := by decide +kernel
theorem dX1_isLater_25 : decode cX1_isLater 25 = .ok (.ifCond .eq 20, 3) := by decide +kernel
theorem dX1_isLater_28 : decode cX1_isLater 28 = .ok (.aload_n 0, 1) := by decide +kernel
theorem dX1_isLater_29 : decode cX1_isLater 29 = .ok (.getfield 23, 3) := by decide +kernel
theorem dX1_isLater_32 : decode cX1_isLater 32 = .ok (.iload_n 1, 1) := by decide +kernel
theorem dX1_isLater_33 : decode cX1_isLater 33 = .ok (.laload, 1) := by decide +kernel
theorem dX1_isLater_34 : decode cX1_isLater 34 = .ok (.iload_n 2, 1) := by decide +kernel
theorem dX1_isLater_35 : decode cX1_isLater 35 = .ok (.invokestatic 43, 3) := by decide +kernel
theorem dX1_isLater_38 : decode cX1_isLater 38 = .ok (.ifCond .eq 7, 3) := by decide +kernel
theorem dX1_isLater_41 : decode cX1_isLater 41 = .ok (.iconst 1, 1) := by decide +kernel
theorem dX1_isLater_42 : decode cX1_isLater 42 = .ok (.goto 4, 3) := by decide +kernel
theorem dX1_isLater_45 : decode cX1_isLater 45 = .ok (.iconst 0, 1) := by decide +kernel
theorem dX1_isLater_46 : decode cX1_isLater 46 = .ok (.ireturn, 1) := by decide +kernel
set_option maxRecDepth 20000 in
theorem ggX1_version_X1_isAuthor : GoodIn wsX1_version wsX1_isAuthor := goodIn_r _ [5, 6, 7, 4, 8] (by decide +kernel) (by decide +kernel)
set_option maxRecDepth 20000 in
theorem gX1_version_X1_isAuthor : GoodIn wsX1_version (va_wsS RX1 56 yX1_isAuthor wsX1_isAuthor) := goodIn_app (goodIn_of _ (by decide +kernel)) ggX1_version_X1_isAuthor
set_option maxRecDepth 20000 in
theorem ggX1_version_X1_asked : GoodIn wsX1_version wsX1_asked := goodIn_r _ [12, 13, 14, 15, 16, 17, 18, 19, 20, 21, 22, 23] (by decide +kernel) (by decide +kernel)
set_option maxRecDepth 20000 in
theorem gX1_version_X1_asked : GoodIn wsX1_version (wsV RX1 82 RX1 yX1_asked wsX1_asked) := goodIn_app (goodIn_of _ (by decide +kernel)) ggX1_version_X1_asked
theorem dX1_version_0 : decode cX1_version 0 = .ok (.aload_n 0, 1) := by decide +kernel
theorem dX1_version_1 : decode cX1_version 1 = .ok (.iload_n 1, 1) := by decide +kernel
theorem dX1_version_2 : decode cX1_version 2 = .ok (.invokestatic 56, 3) := by decide +kernel
theorem dX1_version_5 : decode cX1_version 5 = .ok (.invokevirtual 82, 3) := by decide +kernel
theorem dX1_version_8 : decode cX1_version 8 = .ok (.ifCond .eq 12, 3) := by decide +kernel
theorem dX1_version_11 : decode cX1_version 11 = .ok (.aload_n 0, 1) := by decide +kernel
theorem dX1_version_12 : decode cX1_version 12 = .ok (.getfield 26, 3) := by decide +kernel
theorem dX1_version_15 : decode cX1_version 15 = .ok (.iload_n 1, 1) := by decide +kernel
theorem dX1_version_16 : decode cX1_version 16 = .ok (.laload, 1) := by decide +kernel
theorem dX1_version_17 : decode cX1_version 17 = .ok (.goto 4, 3) := by decide +kernel
theorem dX1_version_20 : decode cX1_version 20 = .ok (.lconst 0, 1) := by decide +kernel
theorem dX1_version_21 : decode cX1_version 21 = .ok (.lreturn, 1) := by decide +kernel
set_option maxRecDepth 20000 in
theorem ggX1_heads_X1_isAuthor : GoodIn wsX1_heads wsX1_isAuthor := goodIn_r _ [5, 6, 7, 4, 8] (by decide +kernel) (by decide +kernel)
set_option maxRecDepth 20000 in
theorem gX1_heads_X1_isAuthor : GoodIn wsX1_heads (va_wsS RX1 56 yX1_isAuthor wsX1_isAuthor) := goodIn_app (goodIn_of _ (by decide +kernel)) ggX1_heads_X1_isAuthor
set_option maxRecDepth 20000 in
theorem ggX1_heads_X1_asked : GoodIn wsX1_heads wsX1_asked := goodIn_r _ [12, 13, 24, 25, 26, 27, 28, 29, 30, 31, 32, 33] (by decide +kernel) (by decide +kernel)
set_option maxRecDepth 20000 in
theorem gX1_heads_X1_asked : GoodIn wsX1_heads (wsV RX1 82 RX1 yX1_asked wsX1_asked) := goodIn_app (goodIn_of _ (by decide +kernel)) ggX1_heads_X1_asked
set_option maxRecDepth 20000 in
theorem ggX1_heads_X1_headsOf : GoodIn wsX1_heads wsX1_headsOf := goodIn_r _ [17, 18, 19, 20, 21, 22, 4, 23, 24, 25, 26, 27, 28, 29, 30, 31, 32, 33] (by decide +kernel) (by decide +kernel)
set_option maxRecDepth 20000 in
theorem gX1_heads_X1_headsOf : GoodIn wsX1_heads (wsV RX1 52 RX1 yX1_headsOf wsX1_headsOf) := goodIn_app (goodIn_of _ (by decide +kernel)) ggX1_heads_X1_headsOf
theorem dX1_heads_0 : decode cX1_heads 0 = .ok (.aload_n 0, 1) := by decide +kernel
theorem dX1_heads_1 : decode cX1_heads 1 = .ok (.iload_n 1, 1) := by decide +kernel
theorem dX1_heads_2 : decode cX1_heads 2 = .ok (.invokestatic 56, 3) := by decide +kernel
theorem dX1_heads_5 : decode cX1_heads 5 = .ok (.invokevirtual 82, 3) := by decide +kernel
theorem dX1_heads_8 : decode cX1_heads 8 = .ok (.ifCond .eq 16, 3) := by decide +kernel
theorem dX1_heads_11 : decode cX1_heads 11 = .ok (.aload_n 0, 1) := by decide +kernel
theorem dX1_heads_12 : decode cX1_heads 12 = .ok (.aload_n 0, 1) := by decide +kernel
theorem dX1_heads_13 : decode cX1_heads 13 = .ok (.getfield 26, 3) := by decide +kernel
theorem dX1_heads_16 : decode cX1_heads 16 = .ok (.iload_n 1, 1) := by decide +kernel
theorem dX1_heads_17 : decode cX1_heads 17 = .ok (.laload, 1) := by decide +kernel
theorem dX1_heads_18 : decode cX1_heads 18 = .ok (.invokevirtual 52, 3) := by decide +kernel
theorem dX1_heads_21 : decode cX1_heads 21 = .ok (.goto 4, 3) := by decide +kernel
theorem dX1_heads_24 : decode cX1_heads 24 = .ok (.lconst 0, 1) := by decide +kernel
theorem dX1_heads_25 : decode cX1_heads 25 = .ok (.lreturn, 1) := by decide +kernel
set_option maxRecDepth 20000 in
theorem ggX1_commonHeads_X1_isAuthor : GoodIn wsX1_commonHeads wsX1_isAuthor := goodIn_r _ [5, 6, 7, 4, 8] (by decide +kernel) (by decide +kernel)
set_option maxRecDepth 20000 in
theorem gX1_commonHeads_X1_isAuthor : GoodIn wsX1_commonHeads (va_wsS RX1 56 yX1_isAuthor wsX1_isAuthor) := goodIn_app (goodIn_of _ (by decide +kernel)) ggX1_commonHeads_X1_isAuthor
set_option maxRecDepth 20000 in
theorem ggX1_commonHeads_X1_asked : GoodIn wsX1_commonHeads wsX1_asked := goodIn_r _ [12, 13, 24, 25, 26, 27, 28, 29, 30, 31, 32, 33] (by decide +kernel) (by decide +kernel)
set_option maxRecDepth 20000 in
theorem gX1_commonHeads_X1_asked : GoodIn wsX1_commonHeads (wsV RX1 82 RX1 yX1_asked wsX1_asked) := goodIn_app (goodIn_of _ (by decide +kernel)) ggX1_commonHeads_X1_asked
set_option maxRecDepth 20000 in
theorem ggX1_commonHeads_X1_headsOf : GoodIn wsX1_commonHeads wsX1_headsOf := goodIn_r _ [17, 18, 19, 20, 21, 22, 4, 23, 24, 25, 26, 27, 28, 29, 30, 31, 32, 33] (by decide +kernel) (by decide +kernel)
set_option maxRecDepth 20000 in
theorem gX1_commonHeads_X1_headsOf : GoodIn wsX1_commonHeads (wsV RX1 52 RX1 yX1_headsOf wsX1_headsOf) := goodIn_app (goodIn_of _ (by decide +kernel)) ggX1_commonHeads_X1_headsOf
theorem dX1_commonHeads_0 : decode cX1_commonHeads 0 = .ok (.aload_n 0, 1) := by decide +kernel
theorem dX1_commonHeads_1 : decode cX1_commonHeads 1 = .ok (.iload_n 1, 1) := by decide +kernel
theorem dX1_commonHeads_2 : decode cX1_commonHeads 2 = .ok (.invokestatic 56, 3) := by decide +kernel
theorem dX1_commonHeads_5 : decode cX1_commonHeads 5 = .ok (.ifCond .eq 14, 3) := by decide +kernel
theorem dX1_commonHeads_8 : decode cX1_commonHeads 8 = .ok (.iload_n 2, 1) := by decide +kernel
theorem dX1_commonHeads_9 : decode cX1_commonHeads 9 = .ok (.invokestatic 56, 3) := by decide +kernel
theorem dX1_commonHeads_12 : decode cX1_commonHeads 12 = .ok (.ifCond .eq 7, 3) := by decide +kernel
theorem dX1_commonHeads_15 : decode cX1_commonHeads 15 = .ok (.iconst 1, 1) := by decide +kernel
theorem dX1_commonHeads_16 : decode cX1_commonHeads 16 = .ok (.goto 4, 3) := by decide +kernel
theorem dX1_commonHeads_19 : decode cX1_commonHeads 19 = .ok (.iconst 0, 1) := by decide +kernel
theorem dX1_commonHeads_20 : decode cX1_commonHeads 20 = .ok (.invokevirtual 82, 3) := by decide +kernel
theorem dX1_commonHeads_23 : decode cX1_commonHeads 23 = .ok (.ifCond .eq 23, 3) := by decide +kernel
theorem dX1_commonHeads_26 : decode cX1_commonHeads 26 = .ok (.aload_n 0, 1) := by decide +kernel
theorem dX1_commonHeads_27 : decode cX1_commonHeads 27 = .ok (.aload_n 0, 1) := by decide +kernel
theorem dX1_commonHeads_28 : decode cX1_commonHeads 28 = .ok (.getfield 26, 3) := by decide +kernel
theorem dX1_commonHeads_31 : decode cX1_commonHeads 31 = .ok (.iload_n 1, 1) := by decide +kernel
theorem dX1_commonHeads_32 : decode cX1_commonHeads 32 = .ok (.laload, 1) := by decide +kernel
theorem dX1_commonHeads_33 : decode cX1_commonHeads 33 = .ok (.aload_n 0, 1) := by decide +kernel
theorem dX1_commonHeads_34 : decode cX1_commonHeads 34 = .ok (.getfield 26, 3) := by decide +kernel
theorem dX1_commonHeads_37 : decode cX1_commonHeads 37 = .ok (.iload_n 2, 1) := by decide +kernel
theorem dX1_commonHeads_38 : decode cX1_commonHeads 38 = .ok (.laload, 1) := by decide +kernel
theorem dX1_commonHeads_39 : decode cX1_commonHeads 39 = .ok (.land, 1) := by decide +kernel
theorem dX1_commonHeads_40 : decode cX1_commonHeads 40 = .ok (.invokevirtual 52, 3) := by decide +kernel
theorem dX1_commonHeads_43 : decode cX1_commonHeads 43 = .ok (.goto 4, 3) := by decide +kernel
theorem dX1_commonHeads_46 : decode cX1_commonHeads 46 = .ok (.lconst 0, 1) := by decide +kernel
theorem dX1_commonHeads_47 : decode cX1_commonHeads 47 = .ok (.lreturn, 1) := by decide +kernel
set_option maxRecDepth 20000 in
theorem ggX1_areConcurrent_X1_has : GoodIn wsX1_areConcurrent wsX1_has := goodIn_r _ [5] (by decide +kernel) (by decide +kernel)
set_option maxRecDepth 20000 in
theorem gX1_areConcurrent_X1_has : GoodIn wsX1_areConcurrent (va_wsS RX1 43 yX1_has wsX1_has) := goodIn_app (goodIn_of _ (by decide +kernel)) ggX1_areConcurrent_X1_has
theorem dX1_areConcurrent_0 : decode cX1_areConcurrent 0 = .ok (.iload_n 1, 1) := by decide +kernel
theorem dX1_areConcurrent_1 : decode cX1_areConcurrent 1 = .ok (.iload_n 2, 1) := by decide +kernel
theorem dX1_areConcurrent_2 : decode cX1_areConcurrent 2 = .ok (.if_icmp .eq 33, 3) := by decide +kernel
theorem dX1_areConcurrent_5 : decode cX1_areConcurrent 5 = .ok (.aload_n 0, 1) := by decide +kernel
theorem dX1_areConcurrent_6 : decode cX1_areConcurrent 6 = .ok (.getfield 23, 3) := by decide +kernel
theorem dX1_areConcurrent_9 : decode cX1_areConcurrent 9 = .ok (.iload_n 1, 1) := by decide +kernel
theorem dX1_areConcurrent_10 : decode cX1_areConcurrent 10 = .ok (.laload, 1) := by decide +kernel
theorem dX1_areConcurrent_11 : decode cX1_areConcurrent 11 = .ok (.iload_n 2, 1) := by decide +kernel
theorem dX1_areConcurrent_12 : decode cX1_areConcurrent 12 = .ok (.invokestatic 43, 3) := by decide +kernel
theorem dX1_areConcurrent_15 : decode cX1_areConcurrent 15 = .ok (.ifCond .ne 20, 3) := by decide +kernel
theorem dX1_areConcurrent_18 : decode cX1_areConcurrent 18 = .ok (.aload_n 0, 1) := by decide +kernel
theorem dX1_areConcurrent_19 : decode cX1_areConcurrent 19 = .ok (.getfield 23, 3) := by decide +kernel
theorem dX1_areConcurrent_22 : decode cX1_areConcurrent 22 = .ok (.iload_n 2, 1) := by decide +kernel
theorem dX1_areConcurrent_23 : decode cX1_areConcurrent 23 = .ok (.laload, 1) := by decide +kernel
theorem dX1_areConcurrent_24 : decode cX1_areConcurrent 24 = .ok (.iload_n 1, 1) := by decide +kernel
theorem dX1_areConcurrent_25 : decode cX1_areConcurrent 25 = .ok (.invokestatic 43, 3) := by decide +kernel
theorem dX1_areConcurrent_28 : decode cX1_areConcurrent 28 = .ok (.ifCond .ne 7, 3) := by decide +kernel
theorem dX1_areConcurrent_31 : decode cX1_areConcurrent 31 = .ok (.iconst 1, 1) := by decide +kernel
theorem dX1_areConcurrent_32 : decode cX1_areConcurrent 32 = .ok (.goto 4, 3) := by decide +kernel
theorem dX1_areConcurrent_35 : decode cX1_areConcurrent 35 = .ok (.iconst 0, 1) := by decide +kernel
theorem dX1_areConcurrent_36 : decode cX1_areConcurrent 36 = .ok (.ireturn, 1) := by decide +kernel
set_option maxRecDepth 20000 in
theorem ggX1_concurrent_X1_isAuthor : GoodIn wsX1_concurrent wsX1_isAuthor := goodIn_r _ [6, 7, 8, 5, 9] (by decide +kernel) (by decide +kernel)
set_option maxRecDepth 20000 in
theorem gX1_concurrent_X1_isAuthor : GoodIn wsX1_concurrent (va_wsS RX1 56 yX1_isAuthor wsX1_isAuthor) := goodIn_app (goodIn_of _ (by decide +kernel)) ggX1_concurrent_X1_isAuthor
set_option maxRecDepth 20000 in
theorem ggX1_concurrent_X1_asked : GoodIn wsX1_concurrent wsX1_asked := goodIn_r _ [13, 14, 23, 24, 25, 26, 27, 28, 29, 30, 31, 32] (by decide +kernel) (by decide +kernel)
set_option maxRecDepth 20000 in
theorem gX1_concurrent_X1_asked : GoodIn wsX1_concurrent (wsV RX1 82 RX1 yX1_asked wsX1_asked) := goodIn_app (goodIn_of _ (by decide +kernel)) ggX1_concurrent_X1_asked
set_option maxRecDepth 20000 in
theorem ggX1_concurrent_X1_has : GoodIn wsX1_concurrent wsX1_has := goodIn_r _ [17] (by decide +kernel) (by decide +kernel)
set_option maxRecDepth 20000 in
theorem gX1_concurrent_X1_has : GoodIn wsX1_concurrent (va_wsS RX1 43 yX1_has wsX1_has) := goodIn_app (goodIn_of _ (by decide +kernel)) ggX1_concurrent_X1_has
set_option maxRecDepth 20000 in
theorem ggX1_concurrent_X1_areConcurrent : GoodIn wsX1_concurrent wsX1_areConcurrent := goodIn_r _ [21, 22, 15, 16, 5, 17, 23, 24, 25, 26, 27, 28, 29, 30, 31, 32] (by decide +kernel) (by decide +kernel)
set_option maxRecDepth 20000 in
theorem gX1_concurrent_X1_areConcurrent : GoodIn wsX1_concurrent (wsV RX1 103 RX1 yX1_areConcurrent wsX1_areConcurrent) := goodIn_app (goodIn_of _ (by decide +kernel)) ggX1_concurrent_X1_areConcurrent
theorem dX1_concurrent_0 : decode cX1_concurrent 0 = .ok (.iconst 0, 1) := by decide +kernel
theorem dX1_concurrent_1 : decode cX1_concurrent 1 = .ok (.istore_n 2, 1) := by decide +kernel
theorem dX1_concurrent_2 : decode cX1_concurrent 2 = .ok (.aload_n 0, 1) := by decide +kernel
theorem dX1_concurrent_3 : decode cX1_concurrent 3 = .ok (.iload_n 1, 1) := by decide +kernel
theorem dX1_concurrent_4 : decode cX1_concurrent 4 = .ok (.invokestatic 56, 3) := by decide +kernel
theorem dX1_concurrent_7 : decode cX1_concurrent 7 = .ok (.invokevirtual 82, 3) := by decide +kernel
theorem dX1_concurrent_10 : decode cX1_concurrent 10 = .ok (.istore_n 3, 1) := by decide +kernel
theorem dX1_concurrent_11 : decode cX1_concurrent 11 = .ok (.iconst 0, 1) := by decide +kernel
theorem dX1_concurrent_12 : decode cX1_concurrent 12 = .ok (.istore 4, 2) := by decide +kernel
theorem dX1_concurrent_14 : decode cX1_concurrent 14 = .ok (.iload_n 3, 1) := by decide +kernel
theorem dX1_concurrent_15 : decode cX1_concurrent 15 = .ok (.ifCond .eq 81, 3) := by decide +kernel
theorem dX1_concurrent_18 : decode cX1_concurrent 18 = .ok (.iload 4, 2) := by decide +kernel
theorem dX1_concurrent_20 : decode cX1_concurrent 20 = .ok (.aload_n 0, 1) := by decide +kernel
theorem dX1_concurrent_21 : decode cX1_concurrent 21 = .ok (.getfield 40, 3) := by decide +kernel
theorem dX1_concurrent_24 : decode cX1_concurrent 24 = .ok (.if_icmp .ge 72, 3) := by decide +kernel
theorem dX1_concurrent_27 : decode cX1_concurrent 27 = .ok (.iconst 0, 1) := by decide +kernel
theorem dX1_concurrent_28 : decode cX1_concurrent 28 = .ok (.istore 5, 2) := by decide +kernel
theorem dX1_concurrent_30 : decode cX1_concurrent 30 = .ok (.iload 5, 2) := by decide +kernel
theorem dX1_concurrent_32 : decode cX1_concurrent 32 = .ok (.iload 4, 2) := by decide +kernel
theorem dX1_concurrent_34 : decode cX1_concurrent 34 = .ok (.if_icmp .ge 56, 3) := by decide +kernel
theorem dX1_concurrent_37 : decode cX1_concurrent 37 = .ok (.iload_n 2, 1) := by decide +kernel
theorem dX1_concurrent_38 : decode cX1_concurrent 38 = .ok (.aload_n 0, 1) := by decide +kernel
theorem dX1_concurrent_39 : decode cX1_concurrent 39 = .ok (.getfield 26, 3) := by decide +kernel
theorem dX1_concurrent_42 : decode cX1_concurrent 42 = .ok (.iload_n 1, 1) := by decide +kernel
theorem dX1_concurrent_43 : decode cX1_concurrent 43 = .ok (.laload, 1) := by decide +kernel
theorem dX1_concurrent_44 : decode cX1_concurrent 44 = .ok (.iload 4, 2) := by decide +kernel
theorem dX1_concurrent_46 : decode cX1_concurrent 46 = .ok (.invokestatic 43, 3) := by decide +kernel
theorem dX1_concurrent_49 : decode cX1_concurrent 49 = .ok (.ifCond .eq 32, 3) := by decide +kernel
theorem dX1_concurrent_52 : decode cX1_concurrent 52 = .ok (.aload_n 0, 1) := by decide +kernel
theorem dX1_concurrent_53 : decode cX1_concurrent 53 = .ok (.getfield 26, 3) := by decide +kernel
theorem dX1_concurrent_56 : decode cX1_concurrent 56 = .ok (.iload_n 1, 1) := by decide +kernel
theorem dX1_concurrent_57 : decode cX1_concurrent 57 = .ok (.laload, 1) := by decide +kernel
theorem dX1_concurrent_58 : decode cX1_concurrent 58 = .ok (.iload 5, 2) := by decide +kernel
theorem dX1_concurrent_60 : decode cX1_concurrent 60 = .ok (.invokestatic 43, 3) := by decide +kernel
theorem dX1_concurrent_63 : decode cX1_concurrent 63 = .ok (.ifCond .eq 18, 3) := by decide +kernel
theorem dX1_concurrent_66 : decode cX1_concurrent 66 = .ok (.aload_n 0, 1) := by decide +kernel
theorem dX1_concurrent_67 : decode cX1_concurrent 67 = .ok (.iload 5, 2) := by decide +kernel
theorem dX1_concurrent_69 : decode cX1_concurrent 69 = .ok (.iload 4, 2) := by decide +kernel
theorem dX1_concurrent_71 : decode cX1_concurrent 71 = .ok (.invokevirtual 103, 3) := by decide +kernel
theorem dX1_concurrent_74 : decode cX1_concurrent 74 = .ok (.ifCond .eq 7, 3) := by decide +kernel
theorem dX1_concurrent_77 : decode cX1_concurrent 77 = .ok (.iconst 1, 1) := by decide +kernel
theorem dX1_concurrent_78 : decode cX1_concurrent 78 = .ok (.goto 4, 3) := by decide +kernel
theorem dX1_concurrent_81 : decode cX1_concurrent 81 = .ok (.iconst 0, 1) := by decide +kernel
theorem dX1_concurrent_82 : decode cX1_concurrent 82 = .ok (.iadd, 1) := by decide +kernel
theorem dX1_concurrent_83 : decode cX1_concurrent 83 = .ok (.istore_n 2, 1) := by decide +kernel
theorem dX1_concurrent_84 : decode cX1_concurrent 84 = .ok (.iinc 5 1, 3) := by decide +kernel
theorem dX1_concurrent_87 : decode cX1_concurrent 87 = .ok (.goto (-57), 3) := by decide +kernel
theorem dX1_concurrent_90 : decode cX1_concurrent 90 = .ok (.iinc 4 1, 3) := by decide +kernel
theorem dX1_concurrent_93 : decode cX1_concurrent 93 = .ok (.goto (-79), 3) := by decide +kernel
theorem dX1_concurrent_96 : decode cX1_concurrent 96 = .ok (.iload_n 2, 1) := by decide +kernel
theorem dX1_concurrent_97 : decode cX1_concurrent 97 = .ok (.ireturn, 1) := by decide +kernel
set_option maxRecDepth 20000 in
theorem ggX1_criticals_X1_has : GoodIn wsX1_criticals wsX1_has := goodIn_r _ [6] (by decide +kernel) (by decide +kernel)
set_option maxRecDepth 20000 in
theorem gX1_criticals_X1_has : GoodIn wsX1_criticals (va_wsS RX1 43 yX1_has wsX1_has) := goodIn_app (goodIn_of _ (by decide +kernel)) ggX1_criticals_X1_has
set_option maxRecDepth 20000 in
theorem ggX1_criticals_X1_areConcurrent : GoodIn wsX1_criticals wsX1_areConcurrent := goodIn_r _ [10, 11, 3, 4, 5, 6, 12, 13, 14, 15, 16, 17, 18, 19, 20, 21] (by decide +kernel) (by decide +kernel)
set_option maxRecDepth 20000 in
theorem gX1_criticals_X1_areConcurrent : GoodIn wsX1_criticals (wsV RX1 103 RX1 yX1_areConcurrent wsX1_areConcurrent) := goodIn_app (goodIn_of _ (by decide +kernel)) ggX1_criticals_X1_areConcurrent
theorem dX1_criticals_0 : decode cX1_criticals 0 = .ok (.lconst 0, 1) := by decide +kernel
theorem dX1_criticals_1 : decode cX1_criticals 1 = .ok (.lstore_n 2, 1) := by decide +kernel
theorem dX1_criticals_2 : decode cX1_criticals 2 = .ok (.iconst 0, 1) := by decide +kernel
theorem dX1_criticals_3 : decode cX1_criticals 3 = .ok (.istore 4, 2) := by decide +kernel
theorem dX1_criticals_5 : decode cX1_criticals 5 = .ok (.iload 4, 2) := by decide +kernel
theorem dX1_criticals_7 : decode cX1_criticals 7 = .ok (.aload_n 0, 1) := by decide +kernel
theorem dX1_criticals_8 : decode cX1_criticals 8 = .ok (.getfield 40, 3) := by decide +kernel
theorem dX1_criticals_11 : decode cX1_criticals 11 = .ok (.if_icmp .ge 93, 3) := by decide +kernel
theorem dX1_criticals_14 : decode cX1_criticals 14 = .ok (.aload_n 0, 1) := by decide +kernel
theorem dX1_criticals_15 : decode cX1_criticals 15 = .ok (.getfield 26, 3) := by decide +kernel
theorem dX1_criticals_18 : decode cX1_criticals 18 = .ok (.iload_n 1, 1) := by decide +kernel
theorem dX1_criticals_19 : decode cX1_criticals 19 = .ok (.laload, 1) := by decide +kernel
theorem dX1_criticals_20 : decode cX1_criticals 20 = .ok (.iload 4, 2) := by decide +kernel
theorem dX1_criticals_22 : decode cX1_criticals 22 = .ok (.invokestatic 43, 3) := by decide +kernel
theorem dX1_criticals_25 : decode cX1_criticals 25 = .ok (.istore 5, 2) := by decide +kernel
theorem dX1_criticals_27 : decode cX1_criticals 27 = .ok (.iconst 0, 1) := by decide +kernel
theorem dX1_criticals_28 : decode cX1_criticals 28 = .ok (.istore 6, 2) := by decide +kernel
theorem dX1_criticals_30 : decode cX1_criticals 30 = .ok (.iload 6, 2) := by decide +kernel
theorem dX1_criticals_32 : decode cX1_criticals 32 = .ok (.aload_n 0, 1) := by decide +kernel
theorem dX1_criticals_33 : decode cX1_criticals 33 = .ok (.getfield 40, 3) := by decide +kernel
theorem dX1_criticals_36 : decode cX1_criticals 36 = .ok (.if_icmp .ge 46, 3) := by decide +kernel
theorem dX1_criticals_39 : decode cX1_criticals 39 = .ok (.iload 5, 2) := by decide +kernel
theorem dX1_criticals_41 : decode cX1_criticals 41 = .ok (.ifCond .eq 41, 3) := by decide +kernel
theorem dX1_criticals_44 : decode cX1_criticals 44 = .ok (.aload_n 0, 1) := by decide +kernel
theorem dX1_criticals_45 : decode cX1_criticals 45 = .ok (.getfield 26, 3) := by decide +kernel
theorem dX1_criticals_48 : decode cX1_criticals 48 = .ok (.iload_n 1, 1) := by decide +kernel
theorem dX1_criticals_49 : decode cX1_criticals 49 = .ok (.laload, 1) := by decide +kernel
theorem dX1_criticals_50 : decode cX1_criticals 50 = .ok (.iload 6, 2) := by decide +kernel
theorem dX1_criticals_52 : decode cX1_criticals 52 = .ok (.invokestatic 43, 3) := by decide +kernel
theorem dX1_criticals_55 : decode cX1_criticals 55 = .ok (.ifCond .eq 14, 3) := by decide +kernel
theorem dX1_criticals_58 : decode cX1_criticals 58 = .ok (.aload_n 0, 1) := by decide +kernel
theorem dX1_criticals_59 : decode cX1_criticals 59 = .ok (.iload 6, 2) := by decide +kernel
theorem dX1_criticals_61 : decode cX1_criticals 61 = .ok (.iload 4, 2) := by decide +kernel
theorem dX1_criticals_63 : decode cX1_criticals 63 = .ok (.invokevirtual 103, 3) := by decide +kernel
theorem dX1_criticals_66 : decode cX1_criticals 66 = .ok (.ifCond .ne 7, 3) := by decide +kernel
theorem dX1_criticals_69 : decode cX1_criticals 69 = .ok (.iconst 1, 1) := by decide +kernel
theorem dX1_criticals_70 : decode cX1_criticals 70 = .ok (.goto 4, 3) := by decide +kernel
theorem dX1_criticals_73 : decode cX1_criticals 73 = .ok (.iconst 0, 1) := by decide +kernel
theorem dX1_criticals_74 : decode cX1_criticals 74 = .ok (.istore 5, 2) := by decide +kernel
theorem dX1_criticals_76 : decode cX1_criticals 76 = .ok (.iinc 6 1, 3) := by decide +kernel
theorem dX1_criticals_79 : decode cX1_criticals 79 = .ok (.goto (-49), 3) := by decide +kernel
theorem dX1_criticals_82 : decode cX1_criticals 82 = .ok (.lload_n 2, 1) := by decide +kernel
theorem dX1_criticals_83 : decode cX1_criticals 83 = .ok (.iload 5, 2) := by decide +kernel
theorem dX1_criticals_85 : decode cX1_criticals 85 = .ok (.ifCond .eq 10, 3) := by decide +kernel
theorem dX1_criticals_88 : decode cX1_criticals 88 = .ok (.lconst 1, 1) := by decide +kernel
theorem dX1_criticals_89 : decode cX1_criticals 89 = .ok (.iload 4, 2) := by decide +kernel
theorem dX1_criticals_91 : decode cX1_criticals 91 = .ok (.lshl, 1) := by decide +kernel
theorem dX1_criticals_92 : decode cX1_criticals 92 = .ok (.goto 4, 3) := by decide +kernel
theorem dX1_criticals_95 : decode cX1_criticals 95 = .ok (.lconst 0, 1) := by decide +kernel
theorem dX1_criticals_96 : decode cX1_criticals 96 = .ok (.lor, 1) := by decide +kernel
theorem dX1_criticals_97 : decode cX1_criticals 97 = .ok (.lstore_n 2, 1) := by decide +kernel
theorem dX1_criticals_98 : decode cX1_criticals 98 = .ok (.iinc 4 1, 3) := by decide +kernel
theorem dX1_criticals_101 : decode cX1_criticals 101 = .ok (.goto (-96), 3) := by decide +kernel
theorem dX1_criticals_104 : decode cX1_criticals 104 = .ok (.lload_n 2, 1) := by decide +kernel
theorem dX1_criticals_105 : decode cX1_criticals 105 = .ok (.lreturn, 1) := by decide +kernel
set_option maxRecDepth 20000 in
theorem ggX1_critical_X1_isAuthor : GoodIn wsX1_critical wsX1_isAuthor := goodIn_r _ [4, 5, 6, 3, 7] (by decide +kernel) (by decide +kernel)
set_option maxRecDepth 20000 in
theorem gX1_critical_X1_isAuthor : GoodIn wsX1_critical (va_wsS RX1 56 yX1_isAuthor wsX1_isAuthor) := goodIn_app (goodIn_of _ (by decide +kernel)) ggX1_critical_X1_isAuthor
set_option maxRecDepth 20000 in
theorem ggX1_critical_X1_asked : GoodIn wsX1_critical wsX1_asked := goodIn_r _ [11, 12, 27, 28, 29, 30, 31, 32, 33, 34, 35, 36] (by decide +kernel) (by decide +kernel)
set_option maxRecDepth 20000 in
theorem gX1_critical_X1_asked : GoodIn wsX1_critical (wsV RX1 82 RX1 yX1_asked wsX1_asked) := goodIn_app (goodIn_of _ (by decide +kernel)) ggX1_critical_X1_asked
set_option maxRecDepth 20000 in
theorem ggX1_critical_X1_criticals : GoodIn wsX1_critical wsX1_criticals := goodIn_r _ [16, 17, 18, 19, 20, 3, 21, 22, 23, 24, 25, 26, 27, 28, 29, 30, 31, 32, 33, 34, 35, 36] (by decide +kernel) (by decide +kernel)
set_option maxRecDepth 20000 in
theorem gX1_critical_X1_criticals : GoodIn wsX1_critical (wsV RX1 107 RX1 yX1_criticals wsX1_criticals) := goodIn_app (goodIn_of _ (by decide +kernel)) ggX1_critical_X1_criticals
theorem dX1_critical_0 : decode cX1_critical 0 = .ok (.aload_n 0, 1) := by decide +kernel
theorem dX1_critical_1 : decode cX1_critical 1 = .ok (.iload_n 1, 1) := by decide +kernel
theorem dX1_critical_2 : decode cX1_critical 2 = .ok (.invokestatic 56, 3) := by decide +kernel
theorem dX1_critical_5 : decode cX1_critical 5 = .ok (.invokevirtual 82, 3) := by decide +kernel
theorem dX1_critical_8 : decode cX1_critical 8 = .ok (.ifCond .eq 11, 3) := by decide +kernel
theorem dX1_critical_11 : decode cX1_critical 11 = .ok (.aload_n 0, 1) := by decide +kernel
theorem dX1_critical_12 : decode cX1_critical 12 = .ok (.iload_n 1, 1) := by decide +kernel
theorem dX1_critical_13 : decode cX1_critical 13 = .ok (.invokevirtual 107, 3) := by decide +kernel
theorem dX1_critical_16 : decode cX1_critical 16 = .ok (.goto 4, 3) := by decide +kernel
theorem dX1_critical_19 : decode cX1_critical 19 = .ok (.lconst 0, 1) := by decide +kernel
theorem dX1_critical_20 : decode cX1_critical 20 = .ok (.lreturn, 1) := by decide +kernel
set_option maxRecDepth 20000 in
theorem ggX1_toReplay_X1_isAuthor : GoodIn wsX1_toReplay wsX1_isAuthor := goodIn_r _ [7, 8, 9, 6, 10] (by decide +kernel) (by decide +kernel)
set_option maxRecDepth 20000 in
theorem gX1_toReplay_X1_isAuthor : GoodIn wsX1_toReplay (va_wsS RX1 56 yX1_isAuthor wsX1_isAuthor) := goodIn_app (goodIn_of _ (by decide +kernel)) ggX1_toReplay_X1_isAuthor
set_option maxRecDepth 20000 in
theorem ggX1_toReplay_X1_asked : GoodIn wsX1_toReplay wsX1_asked := goodIn_r _ [14, 15, 36, 37, 38, 39, 40, 41, 42, 43, 44, 45] (by decide +kernel) (by decide +kernel)
set_option maxRecDepth 20000 in
theorem gX1_toReplay_X1_asked : GoodIn wsX1_toReplay (wsV RX1 82 RX1 yX1_asked wsX1_asked) := goodIn_app (goodIn_of _ (by decide +kernel)) ggX1_toReplay_X1_asked
set_option maxRecDepth 20000 in
theorem ggX1_toReplay_X1_criticals : GoodIn wsX1_toReplay wsX1_criticals := goodIn_r _ [19, 1, 2, 20, 21, 6, 22, 23, 24, 25, 26, 27, 36, 37, 38, 39, 40, 41, 42, 43, 44, 45] (by decide +kernel) (by decide +kernel)
set_option maxRecDepth 20000 in
theorem gX1_toReplay_X1_criticals : GoodIn wsX1_toReplay (wsV RX1 107 RX1 yX1_criticals wsX1_criticals) := goodIn_app (goodIn_of _ (by decide +kernel)) ggX1_toReplay_X1_criticals
set_option maxRecDepth 20000 in
theorem ggX1_toReplay_X1_has : GoodIn wsX1_toReplay wsX1_has := goodIn_r _ [22] (by decide +kernel) (by decide +kernel)
set_option maxRecDepth 20000 in
theorem gX1_toReplay_X1_has : GoodIn wsX1_toReplay (va_wsS RX1 43 yX1_has wsX1_has) := goodIn_app (goodIn_of _ (by decide +kernel)) ggX1_toReplay_X1_has
set_option maxRecDepth 20000 in
theorem ggX1_toReplay_X1_versionOf : GoodIn wsX1_toReplay wsX1_versionOf := goodIn_r _ [31, 27, 36, 37, 38, 39, 40, 41, 42, 43, 44, 45] (by decide +kernel) (by decide +kernel)
set_option maxRecDepth 20000 in
theorem gX1_toReplay_X1_versionOf : GoodIn wsX1_toReplay (wsV RX1 92 RX1 yX1_versionOf wsX1_versionOf) := goodIn_app (goodIn_of _ (by decide +kernel)) ggX1_toReplay_X1_versionOf
set_option maxRecDepth 20000 in
theorem ggX1_toReplay_X1_count : GoodIn wsX1_toReplay wsX1_count := goodIn_r _ [35, 1, 20, 21, 6, 22, 36, 37, 38, 39, 40, 41, 42, 43, 44, 45] (by decide +kernel) (by decide +kernel)
set_option maxRecDepth 20000 in
theorem gX1_toReplay_X1_count : GoodIn wsX1_toReplay (wsV RX1 78 RX1 yX1_count wsX1_count) := goodIn_app (goodIn_of _ (by decide +kernel)) ggX1_toReplay_X1_count
theorem dX1_toReplay_0 : decode cX1_toReplay 0 = .ok (.aload_n 0, 1) := by decide +kernel
theorem dX1_toReplay_1 : decode cX1_toReplay 1 = .ok (.iload_n 1, 1) := by decide +kernel
theorem dX1_toReplay_2 : decode cX1_toReplay 2 = .ok (.invokestatic 56, 3) := by decide +kernel
theorem dX1_toReplay_5 : decode cX1_toReplay 5 = .ok (.invokevirtual 82, 3) := by decide +kernel
theorem dX1_toReplay_8 : decode cX1_toReplay 8 = .ok (.ifCond .ne 5, 3) := by decide +kernel
theorem dX1_toReplay_11 : decode cX1_toReplay 11 = .ok (.iconst 0, 1) := by decide +kernel
theorem dX1_toReplay_12 : decode cX1_toReplay 12 = .ok (.ireturn, 1) := by decide +kernel
theorem dX1_toReplay_13 : decode cX1_toReplay 13 = .ok (.aload_n 0, 1) := by decide +kernel
theorem dX1_toReplay_14 : decode cX1_toReplay 14 = .ok (.iload_n 1, 1) := by decide +kernel
theorem dX1_toReplay_15 : decode cX1_toReplay 15 = .ok (.invokevirtual 107, 3) := by decide +kernel
theorem dX1_toReplay_18 : decode cX1_toReplay 18 = .ok (.lstore_n 2, 1) := by decide +kernel
theorem dX1_toReplay_19 : decode cX1_toReplay 19 = .ok (.lconst 0, 1) := by decide +kernel
theorem dX1_toReplay_20 : decode cX1_toReplay 20 = .ok (.lstore 4, 2) := by decide +kernel
theorem dX1_toReplay_22 : decode cX1_toReplay 22 = .ok (.iconst 0, 1) := by decide +kernel
theorem dX1_toReplay_23 : decode cX1_toReplay 23 = .ok (.istore 6, 2) := by decide +kernel
theorem dX1_toReplay_25 : decode cX1_toReplay 25 = .ok (.iload 6, 2) := by decide +kernel
theorem dX1_toReplay_27 : decode cX1_toReplay 27 = .ok (.aload_n 0, 1) := by decide +kernel
theorem dX1_toReplay_28 : decode cX1_toReplay 28 = .ok (.getfield 40, 3) := by decide +kernel
theorem dX1_toReplay_31 : decode cX1_toReplay 31 = .ok (.if_icmp .ge 31, 3) := by decide +kernel
theorem dX1_toReplay_34 : decode cX1_toReplay 34 = .ok (.lload_n 2, 1) := by decide +kernel
theorem dX1_toReplay_35 : decode cX1_toReplay 35 = .ok (.iload 6, 2) := by decide +kernel
theorem dX1_toReplay_37 : decode cX1_toReplay 37 = .ok (.invokestatic 43, 3) := by decide +kernel
theorem dX1_toReplay_40 : decode cX1_toReplay 40 = .ok (.ifCond .eq 12, 3) := by decide +kernel
theorem dX1_toReplay_43 : decode cX1_toReplay 43 = .ok (.aload_n 0, 1) := by decide +kernel
theorem dX1_toReplay_44 : decode cX1_toReplay 44 = .ok (.iload 6, 2) := by decide +kernel
theorem dX1_toReplay_46 : decode cX1_toReplay 46 = .ok (.invokevirtual 92, 3) := by decide +kernel
theorem dX1_toReplay_49 : decode cX1_toReplay 49 = .ok (.goto 5, 3) := by decide +kernel
theorem dX1_toReplay_52 : decode cX1_toReplay 52 = .ok (.lload 4, 2) := by decide +kernel
theorem dX1_toReplay_54 : decode cX1_toReplay 54 = .ok (.lstore 4, 2) := by decide +kernel
theorem dX1_toReplay_56 : decode cX1_toReplay 56 = .ok (.iinc 6 1, 3) := by decide +kernel
theorem dX1_toReplay_59 : decode cX1_toReplay 59 = .ok (.goto (-34), 3) := by decide +kernel
theorem dX1_toReplay_62 : decode cX1_toReplay 62 = .ok (.aload_n 0, 1) := by decide +kernel
theorem dX1_toReplay_63 : decode cX1_toReplay 63 = .ok (.aload_n 0, 1) := by decide +kernel
theorem dX1_toReplay_64 : decode cX1_toReplay 64 = .ok (.getfield 26, 3) := by decide +kernel
theorem dX1_toReplay_67 : decode cX1_toReplay 67 = .ok (.iload_n 1, 1) := by decide +kernel
theorem dX1_toReplay_68 : decode cX1_toReplay 68 = .ok (.laload, 1) := by decide +kernel
theorem dX1_toReplay_69 : decode cX1_toReplay 69 = .ok (.lload 4, 2) := by decide +kernel
theorem dX1_toReplay_71 : decode cX1_toReplay 71 = .ok (.ldc2_w 47, 3) := by decide +kernel
theorem dX1_toReplay_74 : decode cX1_toReplay 74 = .ok (.lxor, 1) := by decide +kernel
theorem dX1_toReplay_75 : decode cX1_toReplay 75 = .ok (.land, 1) := by decide +kernel
theorem dX1_toReplay_76 : decode cX1_toReplay 76 = .ok (.invokevirtual 78, 3) := by decide +kernel
theorem dX1_toReplay_79 : decode cX1_toReplay 79 = .ok (.ireturn, 1) := by decide +kernel
theorem dX1_goesOn_0 : decode cX1_goesOn 0 = .ok (.aload_n 0, 1) := by decide +kernel
theorem dX1_goesOn_1 : decode cX1_goesOn 1 = .ok (.getfield 16, 3) := by decide +kernel
theorem dX1_goesOn_4 : decode cX1_goesOn 4 = .ok (.iload_n 1, 1) := by decide +kernel
theorem dX1_goesOn_5 : decode cX1_goesOn 5 = .ok (.iaload, 1) := by decide +kernel
theorem dX1_goesOn_6 : decode cX1_goesOn 6 = .ok (.istore_n 2, 1) := by decide +kernel
theorem dX1_goesOn_7 : decode cX1_goesOn 7 = .ok (.aload_n 0, 1) := by decide +kernel
theorem dX1_goesOn_8 : decode cX1_goesOn 8 = .ok (.getfield 13, 3) := by decide +kernel
theorem dX1_goesOn_11 : decode cX1_goesOn 11 = .ok (.iload_n 1, 1) := by decide +kernel
theorem dX1_goesOn_12 : decode cX1_goesOn 12 = .ok (.iaload, 1) := by decide +kernel
theorem dX1_goesOn_13 : decode cX1_goesOn 13 = .ok (.iconst (-1), 1) := by decide +kernel
theorem dX1_goesOn_14 : decode cX1_goesOn 14 = .ok (.if_icmp .eq 40, 3) := by decide +kernel
theorem dX1_goesOn_17 : decode cX1_goesOn 17 = .ok (.iload_n 2, 1) := by decide +kernel
theorem dX1_goesOn_18 : decode cX1_goesOn 18 = .ok (.iconst (-1), 1) := by decide +kernel
theorem dX1_goesOn_19 : decode cX1_goesOn 19 = .ok (.if_icmp .eq 35, 3) := by decide +kernel
theorem dX1_goesOn_22 : decode cX1_goesOn 22 = .ok (.aload_n 0, 1) := by decide +kernel
theorem dX1_goesOn_23 : decode cX1_goesOn 23 = .ok (.getfield 19, 3) := by decide +kernel
theorem dX1_goesOn_26 : decode cX1_goesOn 26 = .ok (.iload_n 1, 1) := by decide +kernel
theorem dX1_goesOn_27 : decode cX1_goesOn 27 = .ok (.laload, 1) := by decide +kernel
theorem dX1_goesOn_28 : decode cX1_goesOn 28 = .ok (.lconst 1, 1) := by decide +kernel
theorem dX1_goesOn_29 : decode cX1_goesOn 29 = .ok (.iload_n 2, 1) := by decide +kernel
theorem dX1_goesOn_30 : decode cX1_goesOn 30 = .ok (.lshl, 1) := by decide +kernel
theorem dX1_goesOn_31 : decode cX1_goesOn 31 = .ok (.lcmp, 1) := by decide +kernel
theorem dX1_goesOn_32 : decode cX1_goesOn 32 = .ok (.ifCond .ne 22, 3) := by decide +kernel
theorem dX1_goesOn_35 : decode cX1_goesOn 35 = .ok (.aload_n 0, 1) := by decide +kernel
theorem dX1_goesOn_36 : decode cX1_goesOn 36 = .ok (.getfield 7, 3) := by decide +kernel
theorem dX1_goesOn_39 : decode cX1_goesOn 39 = .ok (.iload_n 2, 1) := by decide +kernel
theorem dX1_goesOn_40 : decode cX1_goesOn 40 = .ok (.iaload, 1) := by decide +kernel
theorem dX1_goesOn_41 : decode cX1_goesOn 41 = .ok (.aload_n 0, 1) := by decide +kernel
theorem dX1_goesOn_42 : decode cX1_goesOn 42 = .ok (.getfield 7, 3) := by decide +kernel
theorem dX1_goesOn_45 : decode cX1_goesOn 45 = .ok (.iload_n 1, 1) := by decide +kernel
theorem dX1_goesOn_46 : decode cX1_goesOn 46 = .ok (.iaload, 1) := by decide +kernel
theorem dX1_goesOn_47 : decode cX1_goesOn 47 = .ok (.if_icmp .ne 7, 3) := by decide +kernel
theorem dX1_goesOn_50 : decode cX1_goesOn 50 = .ok (.iconst 1, 1) := by decide +kernel
theorem dX1_goesOn_51 : decode cX1_goesOn 51 = .ok (.goto 4, 3) := by decide +kernel
theorem dX1_goesOn_54 : decode cX1_goesOn 54 = .ok (.iconst 0, 1) := by decide +kernel
theorem dX1_goesOn_55 : decode cX1_goesOn 55 = .ok (.ireturn, 1) := by decide +kernel
set_option maxRecDepth 20000 in
theorem ggX1_runs_X1_isAuthor : GoodIn wsX1_runs wsX1_isAuthor := goodIn_r _ [6, 7, 8, 5, 9] (by decide +kernel) (by decide +kernel)
set_option maxRecDepth 20000 in
theorem gX1_runs_X1_isAuthor : GoodIn wsX1_runs (va_wsS RX1 56 yX1_isAuthor wsX1_isAuthor) := goodIn_app (goodIn_of _ (by decide +kernel)) ggX1_runs_X1_isAuthor
set_option maxRecDepth 20000 in
theorem ggX1_runs_X1_asked : GoodIn wsX1_runs wsX1_asked := goodIn_r _ [13, 14, 26, 27, 28, 29, 30, 31, 32, 33, 34, 35] (by decide +kernel) (by decide +kernel)
set_option maxRecDepth 20000 in
theorem gX1_runs_X1_asked : GoodIn wsX1_runs (wsV RX1 82 RX1 yX1_asked wsX1_asked) := goodIn_app (goodIn_of _ (by decide +kernel)) ggX1_runs_X1_asked
set_option maxRecDepth 20000 in
theorem ggX1_runs_X1_has : GoodIn wsX1_runs wsX1_has := goodIn_r _ [17] (by decide +kernel) (by decide +kernel)
set_option maxRecDepth 20000 in
theorem gX1_runs_X1_has : GoodIn wsX1_runs (va_wsS RX1 43 yX1_has wsX1_has) := goodIn_app (goodIn_of _ (by decide +kernel)) ggX1_runs_X1_has
set_option maxRecDepth 20000 in
theorem ggX1_runs_X1_goesOn : GoodIn wsX1_runs wsX1_goesOn := goodIn_r _ [21, 22, 23, 24, 25, 26, 27, 28, 29, 30, 31, 32, 33, 34, 35] (by decide +kernel) (by decide +kernel)
set_option maxRecDepth 20000 in
theorem gX1_runs_X1_goesOn : GoodIn wsX1_runs (wsV RX1 110 RX1 yX1_goesOn wsX1_goesOn) := goodIn_app (goodIn_of _ (by decide +kernel)) ggX1_runs_X1_goesOn
theorem dX1_runs_0 : decode cX1_runs 0 = .ok (.iconst 0, 1) := by decide +kernel
theorem dX1_runs_1 : decode cX1_runs 1 = .ok (.istore_n 2, 1) := by decide +kernel
theorem dX1_runs_2 : decode cX1_runs 2 = .ok (.aload_n 0, 1) := by decide +kernel
theorem dX1_runs_3 : decode cX1_runs 3 = .ok (.iload_n 1, 1) := by decide +kernel
theorem dX1_runs_4 : decode cX1_runs 4 = .ok (.invokestatic 56, 3) := by decide +kernel
theorem dX1_runs_7 : decode cX1_runs 7 = .ok (.invokevirtual 82, 3) := by decide +kernel
theorem dX1_runs_10 : decode cX1_runs 10 = .ok (.istore_n 3, 1) := by decide +kernel
theorem dX1_runs_11 : decode cX1_runs 11 = .ok (.iconst 0, 1) := by decide +kernel
theorem dX1_runs_12 : decode cX1_runs 12 = .ok (.istore 4, 2) := by decide +kernel
theorem dX1_runs_14 : decode cX1_runs 14 = .ok (.iload_n 3, 1) := by decide +kernel
theorem dX1_runs_15 : decode cX1_runs 15 = .ok (.ifCond .eq 49, 3) := by decide +kernel
theorem dX1_runs_18 : decode cX1_runs 18 = .ok (.iload 4, 2) := by decide +kernel
theorem dX1_runs_20 : decode cX1_runs 20 = .ok (.aload_n 0, 1) := by decide +kernel
theorem dX1_runs_21 : decode cX1_runs 21 = .ok (.getfield 40, 3) := by decide +kernel
theorem dX1_runs_24 : decode cX1_runs 24 = .ok (.if_icmp .ge 40, 3) := by decide +kernel
theorem dX1_runs_27 : decode cX1_runs 27 = .ok (.iload_n 2, 1) := by decide +kernel
theorem dX1_runs_28 : decode cX1_runs 28 = .ok (.aload_n 0, 1) := by decide +kernel
theorem dX1_runs_29 : decode cX1_runs 29 = .ok (.getfield 26, 3) := by decide +kernel
theorem dX1_runs_32 : decode cX1_runs 32 = .ok (.iload_n 1, 1) := by decide +kernel
theorem dX1_runs_33 : decode cX1_runs 33 = .ok (.laload, 1) := by decide +kernel
theorem dX1_runs_34 : decode cX1_runs 34 = .ok (.iload 4, 2) := by decide +kernel
theorem dX1_runs_36 : decode cX1_runs 36 = .ok (.invokestatic 43, 3) := by decide +kernel
theorem dX1_runs_39 : decode cX1_runs 39 = .ok (.ifCond .eq 16, 3) := by decide +kernel
theorem dX1_runs_42 : decode cX1_runs 42 = .ok (.aload_n 0, 1) := by decide +kernel
theorem dX1_runs_43 : decode cX1_runs 43 = .ok (.iload 4, 2) := by decide +kernel
theorem dX1_runs_45 : decode cX1_runs 45 = .ok (.invokevirtual 110, 3) := by decide +kernel
theorem dX1_runs_48 : decode cX1_runs 48 = .ok (.ifCond .ne 7, 3) := by decide +kernel
theorem dX1_runs_51 : decode cX1_runs 51 = .ok (.iconst 1, 1) := by decide +kernel
theorem dX1_runs_52 : decode cX1_runs 52 = .ok (.goto 4, 3) := by decide +kernel
theorem dX1_runs_55 : decode cX1_runs 55 = .ok (.iconst 0, 1) := by decide +kernel
theorem dX1_runs_56 : decode cX1_runs 56 = .ok (.iadd, 1) := by decide +kernel
theorem dX1_runs_57 : decode cX1_runs 57 = .ok (.istore_n 2, 1) := by decide +kernel
theorem dX1_runs_58 : decode cX1_runs 58 = .ok (.iinc 4 1, 3) := by decide +kernel
theorem dX1_runs_61 : decode cX1_runs 61 = .ok (.goto (-47), 3) := by decide +kernel
theorem dX1_runs_64 : decode cX1_runs 64 = .ok (.iload_n 2, 1) := by decide +kernel
theorem dX1_runs_65 : decode cX1_runs 65 = .ok (.ireturn, 1) := by decide +kernel
theorem dJ13_bitCount_95d88_0 : decode cJ13_bitCount_95d88 0 = .ok (.lload_n 0, 1) := by decide +kernel
theorem dJ13_bitCount_95d88_1 : decode cJ13_bitCount_95d88 1 = .ok (.lload_n 0, 1) := by decide +kernel
theorem dJ13_bitCount_95d88_2 : decode cJ13_bitCount_95d88 2 = .ok (.iconst 1, 1) := by decide +kernel
theorem dJ13_bitCount_95d88_3 : decode cJ13_bitCount_95d88 3 = .ok (.lushr, 1) := by decide +kernel
theorem dJ13_bitCount_95d88_4 : decode cJ13_bitCount_95d88 4 = .ok (.ldc2_w 314, 3) := by decide +kernel
theorem dJ13_bitCount_95d88_7 : decode cJ13_bitCount_95d88 7 = .ok (.land, 1) := by decide +kernel
theorem dJ13_bitCount_95d88_8 : decode cJ13_bitCount_95d88 8 = .ok (.lsub, 1) := by decide +kernel
theorem dJ13_bitCount_95d88_9 : decode cJ13_bitCount_95d88 9 = .ok (.lstore_n 0, 1) := by decide +kernel
theorem dJ13_bitCount_95d88_10 : decode cJ13_bitCount_95d88 10 = .ok (.lload_n 0, 1) := by decide +kernel
theorem dJ13_bitCount_95d88_11 : decode cJ13_bitCount_95d88 11 = .ok (.ldc2_w 316, 3) := by decide +kernel
theorem dJ13_bitCount_95d88_14 : decode cJ13_bitCount_95d88 14 = .ok (.land, 1) := by decide +kernel
theorem dJ13_bitCount_95d88_15 : decode cJ13_bitCount_95d88 15 = .ok (.lload_n 0, 1) := by decide +kernel
theorem dJ13_bitCount_95d88_16 : decode cJ13_bitCount_95d88 16 = .ok (.iconst 2, 1) := by decide +kernel
theorem dJ13_bitCount_95d88_17 : decode cJ13_bitCount_95d88 17 = .ok (.lushr, 1) := by decide +kernel
theorem dJ13_bitCount_95d88_18 : decode cJ13_bitCount_95d88 18 = .ok (.ldc2_w 316, 3) := by decide +kernel
theorem dJ13_bitCount_95d88_21 : decode cJ13_bitCount_95d88 21 = .ok (.land, 1) := by decide +kernel
theorem dJ13_bitCount_95d88_22 : decode cJ13_bitCount_95d88 22 = .ok (.ladd, 1) := by decide +kernel
theorem dJ13_bitCount_95d88_23 : decode cJ13_bitCount_95d88 23 = .ok (.lstore_n 0, 1) := by decide +kernel
theorem dJ13_bitCount_95d88_24 : decode cJ13_bitCount_95d88 24 = .ok (.lload_n 0, 1) := by decide +kernel
theorem dJ13_bitCount_95d88_25 : decode cJ13_bitCount_95d88 25 = .ok (.lload_n 0, 1) := by decide +kernel
theorem dJ13_bitCount_95d88_26 : decode cJ13_bitCount_95d88 26 = .ok (.iconst 4, 1) := by decide +kernel
theorem dJ13_bitCount_95d88_27 : decode cJ13_bitCount_95d88 27 = .ok (.lushr, 1) := by decide +kernel
theorem dJ13_bitCount_95d88_28 : decode cJ13_bitCount_95d88 28 = .ok (.ladd, 1) := by decide +kernel
theorem dJ13_bitCount_95d88_29 : decode cJ13_bitCount_95d88 29 = .ok (.ldc2_w 318, 3) := by decide +kernel
theorem dJ13_bitCount_95d88_32 : decode cJ13_bitCount_95d88 32 = .ok (.land, 1) := by decide +kernel
theorem dJ13_bitCount_95d88_33 : decode cJ13_bitCount_95d88 33 = .ok (.lstore_n 0, 1) := by decide +kernel
theorem dJ13_bitCount_95d88_34 : decode cJ13_bitCount_95d88 34 = .ok (.lload_n 0, 1) := by decide +kernel
theorem dJ13_bitCount_95d88_35 : decode cJ13_bitCount_95d88 35 = .ok (.lload_n 0, 1) := by decide +kernel
theorem dJ13_bitCount_95d88_36 : decode cJ13_bitCount_95d88 36 = .ok (.bipush 8, 2) := by decide +kernel
theorem dJ13_bitCount_95d88_38 : decode cJ13_bitCount_95d88 38 = .ok (.lushr, 1) := by decide +kernel
theorem dJ13_bitCount_95d88_39 : decode cJ13_bitCount_95d88 39 = .ok (.ladd, 1) := by decide +kernel
theorem dJ13_bitCount_95d88_40 : decode cJ13_bitCount_95d88 40 = .ok (.lstore_n 0, 1) := by decide +kernel
theorem dJ13_bitCount_95d88_41 : decode cJ13_bitCount_95d88 41 = .ok (.lload_n 0, 1) := by decide +kernel
theorem dJ13_bitCount_95d88_42 : decode cJ13_bitCount_95d88 42 = .ok (.lload_n 0, 1) := by decide +kernel
theorem dJ13_bitCount_95d88_43 : decode cJ13_bitCount_95d88 43 = .ok (.bipush 16, 2) := by decide +kernel
theorem dJ13_bitCount_95d88_45 : decode cJ13_bitCount_95d88 45 = .ok (.lushr, 1) := by decide +kernel
theorem dJ13_bitCount_95d88_46 : decode cJ13_bitCount_95d88 46 = .ok (.ladd, 1) := by decide +kernel
theorem dJ13_bitCount_95d88_47 : decode cJ13_bitCount_95d88 47 = .ok (.lstore_n 0, 1) := by decide +kernel
theorem dJ13_bitCount_95d88_48 : decode cJ13_bitCount_95d88 48 = .ok (.lload_n 0, 1) := by decide +kernel
theorem dJ13_bitCount_95d88_49 : decode cJ13_bitCount_95d88 49 = .ok (.lload_n 0, 1) := by decide +kernel
theorem dJ13_bitCount_95d88_50 : decode cJ13_bitCount_95d88 50 = .ok (.bipush 32, 2) := by decide +kernel
theorem dJ13_bitCount_95d88_52 : decode cJ13_bitCount_95d88 52 = .ok (.lushr, 1) := by decide +kernel
theorem dJ13_bitCount_95d88_53 : decode cJ13_bitCount_95d88 53 = .ok (.ladd, 1) := by decide +kernel
theorem dJ13_bitCount_95d88_54 : decode cJ13_bitCount_95d88 54 = .ok (.lstore_n 0, 1) := by decide +kernel
theorem dJ13_bitCount_95d88_55 : decode cJ13_bitCount_95d88 55 = .ok (.lload_n 0, 1) := by decide +kernel
theorem dJ13_bitCount_95d88_56 : decode cJ13_bitCount_95d88 56 = .ok (.l2i, 1) := by decide +kernel
theorem dJ13_bitCount_95d88_57 : decode cJ13_bitCount_95d88 57 = .ok (.bipush 127, 2) := by decide +kernel
theorem dJ13_bitCount_95d88_59 : decode cJ13_bitCount_95d88 59 = .ok (.iand, 1) := by decide +kernel
theorem dJ13_bitCount_95d88_60 : decode cJ13_bitCount_95d88 60 = .ok (.ireturn, 1) := by decide +kernel
set_option maxRecDepth 20000 in
theorem ggL_insert_X0_insert : GoodIn wsL_insert wsX0_insert := goodIn_ca (goodIn_ca (goodIn_ca (goodIn_r _ [8, 9, 10, 11, 12, 13, 14, 15, 7, 16, 17, 18, 19, 20, 21, 22, 23, 24, 25, 26, 27, 28, 29, 30, 31, 32, 33, 34, 35, 36, 37, 38, 39, 40, 41, 42, 43, 44, 45, 46, 47, 48, 49, 50, 51, 52, 53, 54, 55, 56, 57, 58, 59, 60, 61, 62, 63, 64, 65, 66, 67, 68, 69, 70, 71, 72, 73, 74, 75, 76, 77, 78, 79, 80, 81, 82, 83, 84, 85, 86, 87, 88, 89, 90, 91, 92, 93, 94, 95, 96, 97, 98, 99, 100] (by decide +kernel) (by decide +kernel)) (goodIn_sub (fun _ h => List.mem_cons_of_mem _ (List.mem_append_left _ (List.mem_append_left _ (List.mem_append_right _ h)))) (by decide +kernel))) (goodIn_sub (fun _ h => List.mem_cons_of_mem _ (List.mem_append_left _ (List.mem_append_right _ h))) (by decide +kernel))) (goodIn_sub (fun _ h => List.mem_cons_of_mem _ (List.mem_append_right _ h)) (by decide +kernel))
set_option maxRecDepth 20000 in
theorem gL_insert_X0_insert : GoodIn wsL_insert (wsV RL 7 RX0 yX0_insert wsX0_insert) := goodIn_app (goodIn_of _ (by decide +kernel)) ggL_insert_X0_insert
theorem dL_insert_0 : decode cL_insert 0 = .ok (.aload 4, 2) := by decide +kernel
theorem dL_insert_2 : decode cL_insert 2 = .ok (.iconst 0, 1) := by decide +kernel
theorem dL_insert_3 : decode cL_insert 3 = .ok (.aload_n 0, 1) := by decide +kernel
theorem dL_insert_4 : decode cL_insert 4 = .ok (.iload_n 1, 1) := by decide +kernel
theorem dL_insert_5 : decode cL_insert 5 = .ok (.iload_n 2, 1) := by decide +kernel
theorem dL_insert_6 : decode cL_insert 6 = .ok (.iload_n 3, 1) := by decide +kernel
theorem dL_insert_7 : decode cL_insert 7 = .ok (.invokevirtual 7, 3) := by decide +kernel
theorem dL_insert_10 : decode cL_insert 10 = .ok (.i2l, 1) := by decide +kernel
theorem dL_insert_11 : decode cL_insert 11 = .ok (.lastore, 1) := by decide +kernel
theorem dL_insert_12 : decode cL_insert 12 = .ok (.goto 15, 3) := by decide +kernel
theorem dL_insert_15 : decode cL_insert 15 = .ok (.astore 5, 2) := by decide +kernel
theorem dL_insert_17 : decode cL_insert 17 = .ok (.iconst 1, 1) := by decide +kernel
theorem dL_insert_18 : decode cL_insert 18 = .ok (.ireturn, 1) := by decide +kernel
theorem dL_insert_19 : decode cL_insert 19 = .ok (.astore 5, 2) := by decide +kernel
theorem dL_insert_21 : decode cL_insert 21 = .ok (.iconst 2, 1) := by decide +kernel
theorem dL_insert_22 : decode cL_insert 22 = .ok (.ireturn, 1) := by decide +kernel
theorem dL_insert_23 : decode cL_insert 23 = .ok (.astore 5, 2) := by decide +kernel
theorem dL_insert_25 : decode cL_insert 25 = .ok (.iconst 3, 1) := by decide +kernel
theorem dL_insert_26 : decode cL_insert 26 = .ok (.ireturn, 1) := by decide +kernel
theorem dL_insert_27 : decode cL_insert 27 = .ok (.iconst 0, 1) := by decide +kernel
theorem dL_insert_28 : decode cL_insert 28 = .ok (.ireturn, 1) := by decide +kernel
set_option maxRecDepth 20000 in
theorem ggL_delete_X0_delete : GoodIn wsL_delete wsX0_delete := goodIn_ca (goodIn_ca (goodIn_r _ [7, 8, 9, 10, 11, 12, 6, 13, 14, 15, 16, 17, 18, 19, 20, 21, 22, 23, 24, 25, 26, 27, 28, 29, 30, 31, 32, 33, 34, 35, 36, 37, 38, 39, 40, 41, 42, 43, 44, 45, 46, 47, 48, 49, 50, 51, 52, 53, 54, 55, 56, 57, 58, 59, 60, 61, 62, 63, 64, 65, 66, 67, 68, 69, 70, 71, 72, 73, 74, 75, 76, 77, 78, 79, 80, 81, 82, 83, 84, 85, 86, 87, 88, 89, 90, 91, 92, 93] (by decide +kernel) (by decide +kernel)) (goodIn_sub (fun _ h => List.mem_cons_of_mem _ (List.mem_append_left _ (List.mem_append_right _ h))) (by decide +kernel))) (goodIn_sub (fun _ h => List.mem_cons_of_mem _ (List.mem_append_right _ h)) (by decide +kernel))
set_option maxRecDepth 20000 in
theorem gL_delete_X0_delete : GoodIn wsL_delete (wsV RL 19 RX0 yX0_delete wsX0_delete) := goodIn_app (goodIn_of _ (by decide +kernel)) ggL_delete_X0_delete
theorem dL_delete_0 : decode cL_delete 0 = .ok (.aload_n 3, 1) := by decide +kernel
theorem dL_delete_1 : decode cL_delete 1 = .ok (.iconst 0, 1) := by decide +kernel
theorem dL_delete_2 : decode cL_delete 2 = .ok (.aload_n 0, 1) := by decide +kernel
theorem dL_delete_3 : decode cL_delete 3 = .ok (.iload_n 1, 1) := by decide +kernel
theorem dL_delete_4 : decode cL_delete 4 = .ok (.iload_n 2, 1) := by decide +kernel
theorem dL_delete_5 : decode cL_delete 5 = .ok (.invokevirtual 19, 3) := by decide +kernel
theorem dL_delete_8 : decode cL_delete 8 = .ok (.i2l, 1) := by decide +kernel
theorem dL_delete_9 : decode cL_delete 9 = .ok (.lastore, 1) := by decide +kernel
theorem dL_delete_10 : decode cL_delete 10 = .ok (.goto 11, 3) := by decide +kernel
theorem dL_delete_13 : decode cL_delete 13 = .ok (.astore 4, 2) := by decide +kernel
theorem dL_delete_15 : decode cL_delete 15 = .ok (.iconst 1, 1) := by decide +kernel
theorem dL_delete_16 : decode cL_delete 16 = .ok (.ireturn, 1) := by decide +kernel
theorem dL_delete_17 : decode cL_delete 17 = .ok (.astore 4, 2) := by decide +kernel
theorem dL_delete_19 : decode cL_delete 19 = .ok (.iconst 2, 1) := by decide +kernel
theorem dL_delete_20 : decode cL_delete 20 = .ok (.ireturn, 1) := by decide +kernel
theorem dL_delete_21 : decode cL_delete 21 = .ok (.iconst 0, 1) := by decide +kernel
theorem dL_delete_22 : decode cL_delete 22 = .ok (.ireturn, 1) := by decide +kernel
set_option maxRecDepth 20000 in
theorem ggL_learn_X0_learn : GoodIn wsL_learn wsX0_learn := goodIn_ca (goodIn_r _ [6, 7, 8, 9, 10, 5, 11, 12, 13, 14, 15, 16, 17, 18, 19, 20, 21, 22, 23, 24, 25, 26, 27, 28, 29, 30, 31, 32, 33, 34, 35, 36, 37, 38, 39] (by decide +kernel) (by decide +kernel)) (goodIn_sub (fun _ h => List.mem_cons_of_mem _ (List.mem_append_right _ h)) (by decide +kernel))
set_option maxRecDepth 20000 in
theorem gL_learn_X0_learn : GoodIn wsL_learn (wsV RL 23 RX0 yX0_learn wsX0_learn) := goodIn_app (goodIn_of _ (by decide +kernel)) ggL_learn_X0_learn
theorem dL_learn_0 : decode cL_learn 0 = .ok (.aload_n 3, 1) := by decide +kernel
theorem dL_learn_1 : decode cL_learn 1 = .ok (.iconst 0, 1) := by decide +kernel
theorem dL_learn_2 : decode cL_learn 2 = .ok (.aload_n 0, 1) := by decide +kernel
theorem dL_learn_3 : decode cL_learn 3 = .ok (.iload_n 1, 1) := by decide +kernel
theorem dL_learn_4 : decode cL_learn 4 = .ok (.iload_n 2, 1) := by decide +kernel
theorem dL_learn_5 : decode cL_learn 5 = .ok (.invokevirtual 23, 3) := by decide +kernel
theorem dL_learn_8 : decode cL_learn 8 = .ok (.i2l, 1) := by decide +kernel
theorem dL_learn_9 : decode cL_learn 9 = .ok (.lastore, 1) := by decide +kernel
theorem dL_learn_10 : decode cL_learn 10 = .ok (.goto 7, 3) := by decide +kernel
theorem dL_learn_13 : decode cL_learn 13 = .ok (.astore 4, 2) := by decide +kernel
theorem dL_learn_15 : decode cL_learn 15 = .ok (.iconst 1, 1) := by decide +kernel
theorem dL_learn_16 : decode cL_learn 16 = .ok (.ireturn, 1) := by decide +kernel
theorem dL_learn_17 : decode cL_learn 17 = .ok (.iconst 0, 1) := by decide +kernel
theorem dL_learn_18 : decode cL_learn 18 = .ok (.ireturn, 1) := by decide +kernel
set_option maxRecDepth 20000 in
theorem ggL_learnEvent_X0_learnEvent : GoodIn wsL_learnEvent wsX0_learnEvent := goodIn_ca (goodIn_r _ [6, 7, 8, 9, 5, 10, 11, 12, 13, 14, 15, 16, 17, 18, 19, 20, 21, 22, 23, 24, 25, 26, 27, 28, 29, 30, 31, 32, 33, 34, 35, 36, 37, 38, 39, 40, 41, 42, 43, 44, 45, 46, 47, 48, 49, 50, 51, 52, 53, 54, 55, 56] (by decide +kernel) (by decide +kernel)) (goodIn_sub (fun _ h => List.mem_cons_of_mem _ (List.mem_append_right _ h)) (by decide +kernel))
set_option maxRecDepth 20000 in
theorem gL_learnEvent_X0_learnEvent : GoodIn wsL_learnEvent (wsV RL 26 RX0 yX0_learnEvent wsX0_learnEvent) := goodIn_app (goodIn_of _ (by decide +kernel)) ggL_learnEvent_X0_learnEvent
theorem dL_learnEvent_0 : decode cL_learnEvent 0 = .ok (.aload_n 3, 1) := by decide +kernel
theorem dL_learnEvent_1 : decode cL_learnEvent 1 = .ok (.iconst 0, 1) := by decide +kernel
theorem dL_learnEvent_2 : decode cL_learnEvent 2 = .ok (.aload_n 0, 1) := by decide +kernel
theorem dL_learnEvent_3 : decode cL_learnEvent 3 = .ok (.iload_n 1, 1) := by decide +kernel
theorem dL_learnEvent_4 : decode cL_learnEvent 4 = .ok (.iload_n 2, 1) := by decide +kernel
theorem dL_learnEvent_5 : decode cL_learnEvent 5 = .ok (.invokevirtual 26, 3) := by decide +kernel
theorem dL_learnEvent_8 : decode cL_learnEvent 8 = .ok (.i2l, 1) := by decide +kernel
theorem dL_learnEvent_9 : decode cL_learnEvent 9 = .ok (.lastore, 1) := by decide +kernel
theorem dL_learnEvent_10 : decode cL_learnEvent 10 = .ok (.goto 7, 3) := by decide +kernel
theorem dL_learnEvent_13 : decode cL_learnEvent 13 = .ok (.astore 4, 2) := by decide +kernel
theorem dL_learnEvent_15 : decode cL_learnEvent 15 = .ok (.iconst 1, 1) := by decide +kernel
theorem dL_learnEvent_16 : decode cL_learnEvent 16 = .ok (.ireturn, 1) := by decide +kernel
theorem dL_learnEvent_17 : decode cL_learnEvent 17 = .ok (.iconst 0, 1) := by decide +kernel
theorem dL_learnEvent_18 : decode cL_learnEvent 18 = .ok (.ireturn, 1) := by decide +kernel
set_option maxRecDepth 20000 in
theorem ggL_length_X0_length : GoodIn wsL_length wsX0_length := goodIn_ca (goodIn_r _ [6, 7, 8, 9, 10, 5, 11, 12, 13, 14, 15, 16, 17, 18, 19, 20, 21, 22, 23, 24, 25, 26, 27, 28, 29, 30, 31, 32, 33, 34, 35, 36, 37, 38, 39, 40, 41, 42, 43, 44, 45, 46, 47, 48, 49, 50, 51, 52, 53, 54, 55, 56, 57, 58, 59, 60, 61, 62, 63, 64, 65, 66] (by decide +kernel) (by decide +kernel)) (goodIn_sub (fun _ h => List.mem_cons_of_mem _ (List.mem_append_right _ h)) (by decide +kernel))
set_option maxRecDepth 20000 in
theorem gL_length_X0_length : GoodIn wsL_length (wsV RL 29 RX0 yX0_length wsX0_length) := goodIn_app (goodIn_of _ (by decide +kernel)) ggL_length_X0_length
theorem dL_length_0 : decode cL_length 0 = .ok (.aload_n 2, 1) := by decide +kernel
theorem dL_length_1 : decode cL_length 1 = .ok (.iconst 0, 1) := by decide +kernel
theorem dL_length_2 : decode cL_length 2 = .ok (.aload_n 0, 1) := by decide +kernel
theorem dL_length_3 : decode cL_length 3 = .ok (.iload_n 1, 1) := by decide +kernel
theorem dL_length_4 : decode cL_length 4 = .ok (.invokevirtual 29, 3) := by decide +kernel
theorem dL_length_7 : decode cL_length 7 = .ok (.i2l, 1) := by decide +kernel
theorem dL_length_8 : decode cL_length 8 = .ok (.lastore, 1) := by decide +kernel
theorem dL_length_9 : decode cL_length 9 = .ok (.goto 6, 3) := by decide +kernel
theorem dL_length_12 : decode cL_length 12 = .ok (.astore_n 3, 1) := by decide +kernel
theorem dL_length_13 : decode cL_length 13 = .ok (.iconst 1, 1) := by decide +kernel
theorem dL_length_14 : decode cL_length 14 = .ok (.ireturn, 1) := by decide +kernel
theorem dL_length_15 : decode cL_length 15 = .ok (.iconst 0, 1) := by decide +kernel
theorem dL_length_16 : decode cL_length 16 = .ok (.ireturn, 1) := by decide +kernel
set_option maxRecDepth 20000 in
theorem ggL_letterAt_X0_letterAt : GoodIn wsL_letterAt wsX0_letterAt := goodIn_ca (goodIn_r _ [6, 7, 8, 9, 10, 11, 5, 12, 13, 14, 15, 16, 17, 18, 19, 20, 21, 22, 23, 24, 25, 26, 27, 28, 29, 30, 31, 32, 33, 34, 35, 36, 37, 38, 39, 40, 41, 42, 43, 44, 45, 46, 47, 48, 49, 50, 51, 52, 53, 54, 55, 56, 57, 58, 59, 60, 61, 62, 63, 64, 65, 66, 67, 68, 69, 70, 71, 72, 73, 74] (by decide +kernel) (by decide +kernel)) (goodIn_sub (fun _ h => List.mem_cons_of_mem _ (List.mem_append_right _ h)) (by decide +kernel))
set_option maxRecDepth 20000 in
theorem gL_letterAt_X0_letterAt : GoodIn wsL_letterAt (wsV RL 33 RX0 yX0_letterAt wsX0_letterAt) := goodIn_app (goodIn_of _ (by decide +kernel)) ggL_letterAt_X0_letterAt
theorem dL_letterAt_0 : decode cL_letterAt 0 = .ok (.aload_n 3, 1) := by decide +kernel
theorem dL_letterAt_1 : decode cL_letterAt 1 = .ok (.iconst 0, 1) := by decide +kernel
theorem dL_letterAt_2 : decode cL_letterAt 2 = .ok (.aload_n 0, 1) := by decide +kernel
theorem dL_letterAt_3 : decode cL_letterAt 3 = .ok (.iload_n 1, 1) := by decide +kernel
theorem dL_letterAt_4 : decode cL_letterAt 4 = .ok (.iload_n 2, 1) := by decide +kernel
theorem dL_letterAt_5 : decode cL_letterAt 5 = .ok (.invokevirtual 33, 3) := by decide +kernel
theorem dL_letterAt_8 : decode cL_letterAt 8 = .ok (.i2l, 1) := by decide +kernel
theorem dL_letterAt_9 : decode cL_letterAt 9 = .ok (.lastore, 1) := by decide +kernel
theorem dL_letterAt_10 : decode cL_letterAt 10 = .ok (.goto 7, 3) := by decide +kernel
theorem dL_letterAt_13 : decode cL_letterAt 13 = .ok (.astore 4, 2) := by decide +kernel
theorem dL_letterAt_15 : decode cL_letterAt 15 = .ok (.iconst 1, 1) := by decide +kernel
theorem dL_letterAt_16 : decode cL_letterAt 16 = .ok (.ireturn, 1) := by decide +kernel
theorem dL_letterAt_17 : decode cL_letterAt 17 = .ok (.iconst 0, 1) := by decide +kernel
theorem dL_letterAt_18 : decode cL_letterAt 18 = .ok (.ireturn, 1) := by decide +kernel
set_option maxRecDepth 20000 in
theorem ggL_letterByList_X0_letterByList : GoodIn wsL_letterByList wsX0_letterByList := goodIn_ca (goodIn_r _ [6, 7, 8, 9, 10, 11, 12, 5, 13, 14, 15, 16, 17, 18, 19, 20, 21, 22, 23, 24, 25, 26, 27, 28, 29, 30, 31, 32, 33, 34, 35, 36, 37, 38, 39, 40, 41, 42, 43, 44, 45, 46, 47, 48, 49, 50, 51, 52, 53, 54, 55, 56, 57, 58, 59, 60, 61, 62, 63, 64, 65, 66, 67] (by decide +kernel) (by decide +kernel)) (goodIn_sub (fun _ h => List.mem_cons_of_mem _ (List.mem_append_right _ h)) (by decide +kernel))
set_option maxRecDepth 20000 in
theorem gL_letterByList_X0_letterByList : GoodIn wsL_letterByList (wsV RL 36 RX0 yX0_letterByList wsX0_letterByList) := goodIn_app (goodIn_of _ (by decide +kernel)) ggL_letterByList_X0_letterByList
theorem dL_letterByList_0 : decode cL_letterByList 0 = .ok (.aload_n 3, 1) := by decide +kernel
theorem dL_letterByList_1 : decode cL_letterByList 1 = .ok (.iconst 0, 1) := by decide +kernel
theorem dL_letterByList_2 : decode cL_letterByList 2 = .ok (.aload_n 0, 1) := by decide +kernel
theorem dL_letterByList_3 : decode cL_letterByList 3 = .ok (.iload_n 1, 1) := by decide +kernel
theorem dL_letterByList_4 : decode cL_letterByList 4 = .ok (.iload_n 2, 1) := by decide +kernel
theorem dL_letterByList_5 : decode cL_letterByList 5 = .ok (.invokevirtual 36, 3) := by decide +kernel
theorem dL_letterByList_8 : decode cL_letterByList 8 = .ok (.i2l, 1) := by decide +kernel
theorem dL_letterByList_9 : decode cL_letterByList 9 = .ok (.lastore, 1) := by decide +kernel
theorem dL_letterByList_10 : decode cL_letterByList 10 = .ok (.goto 7, 3) := by decide +kernel
theorem dL_letterByList_13 : decode cL_letterByList 13 = .ok (.astore 4, 2) := by decide +kernel
theorem dL_letterByList_15 : decode cL_letterByList 15 = .ok (.iconst 1, 1) := by decide +kernel
theorem dL_letterByList_16 : decode cL_letterByList 16 = .ok (.ireturn, 1) := by decide +kernel
theorem dL_letterByList_17 : decode cL_letterByList 17 = .ok (.iconst 0, 1) := by decide +kernel
theorem dL_letterByList_18 : decode cL_letterByList 18 = .ok (.ireturn, 1) := by decide +kernel
set_option maxRecDepth 20000 in
theorem ggL_eventAt_X0_eventAt : GoodIn wsL_eventAt wsX0_eventAt := goodIn_ca (goodIn_r _ [6, 7, 8, 9, 10, 5, 11, 12, 13, 14, 15, 16, 17, 18, 19, 20, 21, 22, 23, 24, 25, 26, 27, 28, 29, 30, 31, 32, 33, 34, 35, 36, 37, 38, 39, 40, 41, 42, 43, 44, 45, 46, 47, 48, 49, 50, 51, 52, 53, 54, 55, 56, 57, 58, 59, 60, 61, 62, 63, 64, 65, 66, 67, 68, 69, 70, 71, 72, 73, 74] (by decide +kernel) (by decide +kernel)) (goodIn_sub (fun _ h => List.mem_cons_of_mem _ (List.mem_append_right _ h)) (by decide +kernel))
set_option maxRecDepth 20000 in
theorem gL_eventAt_X0_eventAt : GoodIn wsL_eventAt (wsV RL 39 RX0 yX0_eventAt wsX0_eventAt) := goodIn_app (goodIn_of _ (by decide +kernel)) ggL_eventAt_X0_eventAt
theorem dL_eventAt_0 : decode cL_eventAt 0 = .ok (.aload_n 3, 1) := by decide +kernel
theorem dL_eventAt_1 : decode cL_eventAt 1 = .ok (.iconst 0, 1) := by decide +kernel
theorem dL_eventAt_2 : decode cL_eventAt 2 = .ok (.aload_n 0, 1) := by decide +kernel
theorem dL_eventAt_3 : decode cL_eventAt 3 = .ok (.iload_n 1, 1) := by decide +kernel
theorem dL_eventAt_4 : decode cL_eventAt 4 = .ok (.iload_n 2, 1) := by decide +kernel
theorem dL_eventAt_5 : decode cL_eventAt 5 = .ok (.invokevirtual 39, 3) := by decide +kernel
theorem dL_eventAt_8 : decode cL_eventAt 8 = .ok (.i2l, 1) := by decide +kernel
theorem dL_eventAt_9 : decode cL_eventAt 9 = .ok (.lastore, 1) := by decide +kernel
theorem dL_eventAt_10 : decode cL_eventAt 10 = .ok (.goto 7, 3) := by decide +kernel
theorem dL_eventAt_13 : decode cL_eventAt 13 = .ok (.astore 4, 2) := by decide +kernel
theorem dL_eventAt_15 : decode cL_eventAt 15 = .ok (.iconst 1, 1) := by decide +kernel
theorem dL_eventAt_16 : decode cL_eventAt 16 = .ok (.ireturn, 1) := by decide +kernel
theorem dL_eventAt_17 : decode cL_eventAt 17 = .ok (.iconst 0, 1) := by decide +kernel
theorem dL_eventAt_18 : decode cL_eventAt 18 = .ok (.ireturn, 1) := by decide +kernel
set_option maxRecDepth 20000 in
theorem ggL_lengthOf_X0_lengthOf : GoodIn wsL_lengthOf wsX0_lengthOf := goodIn_ca (goodIn_r _ [6, 7, 8, 9, 5, 10, 11, 12, 13, 14, 15, 16, 17, 18, 19, 20, 21, 22, 23, 24, 25, 26, 27, 28, 29, 30, 31, 32, 33, 34, 35, 36, 37, 38, 39, 40, 41, 42, 43, 44, 45, 46, 47, 48, 49, 50, 51, 52, 53, 54, 55, 56, 57, 58, 59, 60, 61, 62, 63, 64, 65, 66, 67, 68, 69, 70] (by decide +kernel) (by decide +kernel)) (goodIn_sub (fun _ h => List.mem_cons_of_mem _ (List.mem_append_right _ h)) (by decide +kernel))
set_option maxRecDepth 20000 in
theorem gL_lengthOf_X0_lengthOf : GoodIn wsL_lengthOf (wsV RL 42 RX0 yX0_lengthOf wsX0_lengthOf) := goodIn_app (goodIn_of _ (by decide +kernel)) ggL_lengthOf_X0_lengthOf
theorem dL_lengthOf_0 : decode cL_lengthOf 0 = .ok (.aload_n 2, 1) := by decide +kernel
theorem dL_lengthOf_1 : decode cL_lengthOf 1 = .ok (.iconst 0, 1) := by decide +kernel
theorem dL_lengthOf_2 : decode cL_lengthOf 2 = .ok (.aload_n 0, 1) := by decide +kernel
theorem dL_lengthOf_3 : decode cL_lengthOf 3 = .ok (.iload_n 1, 1) := by decide +kernel
theorem dL_lengthOf_4 : decode cL_lengthOf 4 = .ok (.invokevirtual 42, 3) := by decide +kernel
theorem dL_lengthOf_7 : decode cL_lengthOf 7 = .ok (.i2l, 1) := by decide +kernel
theorem dL_lengthOf_8 : decode cL_lengthOf 8 = .ok (.lastore, 1) := by decide +kernel
theorem dL_lengthOf_9 : decode cL_lengthOf 9 = .ok (.goto 6, 3) := by decide +kernel
theorem dL_lengthOf_12 : decode cL_lengthOf 12 = .ok (.astore_n 3, 1) := by decide +kernel
theorem dL_lengthOf_13 : decode cL_lengthOf 13 = .ok (.iconst 1, 1) := by decide +kernel
theorem dL_lengthOf_14 : decode cL_lengthOf 14 = .ok (.ireturn, 1) := by decide +kernel
theorem dL_lengthOf_15 : decode cL_lengthOf 15 = .ok (.iconst 0, 1) := by decide +kernel
theorem dL_lengthOf_16 : decode cL_lengthOf 16 = .ok (.ireturn, 1) := by decide +kernel
set_option maxRecDepth 20000 in
theorem ggL_letterOf_X0_letterOf : GoodIn wsL_letterOf wsX0_letterOf := goodIn_ca (goodIn_r _ [6, 7, 8, 9, 10, 5, 11, 12, 13, 14, 15, 16, 17, 18, 19, 20, 21, 22, 23, 24, 25, 26, 27, 28, 29, 30, 31, 32, 33, 34, 35, 36, 37, 38, 39, 40, 41, 42, 43, 44, 45, 46, 47, 48, 49, 50, 51, 52, 53, 54, 55, 56, 57, 58, 59, 60, 61, 62, 63, 64, 65, 66, 67, 68, 69, 70, 71, 72, 73, 74, 75, 76, 77, 78] (by decide +kernel) (by decide +kernel)) (goodIn_sub (fun _ h => List.mem_cons_of_mem _ (List.mem_append_right _ h)) (by decide +kernel))
set_option maxRecDepth 20000 in
theorem gL_letterOf_X0_letterOf : GoodIn wsL_letterOf (wsV RL 45 RX0 yX0_letterOf wsX0_letterOf) := goodIn_app (goodIn_of _ (by decide +kernel)) ggL_letterOf_X0_letterOf
theorem dL_letterOf_0 : decode cL_letterOf 0 = .ok (.aload_n 3, 1) := by decide +kernel
theorem dL_letterOf_1 : decode cL_letterOf 1 = .ok (.iconst 0, 1) := by decide +kernel
theorem dL_letterOf_2 : decode cL_letterOf 2 = .ok (.aload_n 0, 1) := by decide +kernel
theorem dL_letterOf_3 : decode cL_letterOf 3 = .ok (.iload_n 1, 1) := by decide +kernel
theorem dL_letterOf_4 : decode cL_letterOf 4 = .ok (.iload_n 2, 1) := by decide +kernel
theorem dL_letterOf_5 : decode cL_letterOf 5 = .ok (.invokevirtual 45, 3) := by decide +kernel
theorem dL_letterOf_8 : decode cL_letterOf 8 = .ok (.i2l, 1) := by decide +kernel
theorem dL_letterOf_9 : decode cL_letterOf 9 = .ok (.lastore, 1) := by decide +kernel
theorem dL_letterOf_10 : decode cL_letterOf 10 = .ok (.goto 7, 3) := by decide +kernel
theorem dL_letterOf_13 : decode cL_letterOf 13 = .ok (.astore 4, 2) := by decide +kernel
theorem dL_letterOf_15 : decode cL_letterOf 15 = .ok (.iconst 1, 1) := by decide +kernel
theorem dL_letterOf_16 : decode cL_letterOf 16 = .ok (.ireturn, 1) := by decide +kernel
theorem dL_letterOf_17 : decode cL_letterOf 17 = .ok (.iconst 0, 1) := by decide +kernel
theorem dL_letterOf_18 : decode cL_letterOf 18 = .ok (.ireturn, 1) := by decide +kernel
set_option maxRecDepth 20000 in
theorem ggL_lettersBy_X0_lettersBy : GoodIn wsL_lettersBy wsX0_lettersBy := goodIn_ca (goodIn_r _ [6, 7, 8, 9, 10, 11, 12, 5, 13, 14, 15, 16, 17, 18, 19, 20, 21, 22, 23, 24, 25, 26, 27, 28, 29, 30, 31, 32, 33, 34, 35, 36, 37, 38, 39, 40, 41, 42, 43, 44, 45, 46, 47, 48, 49, 50, 51, 52, 53, 54, 55, 56, 57, 58, 59, 60, 61, 62, 63, 64, 65, 66, 67] (by decide +kernel) (by decide +kernel)) (goodIn_sub (fun _ h => List.mem_cons_of_mem _ (List.mem_append_right _ h)) (by decide +kernel))
set_option maxRecDepth 20000 in
theorem gL_lettersBy_X0_lettersBy : GoodIn wsL_lettersBy (wsV RL 48 RX0 yX0_lettersBy wsX0_lettersBy) := goodIn_app (goodIn_of _ (by decide +kernel)) ggL_lettersBy_X0_lettersBy
theorem dL_lettersBy_0 : decode cL_lettersBy 0 = .ok (.aload_n 3, 1) := by decide +kernel
theorem dL_lettersBy_1 : decode cL_lettersBy 1 = .ok (.iconst 0, 1) := by decide +kernel
theorem dL_lettersBy_2 : decode cL_lettersBy 2 = .ok (.aload_n 0, 1) := by decide +kernel
theorem dL_lettersBy_3 : decode cL_lettersBy 3 = .ok (.iload_n 1, 1) := by decide +kernel
theorem dL_lettersBy_4 : decode cL_lettersBy 4 = .ok (.iload_n 2, 1) := by decide +kernel
theorem dL_lettersBy_5 : decode cL_lettersBy 5 = .ok (.invokevirtual 48, 3) := by decide +kernel
theorem dL_lettersBy_8 : decode cL_lettersBy 8 = .ok (.i2l, 1) := by decide +kernel
theorem dL_lettersBy_9 : decode cL_lettersBy 9 = .ok (.lastore, 1) := by decide +kernel
theorem dL_lettersBy_10 : decode cL_lettersBy 10 = .ok (.goto 7, 3) := by decide +kernel
theorem dL_lettersBy_13 : decode cL_lettersBy 13 = .ok (.astore 4, 2) := by decide +kernel
theorem dL_lettersBy_15 : decode cL_lettersBy 15 = .ok (.iconst 1, 1) := by decide +kernel
theorem dL_lettersBy_16 : decode cL_lettersBy 16 = .ok (.ireturn, 1) := by decide +kernel
theorem dL_lettersBy_17 : decode cL_lettersBy 17 = .ok (.iconst 0, 1) := by decide +kernel
theorem dL_lettersBy_18 : decode cL_lettersBy 18 = .ok (.ireturn, 1) := by decide +kernel
set_option maxRecDepth 20000 in
theorem ggL_authorOf_X0_authorOf : GoodIn wsL_authorOf wsX0_authorOf := goodIn_ca (goodIn_r _ [6, 7, 8, 9, 10, 5, 11, 12, 13, 14, 15, 16, 17, 18, 19, 20, 21, 22, 23, 24, 25, 26, 27, 28, 29, 30, 31, 32] (by decide +kernel) (by decide +kernel)) (goodIn_sub (fun _ h => List.mem_cons_of_mem _ (List.mem_append_right _ h)) (by decide +kernel))
set_option maxRecDepth 20000 in
theorem gL_authorOf_X0_authorOf : GoodIn wsL_authorOf (wsV RL 51 RX0 yX0_authorOf wsX0_authorOf) := goodIn_app (goodIn_of _ (by decide +kernel)) ggL_authorOf_X0_authorOf
theorem dL_authorOf_0 : decode cL_authorOf 0 = .ok (.aload_n 2, 1) := by decide +kernel
theorem dL_authorOf_1 : decode cL_authorOf 1 = .ok (.iconst 0, 1) := by decide +kernel
theorem dL_authorOf_2 : decode cL_authorOf 2 = .ok (.aload_n 0, 1) := by decide +kernel
theorem dL_authorOf_3 : decode cL_authorOf 3 = .ok (.iload_n 1, 1) := by decide +kernel
theorem dL_authorOf_4 : decode cL_authorOf 4 = .ok (.invokevirtual 51, 3) := by decide +kernel
theorem dL_authorOf_7 : decode cL_authorOf 7 = .ok (.i2l, 1) := by decide +kernel
theorem dL_authorOf_8 : decode cL_authorOf 8 = .ok (.lastore, 1) := by decide +kernel
theorem dL_authorOf_9 : decode cL_authorOf 9 = .ok (.goto 6, 3) := by decide +kernel
theorem dL_authorOf_12 : decode cL_authorOf 12 = .ok (.astore_n 3, 1) := by decide +kernel
theorem dL_authorOf_13 : decode cL_authorOf 13 = .ok (.iconst 1, 1) := by decide +kernel
theorem dL_authorOf_14 : decode cL_authorOf 14 = .ok (.ireturn, 1) := by decide +kernel
theorem dL_authorOf_15 : decode cL_authorOf 15 = .ok (.iconst 0, 1) := by decide +kernel
theorem dL_authorOf_16 : decode cL_authorOf 16 = .ok (.ireturn, 1) := by decide +kernel
set_option maxRecDepth 20000 in
theorem ggL_parents_X0_parents : GoodIn wsL_parents wsX0_parents := goodIn_ca (goodIn_r _ [6, 7, 8, 9, 10, 5, 11, 12, 13, 14, 15, 16, 17, 18, 19, 20, 21, 22, 23, 24, 25, 26, 27, 28, 29, 30, 31, 32] (by decide +kernel) (by decide +kernel)) (goodIn_sub (fun _ h => List.mem_cons_of_mem _ (List.mem_append_right _ h)) (by decide +kernel))
set_option maxRecDepth 20000 in
theorem gL_parents_X0_parents : GoodIn wsL_parents (wsV RL 54 RX0 yX0_parents wsX0_parents) := goodIn_app (goodIn_of _ (by decide +kernel)) ggL_parents_X0_parents
theorem dL_parents_0 : decode cL_parents 0 = .ok (.aload_n 2, 1) := by decide +kernel
theorem dL_parents_1 : decode cL_parents 1 = .ok (.iconst 0, 1) := by decide +kernel
theorem dL_parents_2 : decode cL_parents 2 = .ok (.aload_n 0, 1) := by decide +kernel
theorem dL_parents_3 : decode cL_parents 3 = .ok (.iload_n 1, 1) := by decide +kernel
theorem dL_parents_4 : decode cL_parents 4 = .ok (.invokevirtual 54, 3) := by decide +kernel
theorem dL_parents_7 : decode cL_parents 7 = .ok (.lastore, 1) := by decide +kernel
theorem dL_parents_8 : decode cL_parents 8 = .ok (.goto 6, 3) := by decide +kernel
theorem dL_parents_11 : decode cL_parents 11 = .ok (.astore_n 3, 1) := by decide +kernel
theorem dL_parents_12 : decode cL_parents 12 = .ok (.iconst 1, 1) := by decide +kernel
theorem dL_parents_13 : decode cL_parents 13 = .ok (.ireturn, 1) := by decide +kernel
theorem dL_parents_14 : decode cL_parents 14 = .ok (.iconst 0, 1) := by decide +kernel
theorem dL_parents_15 : decode cL_parents 15 = .ok (.ireturn, 1) := by decide +kernel
set_option maxRecDepth 20000 in
theorem ggL_isLater_X0_isLater : GoodIn wsL_isLater wsX0_isLater := goodIn_ca (goodIn_r _ [6, 7, 8, 9, 10, 5, 11, 12, 13, 14, 15, 16, 17, 18, 19, 20, 21, 22, 23, 24, 25, 26, 27, 28, 29, 30, 31, 32, 33, 34, 35, 36, 37, 38] (by decide +kernel) (by decide +kernel)) (goodIn_sub (fun _ h => List.mem_cons_of_mem _ (List.mem_append_right _ h)) (by decide +kernel))
set_option maxRecDepth 20000 in
theorem gL_isLater_X0_isLater : GoodIn wsL_isLater (wsV RL 58 RX0 yX0_isLater wsX0_isLater) := goodIn_app (goodIn_of _ (by decide +kernel)) ggL_isLater_X0_isLater
theorem dL_isLater_0 : decode cL_isLater 0 = .ok (.aload_n 3, 1) := by decide +kernel
theorem dL_isLater_1 : decode cL_isLater 1 = .ok (.iconst 0, 1) := by decide +kernel
theorem dL_isLater_2 : decode cL_isLater 2 = .ok (.aload_n 0, 1) := by decide +kernel
theorem dL_isLater_3 : decode cL_isLater 3 = .ok (.iload_n 1, 1) := by decide +kernel
theorem dL_isLater_4 : decode cL_isLater 4 = .ok (.iload_n 2, 1) := by decide +kernel
theorem dL_isLater_5 : decode cL_isLater 5 = .ok (.invokevirtual 58, 3) := by decide +kernel
theorem dL_isLater_8 : decode cL_isLater 8 = .ok (.ifCond .eq 7, 3) := by decide +kernel
theorem dL_isLater_11 : decode cL_isLater 11 = .ok (.lconst 1, 1) := by decide +kernel
theorem dL_isLater_12 : decode cL_isLater 12 = .ok (.goto 4, 3) := by decide +kernel
theorem dL_isLater_15 : decode cL_isLater 15 = .ok (.lconst 0, 1) := by decide +kernel
theorem dL_isLater_16 : decode cL_isLater 16 = .ok (.lastore, 1) := by decide +kernel
theorem dL_isLater_17 : decode cL_isLater 17 = .ok (.goto 7, 3) := by decide +kernel
theorem dL_isLater_20 : decode cL_isLater 20 = .ok (.astore 4, 2) := by decide +kernel
theorem dL_isLater_22 : decode cL_isLater 22 = .ok (.iconst 1, 1) := by decide +kernel
theorem dL_isLater_23 : decode cL_isLater 23 = .ok (.ireturn, 1) := by decide +kernel
theorem dL_isLater_24 : decode cL_isLater 24 = .ok (.iconst 0, 1) := by decide +kernel
theorem dL_isLater_25 : decode cL_isLater 25 = .ok (.ireturn, 1) := by decide +kernel
set_option maxRecDepth 20000 in
theorem ggL_version_X0_version : GoodIn wsL_version wsX0_version := goodIn_ca (goodIn_r _ [6, 7, 8, 9, 10, 5, 11, 12, 13, 14, 15, 16, 17, 18, 19, 20, 21, 22, 23, 24, 25, 26, 27] (by decide +kernel) (by decide +kernel)) (goodIn_sub (fun _ h => List.mem_cons_of_mem _ (List.mem_append_right _ h)) (by decide +kernel))
set_option maxRecDepth 20000 in
theorem gL_version_X0_version : GoodIn wsL_version (wsV RL 62 RX0 yX0_version wsX0_version) := goodIn_app (goodIn_of _ (by decide +kernel)) ggL_version_X0_version
theorem dL_version_0 : decode cL_version 0 = .ok (.aload_n 2, 1) := by decide +kernel
theorem dL_version_1 : decode cL_version 1 = .ok (.iconst 0, 1) := by decide +kernel
theorem dL_version_2 : decode cL_version 2 = .ok (.aload_n 0, 1) := by decide +kernel
theorem dL_version_3 : decode cL_version 3 = .ok (.iload_n 1, 1) := by decide +kernel
theorem dL_version_4 : decode cL_version 4 = .ok (.invokevirtual 62, 3) := by decide +kernel
theorem dL_version_7 : decode cL_version 7 = .ok (.lastore, 1) := by decide +kernel
theorem dL_version_8 : decode cL_version 8 = .ok (.goto 6, 3) := by decide +kernel
theorem dL_version_11 : decode cL_version 11 = .ok (.astore_n 3, 1) := by decide +kernel
theorem dL_version_12 : decode cL_version 12 = .ok (.iconst 1, 1) := by decide +kernel
theorem dL_version_13 : decode cL_version 13 = .ok (.ireturn, 1) := by decide +kernel
theorem dL_version_14 : decode cL_version 14 = .ok (.iconst 0, 1) := by decide +kernel
theorem dL_version_15 : decode cL_version 15 = .ok (.ireturn, 1) := by decide +kernel
set_option maxRecDepth 20000 in
theorem ggL_heads_X0_heads : GoodIn wsL_heads wsX0_heads := goodIn_ca (goodIn_r _ [6, 7, 8, 9, 10, 5, 11, 12, 13, 14, 15, 16, 17, 18, 19, 20, 21, 22, 23, 24, 25, 26, 27, 28, 29, 30, 31, 32, 33, 34, 35, 36, 37, 38, 39, 40] (by decide +kernel) (by decide +kernel)) (goodIn_sub (fun _ h => List.mem_cons_of_mem _ (List.mem_append_right _ h)) (by decide +kernel))
set_option maxRecDepth 20000 in
theorem gL_heads_X0_heads : GoodIn wsL_heads (wsV RL 65 RX0 yX0_heads wsX0_heads) := goodIn_app (goodIn_of _ (by decide +kernel)) ggL_heads_X0_heads
theorem dL_heads_0 : decode cL_heads 0 = .ok (.aload_n 2, 1) := by decide +kernel
theorem dL_heads_1 : decode cL_heads 1 = .ok (.iconst 0, 1) := by decide +kernel
theorem dL_heads_2 : decode cL_heads 2 = .ok (.aload_n 0, 1) := by decide +kernel
theorem dL_heads_3 : decode cL_heads 3 = .ok (.iload_n 1, 1) := by decide +kernel
theorem dL_heads_4 : decode cL_heads 4 = .ok (.invokevirtual 65, 3) := by decide +kernel
theorem dL_heads_7 : decode cL_heads 7 = .ok (.lastore, 1) := by decide +kernel
theorem dL_heads_8 : decode cL_heads 8 = .ok (.goto 6, 3) := by decide +kernel
theorem dL_heads_11 : decode cL_heads 11 = .ok (.astore_n 3, 1) := by decide +kernel
theorem dL_heads_12 : decode cL_heads 12 = .ok (.iconst 1, 1) := by decide +kernel
theorem dL_heads_13 : decode cL_heads 13 = .ok (.ireturn, 1) := by decide +kernel
theorem dL_heads_14 : decode cL_heads 14 = .ok (.iconst 0, 1) := by decide +kernel
theorem dL_heads_15 : decode cL_heads 15 = .ok (.ireturn, 1) := by decide +kernel
set_option maxRecDepth 20000 in
theorem ggL_commonHeads_X0_commonHeads : GoodIn wsL_commonHeads wsX0_commonHeads := goodIn_ca (goodIn_r _ [6, 7, 8, 9, 10, 5, 11, 12, 13, 14, 15, 16, 17, 18, 19, 20, 21, 22, 23, 24, 25, 26, 27, 28, 29, 30, 31, 32, 33, 34, 35, 36, 37, 38, 39, 40] (by decide +kernel) (by decide +kernel)) (goodIn_sub (fun _ h => List.mem_cons_of_mem _ (List.mem_append_right _ h)) (by decide +kernel))
set_option maxRecDepth 20000 in
theorem gL_commonHeads_X0_commonHeads : GoodIn wsL_commonHeads (wsV RL 68 RX0 yX0_commonHeads wsX0_commonHeads) := goodIn_app (goodIn_of _ (by decide +kernel)) ggL_commonHeads_X0_commonHeads
theorem dL_commonHeads_0 : decode cL_commonHeads 0 = .ok (.aload_n 3, 1) := by decide +kernel
theorem dL_commonHeads_1 : decode cL_commonHeads 1 = .ok (.iconst 0, 1) := by decide +kernel
theorem dL_commonHeads_2 : decode cL_commonHeads 2 = .ok (.aload_n 0, 1) := by decide +kernel
theorem dL_commonHeads_3 : decode cL_commonHeads 3 = .ok (.iload_n 1, 1) := by decide +kernel
theorem dL_commonHeads_4 : decode cL_commonHeads 4 = .ok (.iload_n 2, 1) := by decide +kernel
theorem dL_commonHeads_5 : decode cL_commonHeads 5 = .ok (.invokevirtual 68, 3) := by decide +kernel
theorem dL_commonHeads_8 : decode cL_commonHeads 8 = .ok (.lastore, 1) := by decide +kernel
theorem dL_commonHeads_9 : decode cL_commonHeads 9 = .ok (.goto 7, 3) := by decide +kernel
theorem dL_commonHeads_12 : decode cL_commonHeads 12 = .ok (.astore 4, 2) := by decide +kernel
theorem dL_commonHeads_14 : decode cL_commonHeads 14 = .ok (.iconst 1, 1) := by decide +kernel
theorem dL_commonHeads_15 : decode cL_commonHeads 15 = .ok (.ireturn, 1) := by decide +kernel
theorem dL_commonHeads_16 : decode cL_commonHeads 16 = .ok (.iconst 0, 1) := by decide +kernel
theorem dL_commonHeads_17 : decode cL_commonHeads 17 = .ok (.ireturn, 1) := by decide +kernel
set_option maxRecDepth 20000 in
theorem ggL_concurrent_X0_concurrent : GoodIn wsL_concurrent wsX0_concurrent := goodIn_ca (goodIn_r _ [6, 7, 8, 9, 10, 11, 12, 5, 13, 14, 15, 16, 17, 18, 19, 20, 21, 22, 23, 24, 25, 26, 27, 28, 29, 30, 31, 32, 33, 34, 35, 36, 37, 38, 39, 40, 41, 42, 43, 44, 45, 46, 47, 48, 49, 50, 51, 52] (by decide +kernel) (by decide +kernel)) (goodIn_sub (fun _ h => List.mem_cons_of_mem _ (List.mem_append_right _ h)) (by decide +kernel))
set_option maxRecDepth 20000 in
theorem gL_concurrent_X0_concurrent : GoodIn wsL_concurrent (wsV RL 72 RX0 yX0_concurrent wsX0_concurrent) := goodIn_app (goodIn_of _ (by decide +kernel)) ggL_concurrent_X0_concurrent
theorem dL_concurrent_0 : decode cL_concurrent 0 = .ok (.aload_n 2, 1) := by decide +kernel
theorem dL_concurrent_1 : decode cL_concurrent 1 = .ok (.iconst 0, 1) := by decide +kernel
theorem dL_concurrent_2 : decode cL_concurrent 2 = .ok (.aload_n 0, 1) := by decide +kernel
theorem dL_concurrent_3 : decode cL_concurrent 3 = .ok (.iload_n 1, 1) := by decide +kernel
theorem dL_concurrent_4 : decode cL_concurrent 4 = .ok (.invokevirtual 72, 3) := by decide +kernel
theorem dL_concurrent_7 : decode cL_concurrent 7 = .ok (.i2l, 1) := by decide +kernel
theorem dL_concurrent_8 : decode cL_concurrent 8 = .ok (.lastore, 1) := by decide +kernel
theorem dL_concurrent_9 : decode cL_concurrent 9 = .ok (.goto 6, 3) := by decide +kernel
theorem dL_concurrent_12 : decode cL_concurrent 12 = .ok (.astore_n 3, 1) := by decide +kernel
theorem dL_concurrent_13 : decode cL_concurrent 13 = .ok (.iconst 1, 1) := by decide +kernel
theorem dL_concurrent_14 : decode cL_concurrent 14 = .ok (.ireturn, 1) := by decide +kernel
theorem dL_concurrent_15 : decode cL_concurrent 15 = .ok (.iconst 0, 1) := by decide +kernel
theorem dL_concurrent_16 : decode cL_concurrent 16 = .ok (.ireturn, 1) := by decide +kernel
set_option maxRecDepth 20000 in
theorem ggL_critical_X0_critical : GoodIn wsL_critical wsX0_critical := goodIn_ca (goodIn_r _ [6, 7, 8, 9, 10, 5, 11, 12, 13, 14, 15, 16, 17, 18, 19, 20, 21, 22, 23, 24, 25, 26, 27, 28, 29, 30, 31, 32, 33, 34, 35, 36, 37, 38, 39, 40, 41, 42, 43, 44, 45, 46, 47, 48, 49] (by decide +kernel) (by decide +kernel)) (goodIn_sub (fun _ h => List.mem_cons_of_mem _ (List.mem_append_right _ h)) (by decide +kernel))
set_option maxRecDepth 20000 in
theorem gL_critical_X0_critical : GoodIn wsL_critical (wsV RL 75 RX0 yX0_critical wsX0_critical) := goodIn_app (goodIn_of _ (by decide +kernel)) ggL_critical_X0_critical
theorem dL_critical_0 : decode cL_critical 0 = .ok (.aload_n 2, 1) := by decide +kernel
theorem dL_critical_1 : decode cL_critical 1 = .ok (.iconst 0, 1) := by decide +kernel
theorem dL_critical_2 : decode cL_critical 2 = .ok (.aload_n 0, 1) := by decide +kernel
theorem dL_critical_3 : decode cL_critical 3 = .ok (.iload_n 1, 1) := by decide +kernel
theorem dL_critical_4 : decode cL_critical 4 = .ok (.invokevirtual 75, 3) := by decide +kernel
theorem dL_critical_7 : decode cL_critical 7 = .ok (.lastore, 1) := by decide +kernel
theorem dL_critical_8 : decode cL_critical 8 = .ok (.goto 6, 3) := by decide +kernel
theorem dL_critical_11 : decode cL_critical 11 = .ok (.astore_n 3, 1) := by decide +kernel
theorem dL_critical_12 : decode cL_critical 12 = .ok (.iconst 1, 1) := by decide +kernel
theorem dL_critical_13 : decode cL_critical 13 = .ok (.ireturn, 1) := by decide +kernel
theorem dL_critical_14 : decode cL_critical 14 = .ok (.iconst 0, 1) := by decide +kernel
theorem dL_critical_15 : decode cL_critical 15 = .ok (.ireturn, 1) := by decide +kernel
set_option maxRecDepth 20000 in
theorem ggL_toReplay_X0_toReplay : GoodIn wsL_toReplay wsX0_toReplay := goodIn_ca (goodIn_r _ [6, 7, 8, 9, 10, 11, 12, 5, 13, 14, 15, 16, 17, 18, 19, 20, 21, 22, 23, 24, 25, 26, 27, 28, 29, 30, 31, 32, 33, 34, 35, 36, 37, 38, 39, 40, 41, 42, 43, 44, 45, 46, 47, 48, 49, 50, 51, 52, 53, 54, 55, 56] (by decide +kernel) (by decide +kernel)) (goodIn_sub (fun _ h => List.mem_cons_of_mem _ (List.mem_append_right _ h)) (by decide +kernel))
set_option maxRecDepth 20000 in
theorem gL_toReplay_X0_toReplay : GoodIn wsL_toReplay (wsV RL 78 RX0 yX0_toReplay wsX0_toReplay) := goodIn_app (goodIn_of _ (by decide +kernel)) ggL_toReplay_X0_toReplay
theorem dL_toReplay_0 : decode cL_toReplay 0 = .ok (.aload_n 2, 1) := by decide +kernel
theorem dL_toReplay_1 : decode cL_toReplay 1 = .ok (.iconst 0, 1) := by decide +kernel
theorem dL_toReplay_2 : decode cL_toReplay 2 = .ok (.aload_n 0, 1) := by decide +kernel
theorem dL_toReplay_3 : decode cL_toReplay 3 = .ok (.iload_n 1, 1) := by decide +kernel
theorem dL_toReplay_4 : decode cL_toReplay 4 = .ok (.invokevirtual 78, 3) := by decide +kernel
theorem dL_toReplay_7 : decode cL_toReplay 7 = .ok (.i2l, 1) := by decide +kernel
theorem dL_toReplay_8 : decode cL_toReplay 8 = .ok (.lastore, 1) := by decide +kernel
theorem dL_toReplay_9 : decode cL_toReplay 9 = .ok (.goto 6, 3) := by decide +kernel
theorem dL_toReplay_12 : decode cL_toReplay 12 = .ok (.astore_n 3, 1) := by decide +kernel
theorem dL_toReplay_13 : decode cL_toReplay 13 = .ok (.iconst 1, 1) := by decide +kernel
theorem dL_toReplay_14 : decode cL_toReplay 14 = .ok (.ireturn, 1) := by decide +kernel
theorem dL_toReplay_15 : decode cL_toReplay 15 = .ok (.iconst 0, 1) := by decide +kernel
theorem dL_toReplay_16 : decode cL_toReplay 16 = .ok (.ireturn, 1) := by decide +kernel
set_option maxRecDepth 20000 in
theorem ggL_runs_X0_runs : GoodIn wsL_runs wsX0_runs := goodIn_ca (goodIn_r _ [6, 7, 8, 9, 10, 11, 5, 12, 13, 14, 15, 16, 17, 18, 19, 20, 21, 22, 23, 24, 25, 26, 27, 28, 29, 30, 31, 32, 33, 34, 35, 36, 37, 38, 39, 40, 41, 42, 43, 44, 45, 46, 47, 48, 49, 50] (by decide +kernel) (by decide +kernel)) (goodIn_sub (fun _ h => List.mem_cons_of_mem _ (List.mem_append_right _ h)) (by decide +kernel))
set_option maxRecDepth 20000 in
theorem gL_runs_X0_runs : GoodIn wsL_runs (wsV RL 81 RX0 yX0_runs wsX0_runs) := goodIn_app (goodIn_of _ (by decide +kernel)) ggL_runs_X0_runs
theorem dL_runs_0 : decode cL_runs 0 = .ok (.aload_n 2, 1) := by decide +kernel
theorem dL_runs_1 : decode cL_runs 1 = .ok (.iconst 0, 1) := by decide +kernel
theorem dL_runs_2 : decode cL_runs 2 = .ok (.aload_n 0, 1) := by decide +kernel
theorem dL_runs_3 : decode cL_runs 3 = .ok (.iload_n 1, 1) := by decide +kernel
theorem dL_runs_4 : decode cL_runs 4 = .ok (.invokevirtual 81, 3) := by decide +kernel
theorem dL_runs_7 : decode cL_runs 7 = .ok (.i2l, 1) := by decide +kernel
theorem dL_runs_8 : decode cL_runs 8 = .ok (.lastore, 1) := by decide +kernel
theorem dL_runs_9 : decode cL_runs 9 = .ok (.goto 6, 3) := by decide +kernel
theorem dL_runs_12 : decode cL_runs 12 = .ok (.astore_n 3, 1) := by decide +kernel
theorem dL_runs_13 : decode cL_runs 13 = .ok (.iconst 1, 1) := by decide +kernel
theorem dL_runs_14 : decode cL_runs 14 = .ok (.ireturn, 1) := by decide +kernel
theorem dL_runs_15 : decode cL_runs 15 = .ok (.iconst 0, 1) := by decide +kernel
theorem dL_runs_16 : decode cL_runs 16 = .ok (.ireturn, 1) := by decide +kernel

theorem dX0_init_0 : decode cX0_init 0 = .ok (.aload_n 0, 1) := by decide +kernel
theorem dX0_init_1 : decode cX0_init 1 = .ok (.invokespecial 1, 3) := by decide +kernel
theorem dX0_init_4 : decode cX0_init 4 = .ok (.aload_n 0, 1) := by decide +kernel
theorem dX0_init_5 : decode cX0_init 5 = .ok (.iconst 0, 1) := by decide +kernel
theorem dX0_init_6 : decode cX0_init 6 = .ok (.putfield 7, 3) := by decide +kernel
theorem dX0_init_9 : decode cX0_init 9 = .ok (.aload_n 0, 1) := by decide +kernel
theorem dX0_init_10 : decode cX0_init 10 = .ok (.bipush 60, 2) := by decide +kernel
theorem dX0_init_12 : decode cX0_init 12 = .ok (.newarray .int, 2) := by decide +kernel
theorem dX0_init_14 : decode cX0_init 14 = .ok (.putfield 13, 3) := by decide +kernel
theorem dX0_init_17 : decode cX0_init 17 = .ok (.aload_n 0, 1) := by decide +kernel
theorem dX0_init_18 : decode cX0_init 18 = .ok (.bipush 60, 2) := by decide +kernel
theorem dX0_init_20 : decode cX0_init 20 = .ok (.newarray .int, 2) := by decide +kernel
theorem dX0_init_22 : decode cX0_init 22 = .ok (.putfield 17, 3) := by decide +kernel
theorem dX0_init_25 : decode cX0_init 25 = .ok (.aload_n 0, 1) := by decide +kernel
theorem dX0_init_26 : decode cX0_init 26 = .ok (.bipush 60, 2) := by decide +kernel
theorem dX0_init_28 : decode cX0_init 28 = .ok (.newarray .int, 2) := by decide +kernel
theorem dX0_init_30 : decode cX0_init 30 = .ok (.putfield 20, 3) := by decide +kernel
theorem dX0_init_33 : decode cX0_init 33 = .ok (.aload_n 0, 1) := by decide +kernel
theorem dX0_init_34 : decode cX0_init 34 = .ok (.bipush 60, 2) := by decide +kernel
theorem dX0_init_36 : decode cX0_init 36 = .ok (.newarray .long, 2) := by decide +kernel
theorem dX0_init_38 : decode cX0_init 38 = .ok (.putfield 23, 3) := by decide +kernel
theorem dX0_init_41 : decode cX0_init 41 = .ok (.aload_n 0, 1) := by decide +kernel
theorem dX0_init_42 : decode cX0_init 42 = .ok (.bipush 60, 2) := by decide +kernel
theorem dX0_init_44 : decode cX0_init 44 = .ok (.newarray .long, 2) := by decide +kernel
theorem dX0_init_46 : decode cX0_init 46 = .ok (.putfield 27, 3) := by decide +kernel
theorem dX0_init_49 : decode cX0_init 49 = .ok (.aload_n 0, 1) := by decide +kernel
theorem dX0_init_50 : decode cX0_init 50 = .ok (.bipush 60, 2) := by decide +kernel
theorem dX0_init_52 : decode cX0_init 52 = .ok (.newarray .long, 2) := by decide +kernel
theorem dX0_init_54 : decode cX0_init 54 = .ok (.putfield 30, 3) := by decide +kernel
theorem dX0_init_57 : decode cX0_init 57 = .ok (.aload_n 0, 1) := by decide +kernel
theorem dX0_init_58 : decode cX0_init 58 = .ok (.iconst 4, 1) := by decide +kernel
theorem dX0_init_59 : decode cX0_init 59 = .ok (.newarray .long, 2) := by decide +kernel
theorem dX0_init_61 : decode cX0_init 61 = .ok (.putfield 33, 3) := by decide +kernel
theorem dX0_init_64 : decode cX0_init 64 = .ok (.aload_n 0, 1) := by decide +kernel
theorem dX0_init_65 : decode cX0_init 65 = .ok (.iconst (-1), 1) := by decide +kernel
theorem dX0_init_66 : decode cX0_init 66 = .ok (.putfield 36, 3) := by decide +kernel
theorem dX0_init_69 : decode cX0_init 69 = .ok (.aload_n 0, 1) := by decide +kernel
theorem dX0_init_70 : decode cX0_init 70 = .ok (.bipush 60, 2) := by decide +kernel
theorem dX0_init_72 : decode cX0_init 72 = .ok (.newarray .int, 2) := by decide +kernel
theorem dX0_init_74 : decode cX0_init 74 = .ok (.putfield 39, 3) := by decide +kernel
theorem dX0_init_77 : decode cX0_init 77 = .ok (.aload_n 0, 1) := by decide +kernel
theorem dX0_init_78 : decode cX0_init 78 = .ok (.bipush 60, 2) := by decide +kernel
theorem dX0_init_80 : decode cX0_init 80 = .ok (.newarray .int, 2) := by decide +kernel
theorem dX0_init_82 : decode cX0_init 82 = .ok (.putfield 42, 3) := by decide +kernel
theorem dX0_init_85 : decode cX0_init 85 = .ok (.aload_n 0, 1) := by decide +kernel
theorem dX0_init_86 : decode cX0_init 86 = .ok (.bipush 60, 2) := by decide +kernel
theorem dX0_init_88 : decode cX0_init 88 = .ok (.newarray .int, 2) := by decide +kernel
theorem dX0_init_90 : decode cX0_init 90 = .ok (.putfield 45, 3) := by decide +kernel
theorem dX0_init_93 : decode cX0_init 93 = .ok (.aload_n 0, 1) := by decide +kernel
theorem dX0_init_94 : decode cX0_init 94 = .ok (.bipush 60, 2) := by decide +kernel
theorem dX0_init_96 : decode cX0_init 96 = .ok (.newarray .int, 2) := by decide +kernel
theorem dX0_init_98 : decode cX0_init 98 = .ok (.putfield 48, 3) := by decide +kernel
theorem dX0_init_101 : decode cX0_init 101 = .ok (.aload_n 0, 1) := by decide +kernel
theorem dX0_init_102 : decode cX0_init 102 = .ok (.bipush 60, 2) := by decide +kernel
theorem dX0_init_104 : decode cX0_init 104 = .ok (.newarray .int, 2) := by decide +kernel
theorem dX0_init_106 : decode cX0_init 106 = .ok (.putfield 51, 3) := by decide +kernel
theorem dX0_init_109 : decode cX0_init 109 = .ok (.return_, 1) := by decide +kernel
set_option maxRecDepth 20000 in
theorem ggX0_insert_X0_checkAuthor : GoodIn wsX0_insert wsX0_checkAuthor := goodIn_ca (goodIn_r _ [9, 10, 11] (by decide +kernel) (by decide +kernel)) (goodIn_sub (fun _ h => List.mem_cons_of_mem _ (List.mem_append_left _ (List.mem_append_right _ h))) (by decide +kernel))
set_option maxRecDepth 20000 in
theorem gX0_insert_X0_checkAuthor : GoodIn wsX0_insert (wsV RX0 54 RX0 yX0_checkAuthor wsX0_checkAuthor) := goodIn_app (goodIn_of _ (by decide +kernel)) ggX0_insert_X0_checkAuthor
set_option maxRecDepth 20000 in
theorem ggX0_insert_X0_findText : GoodIn wsX0_insert wsX0_findText := goodIn_r _ [15, 16, 17, 18, 19, 20, 21, 22, 8, 23, 24, 25, 26, 27, 28, 29, 30, 31, 32, 33, 34, 35, 36, 37, 38, 39, 40, 41, 42, 43, 44, 45, 46, 47, 48, 49, 4, 80, 81, 82, 83, 84, 85, 86, 87, 88, 89, 90, 91, 92, 93] (by decide +kernel) (by decide +kernel)
set_option maxRecDepth 20000 in
theorem gX0_insert_X0_findText : GoodIn wsX0_insert (wsV RX0 58 RX0 yX0_findText wsX0_findText) := goodIn_app (goodIn_of _ (by decide +kernel)) ggX0_insert_X0_findText
set_option maxRecDepth 20000 in
theorem ggX0_insert_X0_checkPlace : GoodIn wsX0_insert wsX0_checkPlace := goodIn_ca (goodIn_r _ [53, 10, 11] (by decide +kernel) (by decide +kernel)) (goodIn_sub (fun _ h => List.mem_cons_of_mem _ (List.mem_append_left _ (List.mem_append_right _ h))) (by decide +kernel))
set_option maxRecDepth 20000 in
theorem gX0_insert_X0_checkPlace : GoodIn wsX0_insert (wsV RX0 62 RX0 yX0_checkPlace wsX0_checkPlace) := goodIn_app (goodIn_of _ (by decide +kernel)) ggX0_insert_X0_checkPlace
set_option maxRecDepth 20000 in
theorem ggX0_insert_X0_checkRoom : GoodIn wsX0_insert wsX0_checkRoom := goodIn_ca (goodIn_r _ [57, 58, 59, 24, 80, 81, 82, 83, 84, 85, 86, 87, 88, 89, 90, 91, 92, 93] (by decide +kernel) (by decide +kernel)) (goodIn_sub (fun _ h => List.mem_cons_of_mem _ (List.mem_append_right _ h)) (by decide +kernel))
set_option maxRecDepth 20000 in
theorem gX0_insert_X0_checkRoom : GoodIn wsX0_insert (wsV RX0 73 RX0 yX0_checkRoom wsX0_checkRoom) := goodIn_app (goodIn_of _ (by decide +kernel)) ggX0_insert_X0_checkRoom
set_option maxRecDepth 20000 in
theorem ggX0_insert_X0_addEvent : GoodIn wsX0_insert wsX0_addEvent := goodIn_r _ [63, 24, 3, 64, 37, 25, 65, 66, 67, 68, 69, 8, 70, 26, 27, 28, 29, 30, 31, 32, 71, 72, 73, 74, 75, 80, 81, 82, 83, 84, 85, 86, 87, 88, 89, 90, 91, 92, 93] (by decide +kernel) (by decide +kernel)
set_option maxRecDepth 20000 in
theorem gX0_insert_X0_addEvent : GoodIn wsX0_insert (wsV RX0 76 RX0 yX0_addEvent wsX0_addEvent) := goodIn_app (goodIn_of _ (by decide +kernel)) ggX0_insert_X0_addEvent
set_option maxRecDepth 20000 in
theorem ggX0_insert_X0_hangLetter : GoodIn wsX0_insert wsX0_hangLetter := goodIn_r _ [79, 19, 18, 16, 42, 43, 44, 8, 45, 24, 80, 81, 82, 83, 84, 85, 86, 87, 88, 89, 90, 91, 92, 93] (by decide +kernel) (by decide +kernel)
set_option maxRecDepth 20000 in
theorem gX0_insert_X0_hangLetter : GoodIn wsX0_insert (wsV RX0 80 RX0 yX0_hangLetter wsX0_hangLetter) := goodIn_app (goodIn_of _ (by decide +kernel)) ggX0_insert_X0_hangLetter
theorem dX0_insert_0 : decode cX0_insert 0 = .ok (.aload_n 0, 1) := by decide +kernel
theorem dX0_insert_1 : decode cX0_insert 1 = .ok (.iload_n 1, 1) := by decide +kernel
theorem dX0_insert_2 : decode cX0_insert 2 = .ok (.invokevirtual 54, 3) := by decide +kernel
theorem dX0_insert_5 : decode cX0_insert 5 = .ok (.aload_n 0, 1) := by decide +kernel
theorem dX0_insert_6 : decode cX0_insert 6 = .ok (.aload_n 0, 1) := by decide +kernel
theorem dX0_insert_7 : decode cX0_insert 7 = .ok (.getfield 33, 3) := by decide +kernel
theorem dX0_insert_10 : decode cX0_insert 10 = .ok (.iload_n 1, 1) := by decide +kernel
theorem dX0_insert_11 : decode cX0_insert 11 = .ok (.laload, 1) := by decide +kernel
theorem dX0_insert_12 : decode cX0_insert 12 = .ok (.invokevirtual 58, 3) := by decide +kernel
theorem dX0_insert_15 : decode cX0_insert 15 = .ok (.istore 4, 2) := by decide +kernel
theorem dX0_insert_17 : decode cX0_insert 17 = .ok (.aload_n 0, 1) := by decide +kernel
theorem dX0_insert_18 : decode cX0_insert 18 = .ok (.iload_n 2, 1) := by decide +kernel
theorem dX0_insert_19 : decode cX0_insert 19 = .ok (.iload 4, 2) := by decide +kernel
theorem dX0_insert_21 : decode cX0_insert 21 = .ok (.iconst 1, 1) := by decide +kernel
theorem dX0_insert_22 : decode cX0_insert 22 = .ok (.iadd, 1) := by decide +kernel
theorem dX0_insert_23 : decode cX0_insert 23 = .ok (.invokevirtual 62, 3) := by decide +kernel
theorem dX0_insert_26 : decode cX0_insert 26 = .ok (.iload_n 3, 1) := by decide +kernel
theorem dX0_insert_27 : decode cX0_insert 27 = .ok (.ifCond .lt 9, 3) := by decide +kernel
theorem dX0_insert_30 : decode cX0_insert 30 = .ok (.iload_n 3, 1) := by decide +kernel
theorem dX0_insert_31 : decode cX0_insert 31 = .ok (.bipush 26, 2) := by decide +kernel
theorem dX0_insert_33 : decode cX0_insert 33 = .ok (.if_icmp .lt 13, 3) := by decide +kernel
theorem dX0_insert_36 : decode cX0_insert 36 = .ok (.new 66, 3) := by decide +kernel
theorem dX0_insert_39 : decode cX0_insert 39 = .ok (.dup, 1) := by decide +kernel
theorem dX0_insert_40 : decode cX0_insert 40 = .ok (.ldc 68, 2) := by decide +kernel
theorem dX0_insert_42 : decode cX0_insert 42 = .ok (.invokespecial 70, 3) := by decide +kernel
theorem dX0_insert_45 : decode cX0_insert 45 = .ok (.athrow, 1) := by decide +kernel
theorem dX0_insert_46 : decode cX0_insert 46 = .ok (.aload_n 0, 1) := by decide +kernel
theorem dX0_insert_47 : decode cX0_insert 47 = .ok (.invokevirtual 73, 3) := by decide +kernel
theorem dX0_insert_50 : decode cX0_insert 50 = .ok (.iload_n 2, 1) := by decide +kernel
theorem dX0_insert_51 : decode cX0_insert 51 = .ok (.ifCond .ne 7, 3) := by decide +kernel
theorem dX0_insert_54 : decode cX0_insert 54 = .ok (.iconst (-1), 1) := by decide +kernel
theorem dX0_insert_55 : decode cX0_insert 55 = .ok (.goto 11, 3) := by decide +kernel
theorem dX0_insert_58 : decode cX0_insert 58 = .ok (.aload_n 0, 1) := by decide +kernel
theorem dX0_insert_59 : decode cX0_insert 59 = .ok (.getfield 45, 3) := by decide +kernel
theorem dX0_insert_62 : decode cX0_insert 62 = .ok (.iload_n 2, 1) := by decide +kernel
theorem dX0_insert_63 : decode cX0_insert 63 = .ok (.iconst 1, 1) := by decide +kernel
theorem dX0_insert_64 : decode cX0_insert 64 = .ok (.isub, 1) := by decide +kernel
theorem dX0_insert_65 : decode cX0_insert 65 = .ok (.iaload, 1) := by decide +kernel
theorem dX0_insert_66 : decode cX0_insert 66 = .ok (.istore 5, 2) := by decide +kernel
theorem dX0_insert_68 : decode cX0_insert 68 = .ok (.aload_n 0, 1) := by decide +kernel
theorem dX0_insert_69 : decode cX0_insert 69 = .ok (.iload_n 1, 1) := by decide +kernel
theorem dX0_insert_70 : decode cX0_insert 70 = .ok (.iload_n 3, 1) := by decide +kernel
theorem dX0_insert_71 : decode cX0_insert 71 = .ok (.iload 5, 2) := by decide +kernel
theorem dX0_insert_73 : decode cX0_insert 73 = .ok (.invokevirtual 76, 3) := by decide +kernel
theorem dX0_insert_76 : decode cX0_insert 76 = .ok (.istore 6, 2) := by decide +kernel
theorem dX0_insert_78 : decode cX0_insert 78 = .ok (.aload_n 0, 1) := by decide +kernel
theorem dX0_insert_79 : decode cX0_insert 79 = .ok (.iload 6, 2) := by decide +kernel
theorem dX0_insert_81 : decode cX0_insert 81 = .ok (.iload 5, 2) := by decide +kernel
theorem dX0_insert_83 : decode cX0_insert 83 = .ok (.invokevirtual 80, 3) := by decide +kernel
theorem dX0_insert_86 : decode cX0_insert 86 = .ok (.iload 6, 2) := by decide +kernel
theorem dX0_insert_88 : decode cX0_insert 88 = .ok (.ireturn, 1) := by decide +kernel
set_option maxRecDepth 20000 in
theorem ggX0_delete_X0_checkAuthor : GoodIn wsX0_delete wsX0_checkAuthor := goodIn_ca (goodIn_r _ [7, 8, 9] (by decide +kernel) (by decide +kernel)) (goodIn_sub (fun _ h => List.mem_cons_of_mem _ (List.mem_append_left _ (List.mem_append_right _ h))) (by decide +kernel))
set_option maxRecDepth 20000 in
theorem gX0_delete_X0_checkAuthor : GoodIn wsX0_delete (wsV RX0 54 RX0 yX0_checkAuthor wsX0_checkAuthor) := goodIn_app (goodIn_of _ (by decide +kernel)) ggX0_delete_X0_checkAuthor
set_option maxRecDepth 20000 in
theorem ggX0_delete_X0_findText : GoodIn wsX0_delete wsX0_findText := goodIn_r _ [13, 14, 15, 16, 17, 18, 19, 20, 6, 21, 22, 23, 24, 25, 26, 27, 28, 29, 30, 31, 32, 33, 34, 35, 36, 37, 38, 39, 40, 41, 42, 43, 44, 45, 46, 47, 2, 74, 75, 76, 77, 78, 79, 80, 81, 82, 83, 84, 85, 86, 87] (by decide +kernel) (by decide +kernel)
set_option maxRecDepth 20000 in
theorem gX0_delete_X0_findText : GoodIn wsX0_delete (wsV RX0 58 RX0 yX0_findText wsX0_findText) := goodIn_app (goodIn_of _ (by decide +kernel)) ggX0_delete_X0_findText
set_option maxRecDepth 20000 in
theorem ggX0_delete_X0_checkPlace : GoodIn wsX0_delete wsX0_checkPlace := goodIn_ca (goodIn_r _ [51, 8, 9] (by decide +kernel) (by decide +kernel)) (goodIn_sub (fun _ h => List.mem_cons_of_mem _ (List.mem_append_left _ (List.mem_append_right _ h))) (by decide +kernel))
set_option maxRecDepth 20000 in
theorem gX0_delete_X0_checkPlace : GoodIn wsX0_delete (wsV RX0 62 RX0 yX0_checkPlace wsX0_checkPlace) := goodIn_app (goodIn_of _ (by decide +kernel)) ggX0_delete_X0_checkPlace
set_option maxRecDepth 20000 in
theorem ggX0_delete_X0_checkRoom : GoodIn wsX0_delete wsX0_checkRoom := goodIn_ca (goodIn_r _ [55, 56, 57, 22, 74, 75, 76, 77, 78, 79, 80, 81, 82, 83, 84, 85, 86, 87] (by decide +kernel) (by decide +kernel)) (goodIn_sub (fun _ h => List.mem_cons_of_mem _ (List.mem_append_right _ h)) (by decide +kernel))
set_option maxRecDepth 20000 in
theorem gX0_delete_X0_checkRoom : GoodIn wsX0_delete (wsV RX0 73 RX0 yX0_checkRoom wsX0_checkRoom) := goodIn_app (goodIn_of _ (by decide +kernel)) ggX0_delete_X0_checkRoom
set_option maxRecDepth 20000 in
theorem ggX0_delete_X0_addEvent : GoodIn wsX0_delete wsX0_addEvent := goodIn_r _ [61, 22, 1, 62, 35, 23, 63, 64, 65, 66, 67, 6, 68, 24, 25, 26, 27, 28, 29, 30, 69, 70, 71, 72, 73, 74, 75, 76, 77, 78, 79, 80, 81, 82, 83, 84, 85, 86, 87] (by decide +kernel) (by decide +kernel)
set_option maxRecDepth 20000 in
theorem gX0_delete_X0_addEvent : GoodIn wsX0_delete (wsV RX0 76 RX0 yX0_addEvent wsX0_addEvent) := goodIn_app (goodIn_of _ (by decide +kernel)) ggX0_delete_X0_addEvent
theorem dX0_delete_0 : decode cX0_delete 0 = .ok (.aload_n 0, 1) := by decide +kernel
theorem dX0_delete_1 : decode cX0_delete 1 = .ok (.iload_n 1, 1) := by decide +kernel
theorem dX0_delete_2 : decode cX0_delete 2 = .ok (.invokevirtual 54, 3) := by decide +kernel
theorem dX0_delete_5 : decode cX0_delete 5 = .ok (.aload_n 0, 1) := by decide +kernel
theorem dX0_delete_6 : decode cX0_delete 6 = .ok (.aload_n 0, 1) := by decide +kernel
theorem dX0_delete_7 : decode cX0_delete 7 = .ok (.getfield 33, 3) := by decide +kernel
theorem dX0_delete_10 : decode cX0_delete 10 = .ok (.iload_n 1, 1) := by decide +kernel
theorem dX0_delete_11 : decode cX0_delete 11 = .ok (.laload, 1) := by decide +kernel
theorem dX0_delete_12 : decode cX0_delete 12 = .ok (.invokevirtual 58, 3) := by decide +kernel
theorem dX0_delete_15 : decode cX0_delete 15 = .ok (.istore_n 3, 1) := by decide +kernel
theorem dX0_delete_16 : decode cX0_delete 16 = .ok (.aload_n 0, 1) := by decide +kernel
theorem dX0_delete_17 : decode cX0_delete 17 = .ok (.iload_n 2, 1) := by decide +kernel
theorem dX0_delete_18 : decode cX0_delete 18 = .ok (.iload_n 3, 1) := by decide +kernel
theorem dX0_delete_19 : decode cX0_delete 19 = .ok (.invokevirtual 62, 3) := by decide +kernel
theorem dX0_delete_22 : decode cX0_delete 22 = .ok (.aload_n 0, 1) := by decide +kernel
theorem dX0_delete_23 : decode cX0_delete 23 = .ok (.invokevirtual 73, 3) := by decide +kernel
theorem dX0_delete_26 : decode cX0_delete 26 = .ok (.aload_n 0, 1) := by decide +kernel
theorem dX0_delete_27 : decode cX0_delete 27 = .ok (.iload_n 1, 1) := by decide +kernel
theorem dX0_delete_28 : decode cX0_delete 28 = .ok (.iconst (-1), 1) := by decide +kernel
theorem dX0_delete_29 : decode cX0_delete 29 = .ok (.aload_n 0, 1) := by decide +kernel
theorem dX0_delete_30 : decode cX0_delete 30 = .ok (.getfield 45, 3) := by decide +kernel
theorem dX0_delete_33 : decode cX0_delete 33 = .ok (.iload_n 2, 1) := by decide +kernel
theorem dX0_delete_34 : decode cX0_delete 34 = .ok (.iaload, 1) := by decide +kernel
theorem dX0_delete_35 : decode cX0_delete 35 = .ok (.invokevirtual 76, 3) := by decide +kernel
theorem dX0_delete_38 : decode cX0_delete 38 = .ok (.ireturn, 1) := by decide +kernel
set_option maxRecDepth 20000 in
theorem ggX0_learn_X0_checkAuthor : GoodIn wsX0_learn wsX0_checkAuthor := goodIn_ca (goodIn_r _ [6, 7, 8] (by decide +kernel) (by decide +kernel)) (goodIn_sub (fun _ h => List.mem_cons_of_mem _ (List.mem_append_right _ h)) (by decide +kernel))
set_option maxRecDepth 20000 in
theorem gX0_learn_X0_checkAuthor : GoodIn wsX0_learn (wsV RX0 54 RX0 yX0_checkAuthor wsX0_checkAuthor) := goodIn_app (goodIn_of _ (by decide +kernel)) ggX0_learn_X0_checkAuthor
set_option maxRecDepth 20000 in
theorem ggX0_learn_X0_addKnown : GoodIn wsX0_learn wsX0_addKnown := goodIn_r _ [12, 1, 13, 14, 15, 16, 17, 18, 19, 20, 21, 22, 23, 24, 25, 26, 27, 28, 29, 30, 31, 32, 33, 34] (by decide +kernel) (by decide +kernel)
set_option maxRecDepth 20000 in
theorem gX0_learn_X0_addKnown : GoodIn wsX0_learn (wsV RX0 83 RX0 yX0_addKnown wsX0_addKnown) := goodIn_app (goodIn_of _ (by decide +kernel)) ggX0_learn_X0_addKnown
theorem dX0_learn_0 : decode cX0_learn 0 = .ok (.aload_n 0, 1) := by decide +kernel
theorem dX0_learn_1 : decode cX0_learn 1 = .ok (.iload_n 1, 1) := by decide +kernel
theorem dX0_learn_2 : decode cX0_learn 2 = .ok (.invokevirtual 54, 3) := by decide +kernel
theorem dX0_learn_5 : decode cX0_learn 5 = .ok (.aload_n 0, 1) := by decide +kernel
theorem dX0_learn_6 : decode cX0_learn 6 = .ok (.iload_n 2, 1) := by decide +kernel
theorem dX0_learn_7 : decode cX0_learn 7 = .ok (.invokevirtual 54, 3) := by decide +kernel
theorem dX0_learn_10 : decode cX0_learn 10 = .ok (.aload_n 0, 1) := by decide +kernel
theorem dX0_learn_11 : decode cX0_learn 11 = .ok (.iload_n 1, 1) := by decide +kernel
theorem dX0_learn_12 : decode cX0_learn 12 = .ok (.aload_n 0, 1) := by decide +kernel
theorem dX0_learn_13 : decode cX0_learn 13 = .ok (.getfield 33, 3) := by decide +kernel
theorem dX0_learn_16 : decode cX0_learn 16 = .ok (.iload_n 2, 1) := by decide +kernel
theorem dX0_learn_17 : decode cX0_learn 17 = .ok (.laload, 1) := by decide +kernel
theorem dX0_learn_18 : decode cX0_learn 18 = .ok (.invokevirtual 83, 3) := by decide +kernel
theorem dX0_learn_21 : decode cX0_learn 21 = .ok (.ireturn, 1) := by decide +kernel
set_option maxRecDepth 20000 in
theorem ggX0_learnEvent_X0_checkAuthor : GoodIn wsX0_learnEvent wsX0_checkAuthor := goodIn_ca (goodIn_r _ [5, 6, 7] (by decide +kernel) (by decide +kernel)) (goodIn_sub (fun _ h => List.mem_cons_of_mem _ (List.mem_append_right _ h)) (by decide +kernel))
set_option maxRecDepth 20000 in
theorem gX0_learnEvent_X0_checkAuthor : GoodIn wsX0_learnEvent (wsV RX0 54 RX0 yX0_checkAuthor wsX0_checkAuthor) := goodIn_app (goodIn_of _ (by decide +kernel)) ggX0_learnEvent_X0_checkAuthor
set_option maxRecDepth 20000 in
theorem ggX0_learnEvent_X0_checkEvent : GoodIn wsX0_learnEvent wsX0_checkEvent := goodIn_ca (goodIn_r _ [11, 6, 7, 12, 13, 14, 4, 15, 16, 38, 39, 40, 41, 42, 43, 44, 45, 46, 47, 48, 49, 50, 51] (by decide +kernel) (by decide +kernel)) (goodIn_sub (fun _ h => List.mem_cons_of_mem _ (List.mem_append_right _ h)) (by decide +kernel))
set_option maxRecDepth 20000 in
theorem gX0_learnEvent_X0_checkEvent : GoodIn wsX0_learnEvent (wsV RX0 87 RX0 yX0_checkEvent wsX0_checkEvent) := goodIn_app (goodIn_of _ (by decide +kernel)) ggX0_learnEvent_X0_checkEvent
set_option maxRecDepth 20000 in
theorem ggX0_learnEvent_X0_versionOfEvent : GoodIn wsX0_learnEvent wsX0_versionOfEvent := goodIn_r _ [20, 21, 22, 23, 4, 24, 38, 39, 40, 41, 42, 43, 44, 45, 46, 47, 48, 49, 50, 51] (by decide +kernel) (by decide +kernel)
set_option maxRecDepth 20000 in
theorem gX0_learnEvent_X0_versionOfEvent : GoodIn wsX0_learnEvent (wsV RX0 90 RX0 yX0_versionOfEvent wsX0_versionOfEvent) := goodIn_app (goodIn_of _ (by decide +kernel)) ggX0_learnEvent_X0_versionOfEvent
set_option maxRecDepth 20000 in
theorem ggX0_learnEvent_X0_addKnown : GoodIn wsX0_learnEvent wsX0_addKnown := goodIn_r _ [28, 29, 30, 31, 32, 33, 34, 35, 36, 37, 38, 39, 40, 41, 42, 43, 44, 45, 46, 47, 48, 49, 50, 51] (by decide +kernel) (by decide +kernel)
set_option maxRecDepth 20000 in
theorem gX0_learnEvent_X0_addKnown : GoodIn wsX0_learnEvent (wsV RX0 83 RX0 yX0_addKnown wsX0_addKnown) := goodIn_app (goodIn_of _ (by decide +kernel)) ggX0_learnEvent_X0_addKnown
theorem dX0_learnEvent_0 : decode cX0_learnEvent 0 = .ok (.aload_n 0, 1) := by decide +kernel
theorem dX0_learnEvent_1 : decode cX0_learnEvent 1 = .ok (.iload_n 1, 1) := by decide +kernel
theorem dX0_learnEvent_2 : decode cX0_learnEvent 2 = .ok (.invokevirtual 54, 3) := by decide +kernel
theorem dX0_learnEvent_5 : decode cX0_learnEvent 5 = .ok (.aload_n 0, 1) := by decide +kernel
theorem dX0_learnEvent_6 : decode cX0_learnEvent 6 = .ok (.iload_n 2, 1) := by decide +kernel
theorem dX0_learnEvent_7 : decode cX0_learnEvent 7 = .ok (.invokevirtual 87, 3) := by decide +kernel
theorem dX0_learnEvent_10 : decode cX0_learnEvent 10 = .ok (.aload_n 0, 1) := by decide +kernel
theorem dX0_learnEvent_11 : decode cX0_learnEvent 11 = .ok (.iload_n 1, 1) := by decide +kernel
theorem dX0_learnEvent_12 : decode cX0_learnEvent 12 = .ok (.aload_n 0, 1) := by decide +kernel
theorem dX0_learnEvent_13 : decode cX0_learnEvent 13 = .ok (.iload_n 2, 1) := by decide +kernel
theorem dX0_learnEvent_14 : decode cX0_learnEvent 14 = .ok (.invokevirtual 90, 3) := by decide +kernel
theorem dX0_learnEvent_17 : decode cX0_learnEvent 17 = .ok (.invokevirtual 83, 3) := by decide +kernel
theorem dX0_learnEvent_20 : decode cX0_learnEvent 20 = .ok (.ireturn, 1) := by decide +kernel
theorem dX0_events_0 : decode cX0_events 0 = .ok (.aload_n 0, 1) := by decide +kernel
theorem dX0_events_1 : decode cX0_events 1 = .ok (.getfield 7, 3) := by decide +kernel
theorem dX0_events_4 : decode cX0_events 4 = .ok (.ireturn, 1) := by decide +kernel
set_option maxRecDepth 20000 in
theorem ggX0_length_X0_checkAuthor : GoodIn wsX0_length wsX0_checkAuthor := goodIn_ca (goodIn_r _ [6, 7, 8] (by decide +kernel) (by decide +kernel)) (goodIn_sub (fun _ h => List.mem_cons_of_mem _ (List.mem_append_right _ h)) (by decide +kernel))
set_option maxRecDepth 20000 in
theorem gX0_length_X0_checkAuthor : GoodIn wsX0_length (wsV RX0 54 RX0 yX0_checkAuthor wsX0_checkAuthor) := goodIn_app (goodIn_of _ (by decide +kernel)) ggX0_length_X0_checkAuthor
set_option maxRecDepth 20000 in
theorem ggX0_length_X0_findText : GoodIn wsX0_length wsX0_findText := goodIn_r _ [12, 13, 14, 15, 16, 17, 18, 19, 5, 20, 21, 22, 23, 24, 25, 26, 27, 28, 29, 30, 31, 32, 33, 34, 35, 36, 37, 38, 39, 40, 41, 42, 43, 44, 45, 46, 47, 48, 49, 50, 51, 52, 53, 54, 55, 56, 57, 58, 59, 60, 61] (by decide +kernel) (by decide +kernel)
set_option maxRecDepth 20000 in
theorem gX0_length_X0_findText : GoodIn wsX0_length (wsV RX0 58 RX0 yX0_findText wsX0_findText) := goodIn_app (goodIn_of _ (by decide +kernel)) ggX0_length_X0_findText
theorem dX0_length_0 : decode cX0_length 0 = .ok (.aload_n 0, 1) := by decide +kernel
theorem dX0_length_1 : decode cX0_length 1 = .ok (.iload_n 1, 1) := by decide +kernel
theorem dX0_length_2 : decode cX0_length 2 = .ok (.invokevirtual 54, 3) := by decide +kernel
theorem dX0_length_5 : decode cX0_length 5 = .ok (.aload_n 0, 1) := by decide +kernel
theorem dX0_length_6 : decode cX0_length 6 = .ok (.aload_n 0, 1) := by decide +kernel
theorem dX0_length_7 : decode cX0_length 7 = .ok (.getfield 33, 3) := by decide +kernel
theorem dX0_length_10 : decode cX0_length 10 = .ok (.iload_n 1, 1) := by decide +kernel
theorem dX0_length_11 : decode cX0_length 11 = .ok (.laload, 1) := by decide +kernel
theorem dX0_length_12 : decode cX0_length 12 = .ok (.invokevirtual 58, 3) := by decide +kernel
theorem dX0_length_15 : decode cX0_length 15 = .ok (.ireturn, 1) := by decide +kernel
set_option maxRecDepth 20000 in
theorem ggX0_letterAt_X0_checkAuthor : GoodIn wsX0_letterAt wsX0_checkAuthor := goodIn_ca (goodIn_r _ [7, 8, 9] (by decide +kernel) (by decide +kernel)) (goodIn_sub (fun _ h => List.mem_cons_of_mem _ (List.mem_append_right _ h)) (by decide +kernel))
set_option maxRecDepth 20000 in
theorem gX0_letterAt_X0_checkAuthor : GoodIn wsX0_letterAt (wsV RX0 54 RX0 yX0_checkAuthor wsX0_checkAuthor) := goodIn_app (goodIn_of _ (by decide +kernel)) ggX0_letterAt_X0_checkAuthor
set_option maxRecDepth 20000 in
theorem ggX0_letterAt_X0_eventInText : GoodIn wsX0_letterAt wsX0_eventInText := goodIn_ca (goodIn_r _ [13, 14, 15, 16, 17, 6, 18, 19, 20, 21, 22, 23, 24, 25, 26, 27, 28, 29, 30, 31, 32, 33, 34, 35, 36, 37, 38, 39, 1, 40, 41, 42, 43, 44, 45, 46, 47, 48, 49, 50, 51, 52, 53, 54, 55, 8, 9, 56, 57, 58, 59, 60, 61, 62, 63, 64, 65, 66, 67, 68, 69] (by decide +kernel) (by decide +kernel)) (goodIn_sub (fun _ h => List.mem_cons_of_mem _ (List.mem_append_right _ h)) (by decide +kernel))
set_option maxRecDepth 20000 in
theorem gX0_letterAt_X0_eventInText : GoodIn wsX0_letterAt (wsV RX0 94 RX0 yX0_eventInText wsX0_eventInText) := goodIn_app (goodIn_of _ (by decide +kernel)) ggX0_letterAt_X0_eventInText
theorem dX0_letterAt_0 : decode cX0_letterAt 0 = .ok (.aload_n 0, 1) := by decide +kernel
theorem dX0_letterAt_1 : decode cX0_letterAt 1 = .ok (.iload_n 1, 1) := by decide +kernel
theorem dX0_letterAt_2 : decode cX0_letterAt 2 = .ok (.invokevirtual 54, 3) := by decide +kernel
theorem dX0_letterAt_5 : decode cX0_letterAt 5 = .ok (.aload_n 0, 1) := by decide +kernel
theorem dX0_letterAt_6 : decode cX0_letterAt 6 = .ok (.getfield 17, 3) := by decide +kernel
theorem dX0_letterAt_9 : decode cX0_letterAt 9 = .ok (.aload_n 0, 1) := by decide +kernel
theorem dX0_letterAt_10 : decode cX0_letterAt 10 = .ok (.aload_n 0, 1) := by decide +kernel
theorem dX0_letterAt_11 : decode cX0_letterAt 11 = .ok (.getfield 33, 3) := by decide +kernel
theorem dX0_letterAt_14 : decode cX0_letterAt 14 = .ok (.iload_n 1, 1) := by decide +kernel
theorem dX0_letterAt_15 : decode cX0_letterAt 15 = .ok (.laload, 1) := by decide +kernel
theorem dX0_letterAt_16 : decode cX0_letterAt 16 = .ok (.iload_n 2, 1) := by decide +kernel
theorem dX0_letterAt_17 : decode cX0_letterAt 17 = .ok (.invokevirtual 94, 3) := by decide +kernel
theorem dX0_letterAt_20 : decode cX0_letterAt 20 = .ok (.iaload, 1) := by decide +kernel
theorem dX0_letterAt_21 : decode cX0_letterAt 21 = .ok (.ireturn, 1) := by decide +kernel
set_option maxRecDepth 20000 in
theorem ggX0_letterByList_X0_checkAuthor : GoodIn wsX0_letterByList wsX0_checkAuthor := goodIn_ca (goodIn_r _ [8, 9, 10] (by decide +kernel) (by decide +kernel)) (goodIn_sub (fun _ h => List.mem_cons_of_mem _ (List.mem_append_right _ h)) (by decide +kernel))
set_option maxRecDepth 20000 in
theorem gX0_letterByList_X0_checkAuthor : GoodIn wsX0_letterByList (wsV RX0 54 RX0 yX0_checkAuthor wsX0_checkAuthor) := goodIn_app (goodIn_of _ (by decide +kernel)) ggX0_letterByList_X0_checkAuthor
set_option maxRecDepth 20000 in
theorem ggX0_letterByList_X0_findTextByList : GoodIn wsX0_letterByList wsX0_findTextByList := goodIn_r _ [14, 15, 16, 17, 18, 7, 19, 20, 21, 22, 23, 24, 25, 26, 27, 28, 29, 30, 31, 32, 2, 33, 34, 35, 36, 37, 38, 39, 40, 41, 42, 43, 44, 3, 49, 50, 51, 52, 53, 54, 55, 56, 57, 58, 59, 60, 61, 62] (by decide +kernel) (by decide +kernel)
set_option maxRecDepth 20000 in
theorem gX0_letterByList_X0_findTextByList : GoodIn wsX0_letterByList (wsV RX0 98 RX0 yX0_findTextByList wsX0_findTextByList) := goodIn_app (goodIn_of _ (by decide +kernel)) ggX0_letterByList_X0_findTextByList
set_option maxRecDepth 20000 in
theorem ggX0_letterByList_X0_checkPlace : GoodIn wsX0_letterByList wsX0_checkPlace := goodIn_ca (goodIn_r _ [48, 9, 10] (by decide +kernel) (by decide +kernel)) (goodIn_sub (fun _ h => List.mem_cons_of_mem _ (List.mem_append_right _ h)) (by decide +kernel))
set_option maxRecDepth 20000 in
theorem gX0_letterByList_X0_checkPlace : GoodIn wsX0_letterByList (wsV RX0 62 RX0 yX0_checkPlace wsX0_checkPlace) := goodIn_app (goodIn_of _ (by decide +kernel)) ggX0_letterByList_X0_checkPlace
theorem dX0_letterByList_0 : decode cX0_letterByList 0 = .ok (.aload_n 0, 1) := by decide +kernel
theorem dX0_letterByList_1 : decode cX0_letterByList 1 = .ok (.iload_n 1, 1) := by decide +kernel
theorem dX0_letterByList_2 : decode cX0_letterByList 2 = .ok (.invokevirtual 54, 3) := by decide +kernel
theorem dX0_letterByList_5 : decode cX0_letterByList 5 = .ok (.aload_n 0, 1) := by decide +kernel
theorem dX0_letterByList_6 : decode cX0_letterByList 6 = .ok (.aload_n 0, 1) := by decide +kernel
theorem dX0_letterByList_7 : decode cX0_letterByList 7 = .ok (.getfield 33, 3) := by decide +kernel
theorem dX0_letterByList_10 : decode cX0_letterByList 10 = .ok (.iload_n 1, 1) := by decide +kernel
theorem dX0_letterByList_11 : decode cX0_letterByList 11 = .ok (.laload, 1) := by decide +kernel
theorem dX0_letterByList_12 : decode cX0_letterByList 12 = .ok (.invokevirtual 98, 3) := by decide +kernel
theorem dX0_letterByList_15 : decode cX0_letterByList 15 = .ok (.istore_n 3, 1) := by decide +kernel
theorem dX0_letterByList_16 : decode cX0_letterByList 16 = .ok (.aload_n 0, 1) := by decide +kernel
theorem dX0_letterByList_17 : decode cX0_letterByList 17 = .ok (.iload_n 2, 1) := by decide +kernel
theorem dX0_letterByList_18 : decode cX0_letterByList 18 = .ok (.iload_n 3, 1) := by decide +kernel
theorem dX0_letterByList_19 : decode cX0_letterByList 19 = .ok (.invokevirtual 62, 3) := by decide +kernel
theorem dX0_letterByList_22 : decode cX0_letterByList 22 = .ok (.aload_n 0, 1) := by decide +kernel
theorem dX0_letterByList_23 : decode cX0_letterByList 23 = .ok (.getfield 17, 3) := by decide +kernel
theorem dX0_letterByList_26 : decode cX0_letterByList 26 = .ok (.aload_n 0, 1) := by decide +kernel
theorem dX0_letterByList_27 : decode cX0_letterByList 27 = .ok (.getfield 45, 3) := by decide +kernel
theorem dX0_letterByList_30 : decode cX0_letterByList 30 = .ok (.iload_n 2, 1) := by decide +kernel
theorem dX0_letterByList_31 : decode cX0_letterByList 31 = .ok (.iaload, 1) := by decide +kernel
theorem dX0_letterByList_32 : decode cX0_letterByList 32 = .ok (.iaload, 1) := by decide +kernel
theorem dX0_letterByList_33 : decode cX0_letterByList 33 = .ok (.ireturn, 1) := by decide +kernel
set_option maxRecDepth 20000 in
theorem ggX0_eventAt_X0_checkAuthor : GoodIn wsX0_eventAt wsX0_checkAuthor := goodIn_ca (goodIn_r _ [6, 7, 8] (by decide +kernel) (by decide +kernel)) (goodIn_sub (fun _ h => List.mem_cons_of_mem _ (List.mem_append_right _ h)) (by decide +kernel))
set_option maxRecDepth 20000 in
theorem gX0_eventAt_X0_checkAuthor : GoodIn wsX0_eventAt (wsV RX0 54 RX0 yX0_checkAuthor wsX0_checkAuthor) := goodIn_app (goodIn_of _ (by decide +kernel)) ggX0_eventAt_X0_checkAuthor
set_option maxRecDepth 20000 in
theorem ggX0_eventAt_X0_eventInText : GoodIn wsX0_eventAt wsX0_eventInText := goodIn_ca (goodIn_r _ [12, 13, 14, 15, 16, 5, 17, 18, 19, 20, 21, 22, 23, 24, 25, 26, 27, 28, 29, 30, 31, 32, 33, 34, 35, 36, 37, 38, 39, 40, 41, 42, 43, 44, 45, 46, 47, 48, 49, 50, 51, 52, 53, 54, 55, 7, 8, 56, 57, 58, 59, 60, 61, 62, 63, 64, 65, 66, 67, 68, 69] (by decide +kernel) (by decide +kernel)) (goodIn_sub (fun _ h => List.mem_cons_of_mem _ (List.mem_append_right _ h)) (by decide +kernel))
set_option maxRecDepth 20000 in
theorem gX0_eventAt_X0_eventInText : GoodIn wsX0_eventAt (wsV RX0 94 RX0 yX0_eventInText wsX0_eventInText) := goodIn_app (goodIn_of _ (by decide +kernel)) ggX0_eventAt_X0_eventInText
theorem dX0_eventAt_0 : decode cX0_eventAt 0 = .ok (.aload_n 0, 1) := by decide +kernel
theorem dX0_eventAt_1 : decode cX0_eventAt 1 = .ok (.iload_n 1, 1) := by decide +kernel
theorem dX0_eventAt_2 : decode cX0_eventAt 2 = .ok (.invokevirtual 54, 3) := by decide +kernel
theorem dX0_eventAt_5 : decode cX0_eventAt 5 = .ok (.aload_n 0, 1) := by decide +kernel
theorem dX0_eventAt_6 : decode cX0_eventAt 6 = .ok (.aload_n 0, 1) := by decide +kernel
theorem dX0_eventAt_7 : decode cX0_eventAt 7 = .ok (.getfield 33, 3) := by decide +kernel
theorem dX0_eventAt_10 : decode cX0_eventAt 10 = .ok (.iload_n 1, 1) := by decide +kernel
theorem dX0_eventAt_11 : decode cX0_eventAt 11 = .ok (.laload, 1) := by decide +kernel
theorem dX0_eventAt_12 : decode cX0_eventAt 12 = .ok (.iload_n 2, 1) := by decide +kernel
theorem dX0_eventAt_13 : decode cX0_eventAt 13 = .ok (.invokevirtual 94, 3) := by decide +kernel
theorem dX0_eventAt_16 : decode cX0_eventAt 16 = .ok (.ireturn, 1) := by decide +kernel
set_option maxRecDepth 20000 in
theorem ggX0_lengthOf_X0_checkEvent : GoodIn wsX0_lengthOf wsX0_checkEvent := goodIn_ca (goodIn_r _ [5, 6, 7, 8, 9, 10, 4, 11, 12, 52, 53, 54, 55, 56, 57, 58, 59, 60, 61, 62, 63, 64, 65] (by decide +kernel) (by decide +kernel)) (goodIn_sub (fun _ h => List.mem_cons_of_mem _ (List.mem_append_right _ h)) (by decide +kernel))
set_option maxRecDepth 20000 in
theorem gX0_lengthOf_X0_checkEvent : GoodIn wsX0_lengthOf (wsV RX0 87 RX0 yX0_checkEvent wsX0_checkEvent) := goodIn_app (goodIn_of _ (by decide +kernel)) ggX0_lengthOf_X0_checkEvent
set_option maxRecDepth 20000 in
theorem ggX0_lengthOf_X0_versionOfEvent : GoodIn wsX0_lengthOf wsX0_versionOfEvent := goodIn_r _ [16, 17, 18, 19, 4, 20, 52, 53, 54, 55, 56, 57, 58, 59, 60, 61, 62, 63, 64, 65] (by decide +kernel) (by decide +kernel)
set_option maxRecDepth 20000 in
theorem gX0_lengthOf_X0_versionOfEvent : GoodIn wsX0_lengthOf (wsV RX0 90 RX0 yX0_versionOfEvent wsX0_versionOfEvent) := goodIn_app (goodIn_of _ (by decide +kernel)) ggX0_lengthOf_X0_versionOfEvent
set_option maxRecDepth 20000 in
theorem ggX0_lengthOf_X0_findText : GoodIn wsX0_lengthOf wsX0_findText := goodIn_r _ [24, 25, 26, 27, 28, 29, 30, 31, 4, 32, 12, 33, 34, 35, 36, 37, 18, 19, 20, 38, 39, 40, 41, 42, 43, 44, 45, 46, 8, 9, 10, 11, 47, 48, 49, 50, 51, 52, 53, 54, 55, 56, 57, 58, 59, 60, 61, 62, 63, 64, 65] (by decide +kernel) (by decide +kernel)
set_option maxRecDepth 20000 in
theorem gX0_lengthOf_X0_findText : GoodIn wsX0_lengthOf (wsV RX0 58 RX0 yX0_findText wsX0_findText) := goodIn_app (goodIn_of _ (by decide +kernel)) ggX0_lengthOf_X0_findText
theorem dX0_lengthOf_0 : decode cX0_lengthOf 0 = .ok (.aload_n 0, 1) := by decide +kernel
theorem dX0_lengthOf_1 : decode cX0_lengthOf 1 = .ok (.iload_n 1, 1) := by decide +kernel
theorem dX0_lengthOf_2 : decode cX0_lengthOf 2 = .ok (.invokevirtual 87, 3) := by decide +kernel
theorem dX0_lengthOf_5 : decode cX0_lengthOf 5 = .ok (.aload_n 0, 1) := by decide +kernel
theorem dX0_lengthOf_6 : decode cX0_lengthOf 6 = .ok (.aload_n 0, 1) := by decide +kernel
theorem dX0_lengthOf_7 : decode cX0_lengthOf 7 = .ok (.iload_n 1, 1) := by decide +kernel
theorem dX0_lengthOf_8 : decode cX0_lengthOf 8 = .ok (.invokevirtual 90, 3) := by decide +kernel
theorem dX0_lengthOf_11 : decode cX0_lengthOf 11 = .ok (.invokevirtual 58, 3) := by decide +kernel
theorem dX0_lengthOf_14 : decode cX0_lengthOf 14 = .ok (.ireturn, 1) := by decide +kernel
set_option maxRecDepth 20000 in
theorem ggX0_letterOf_X0_checkEvent : GoodIn wsX0_letterOf wsX0_checkEvent := goodIn_ca (goodIn_r _ [6, 7, 8, 9, 10, 11, 5, 12, 13, 60, 61, 62, 63, 64, 65, 66, 67, 68, 69, 70, 71, 72, 73] (by decide +kernel) (by decide +kernel)) (goodIn_sub (fun _ h => List.mem_cons_of_mem _ (List.mem_append_right _ h)) (by decide +kernel))
set_option maxRecDepth 20000 in
theorem gX0_letterOf_X0_checkEvent : GoodIn wsX0_letterOf (wsV RX0 87 RX0 yX0_checkEvent wsX0_checkEvent) := goodIn_app (goodIn_of _ (by decide +kernel)) ggX0_letterOf_X0_checkEvent
set_option maxRecDepth 20000 in
theorem ggX0_letterOf_X0_versionOfEvent : GoodIn wsX0_letterOf wsX0_versionOfEvent := goodIn_r _ [17, 18, 19, 20, 5, 21, 60, 61, 62, 63, 64, 65, 66, 67, 68, 69, 70, 71, 72, 73] (by decide +kernel) (by decide +kernel)
set_option maxRecDepth 20000 in
theorem gX0_letterOf_X0_versionOfEvent : GoodIn wsX0_letterOf (wsV RX0 90 RX0 yX0_versionOfEvent wsX0_versionOfEvent) := goodIn_app (goodIn_of _ (by decide +kernel)) ggX0_letterOf_X0_versionOfEvent
set_option maxRecDepth 20000 in
theorem ggX0_letterOf_X0_eventInText : GoodIn wsX0_letterOf wsX0_eventInText := goodIn_ca (goodIn_r _ [25, 26, 27, 28, 29, 5, 30, 31, 32, 33, 34, 35, 36, 37, 38, 13, 39, 40, 41, 42, 43, 19, 20, 21, 44, 45, 46, 47, 1, 48, 49, 50, 51, 9, 10, 11, 12, 52, 53, 54, 55, 56, 57, 58, 59, 7, 8, 60, 61, 62, 63, 64, 65, 66, 67, 68, 69, 70, 71, 72, 73] (by decide +kernel) (by decide +kernel)) (goodIn_sub (fun _ h => List.mem_cons_of_mem _ (List.mem_append_right _ h)) (by decide +kernel))
set_option maxRecDepth 20000 in
theorem gX0_letterOf_X0_eventInText : GoodIn wsX0_letterOf (wsV RX0 94 RX0 yX0_eventInText wsX0_eventInText) := goodIn_app (goodIn_of _ (by decide +kernel)) ggX0_letterOf_X0_eventInText
theorem dX0_letterOf_0 : decode cX0_letterOf 0 = .ok (.aload_n 0, 1) := by decide +kernel
theorem dX0_letterOf_1 : decode cX0_letterOf 1 = .ok (.iload_n 1, 1) := by decide +kernel
theorem dX0_letterOf_2 : decode cX0_letterOf 2 = .ok (.invokevirtual 87, 3) := by decide +kernel
theorem dX0_letterOf_5 : decode cX0_letterOf 5 = .ok (.aload_n 0, 1) := by decide +kernel
theorem dX0_letterOf_6 : decode cX0_letterOf 6 = .ok (.getfield 17, 3) := by decide +kernel
theorem dX0_letterOf_9 : decode cX0_letterOf 9 = .ok (.aload_n 0, 1) := by decide +kernel
theorem dX0_letterOf_10 : decode cX0_letterOf 10 = .ok (.aload_n 0, 1) := by decide +kernel
theorem dX0_letterOf_11 : decode cX0_letterOf 11 = .ok (.iload_n 1, 1) := by decide +kernel
theorem dX0_letterOf_12 : decode cX0_letterOf 12 = .ok (.invokevirtual 90, 3) := by decide +kernel
theorem dX0_letterOf_15 : decode cX0_letterOf 15 = .ok (.iload_n 2, 1) := by decide +kernel
theorem dX0_letterOf_16 : decode cX0_letterOf 16 = .ok (.invokevirtual 94, 3) := by decide +kernel
theorem dX0_letterOf_19 : decode cX0_letterOf 19 = .ok (.iaload, 1) := by decide +kernel
theorem dX0_letterOf_20 : decode cX0_letterOf 20 = .ok (.ireturn, 1) := by decide +kernel
set_option maxRecDepth 20000 in
theorem ggX0_lettersBy_X0_checkAuthor : GoodIn wsX0_lettersBy wsX0_checkAuthor := goodIn_ca (goodIn_r _ [8, 9, 10] (by decide +kernel) (by decide +kernel)) (goodIn_sub (fun _ h => List.mem_cons_of_mem _ (List.mem_append_right _ h)) (by decide +kernel))
set_option maxRecDepth 20000 in
theorem gX0_lettersBy_X0_checkAuthor : GoodIn wsX0_lettersBy (wsV RX0 54 RX0 yX0_checkAuthor wsX0_checkAuthor) := goodIn_app (goodIn_of _ (by decide +kernel)) ggX0_lettersBy_X0_checkAuthor
set_option maxRecDepth 20000 in
theorem ggX0_lettersBy_X0_findText : GoodIn wsX0_lettersBy wsX0_findText := goodIn_r _ [14, 15, 16, 17, 18, 19, 20, 21, 7, 22, 23, 24, 25, 26, 27, 28, 29, 30, 31, 32, 33, 34, 35, 36, 37, 38, 39, 40, 41, 42, 43, 44, 45, 46, 47, 48, 3, 49, 50, 51, 52, 53, 54, 55, 56, 57, 58, 59, 60, 61, 62] (by decide +kernel) (by decide +kernel)
set_option maxRecDepth 20000 in
theorem gX0_lettersBy_X0_findText : GoodIn wsX0_lettersBy (wsV RX0 58 RX0 yX0_findText wsX0_findText) := goodIn_app (goodIn_of _ (by decide +kernel)) ggX0_lettersBy_X0_findText
theorem dX0_lettersBy_0 : decode cX0_lettersBy 0 = .ok (.aload_n 0, 1) := by decide +kernel
theorem dX0_lettersBy_1 : decode cX0_lettersBy 1 = .ok (.iload_n 1, 1) := by decide +kernel
theorem dX0_lettersBy_2 : decode cX0_lettersBy 2 = .ok (.invokevirtual 54, 3) := by decide +kernel
theorem dX0_lettersBy_5 : decode cX0_lettersBy 5 = .ok (.aload_n 0, 1) := by decide +kernel
theorem dX0_lettersBy_6 : decode cX0_lettersBy 6 = .ok (.iload_n 2, 1) := by decide +kernel
theorem dX0_lettersBy_7 : decode cX0_lettersBy 7 = .ok (.invokevirtual 54, 3) := by decide +kernel
theorem dX0_lettersBy_10 : decode cX0_lettersBy 10 = .ok (.aload_n 0, 1) := by decide +kernel
theorem dX0_lettersBy_11 : decode cX0_lettersBy 11 = .ok (.aload_n 0, 1) := by decide +kernel
theorem dX0_lettersBy_12 : decode cX0_lettersBy 12 = .ok (.getfield 33, 3) := by decide +kernel
theorem dX0_lettersBy_15 : decode cX0_lettersBy 15 = .ok (.iload_n 1, 1) := by decide +kernel
theorem dX0_lettersBy_16 : decode cX0_lettersBy 16 = .ok (.laload, 1) := by decide +kernel
theorem dX0_lettersBy_17 : decode cX0_lettersBy 17 = .ok (.invokevirtual 58, 3) := by decide +kernel
theorem dX0_lettersBy_20 : decode cX0_lettersBy 20 = .ok (.istore_n 3, 1) := by decide +kernel
theorem dX0_lettersBy_21 : decode cX0_lettersBy 21 = .ok (.iconst 0, 1) := by decide +kernel
theorem dX0_lettersBy_22 : decode cX0_lettersBy 22 = .ok (.istore 4, 2) := by decide +kernel
theorem dX0_lettersBy_24 : decode cX0_lettersBy 24 = .ok (.iconst 0, 1) := by decide +kernel
theorem dX0_lettersBy_25 : decode cX0_lettersBy 25 = .ok (.istore 5, 2) := by decide +kernel
theorem dX0_lettersBy_27 : decode cX0_lettersBy 27 = .ok (.iload 5, 2) := by decide +kernel
theorem dX0_lettersBy_29 : decode cX0_lettersBy 29 = .ok (.iload_n 3, 1) := by decide +kernel
theorem dX0_lettersBy_30 : decode cX0_lettersBy 30 = .ok (.if_icmp .ge 28, 3) := by decide +kernel
theorem dX0_lettersBy_33 : decode cX0_lettersBy 33 = .ok (.aload_n 0, 1) := by decide +kernel
theorem dX0_lettersBy_34 : decode cX0_lettersBy 34 = .ok (.getfield 13, 3) := by decide +kernel
theorem dX0_lettersBy_37 : decode cX0_lettersBy 37 = .ok (.aload_n 0, 1) := by decide +kernel
theorem dX0_lettersBy_38 : decode cX0_lettersBy 38 = .ok (.getfield 45, 3) := by decide +kernel
theorem dX0_lettersBy_41 : decode cX0_lettersBy 41 = .ok (.iload 5, 2) := by decide +kernel
theorem dX0_lettersBy_43 : decode cX0_lettersBy 43 = .ok (.iaload, 1) := by decide +kernel
theorem dX0_lettersBy_44 : decode cX0_lettersBy 44 = .ok (.iaload, 1) := by decide +kernel
theorem dX0_lettersBy_45 : decode cX0_lettersBy 45 = .ok (.iload_n 2, 1) := by decide +kernel
theorem dX0_lettersBy_46 : decode cX0_lettersBy 46 = .ok (.if_icmp .ne 6, 3) := by decide +kernel
theorem dX0_lettersBy_49 : decode cX0_lettersBy 49 = .ok (.iinc 4 1, 3) := by decide +kernel
theorem dX0_lettersBy_52 : decode cX0_lettersBy 52 = .ok (.iinc 5 1, 3) := by decide +kernel
theorem dX0_lettersBy_55 : decode cX0_lettersBy 55 = .ok (.goto (-28), 3) := by decide +kernel
theorem dX0_lettersBy_58 : decode cX0_lettersBy 58 = .ok (.iload 4, 2) := by decide +kernel
theorem dX0_lettersBy_60 : decode cX0_lettersBy 60 = .ok (.ireturn, 1) := by decide +kernel
set_option maxRecDepth 20000 in
theorem ggX0_authorOf_X0_checkEvent : GoodIn wsX0_authorOf wsX0_checkEvent := goodIn_ca (goodIn_r _ [6, 7, 8, 9, 10, 11, 5, 12, 13, 14, 15, 16, 17, 18, 19, 20, 21, 22, 23, 24, 25, 26, 27] (by decide +kernel) (by decide +kernel)) (goodIn_sub (fun _ h => List.mem_cons_of_mem _ (List.mem_append_right _ h)) (by decide +kernel))
set_option maxRecDepth 20000 in
theorem gX0_authorOf_X0_checkEvent : GoodIn wsX0_authorOf (wsV RX0 87 RX0 yX0_checkEvent wsX0_checkEvent) := goodIn_app (goodIn_of _ (by decide +kernel)) ggX0_authorOf_X0_checkEvent
theorem dX0_authorOf_0 : decode cX0_authorOf 0 = .ok (.aload_n 0, 1) := by decide +kernel
theorem dX0_authorOf_1 : decode cX0_authorOf 1 = .ok (.iload_n 1, 1) := by decide +kernel
theorem dX0_authorOf_2 : decode cX0_authorOf 2 = .ok (.invokevirtual 87, 3) := by decide +kernel
theorem dX0_authorOf_5 : decode cX0_authorOf 5 = .ok (.aload_n 0, 1) := by decide +kernel
theorem dX0_authorOf_6 : decode cX0_authorOf 6 = .ok (.getfield 13, 3) := by decide +kernel
theorem dX0_authorOf_9 : decode cX0_authorOf 9 = .ok (.iload_n 1, 1) := by decide +kernel
theorem dX0_authorOf_10 : decode cX0_authorOf 10 = .ok (.iaload, 1) := by decide +kernel
theorem dX0_authorOf_11 : decode cX0_authorOf 11 = .ok (.ireturn, 1) := by decide +kernel
set_option maxRecDepth 20000 in
theorem ggX0_parents_X0_checkEvent : GoodIn wsX0_parents wsX0_checkEvent := goodIn_ca (goodIn_r _ [6, 7, 8, 9, 10, 11, 5, 12, 13, 14, 15, 16, 17, 18, 19, 20, 21, 22, 23, 24, 25, 26, 27] (by decide +kernel) (by decide +kernel)) (goodIn_sub (fun _ h => List.mem_cons_of_mem _ (List.mem_append_right _ h)) (by decide +kernel))
set_option maxRecDepth 20000 in
theorem gX0_parents_X0_checkEvent : GoodIn wsX0_parents (wsV RX0 87 RX0 yX0_checkEvent wsX0_checkEvent) := goodIn_app (goodIn_of _ (by decide +kernel)) ggX0_parents_X0_checkEvent
theorem dX0_parents_0 : decode cX0_parents 0 = .ok (.aload_n 0, 1) := by decide +kernel
theorem dX0_parents_1 : decode cX0_parents 1 = .ok (.iload_n 1, 1) := by decide +kernel
theorem dX0_parents_2 : decode cX0_parents 2 = .ok (.invokevirtual 87, 3) := by decide +kernel
theorem dX0_parents_5 : decode cX0_parents 5 = .ok (.aload_n 0, 1) := by decide +kernel
theorem dX0_parents_6 : decode cX0_parents 6 = .ok (.getfield 23, 3) := by decide +kernel
theorem dX0_parents_9 : decode cX0_parents 9 = .ok (.iload_n 1, 1) := by decide +kernel
theorem dX0_parents_10 : decode cX0_parents 10 = .ok (.laload, 1) := by decide +kernel
theorem dX0_parents_11 : decode cX0_parents 11 = .ok (.lreturn, 1) := by decide +kernel
set_option maxRecDepth 20000 in
theorem ggX0_isLater_X0_checkEvent : GoodIn wsX0_isLater wsX0_checkEvent := goodIn_ca (goodIn_r _ [6, 7, 8, 9, 10, 11, 5, 12, 13, 20, 21, 22, 23, 24, 25, 26, 27, 28, 29, 30, 31, 32, 33] (by decide +kernel) (by decide +kernel)) (goodIn_sub (fun _ h => List.mem_cons_of_mem _ (List.mem_append_right _ h)) (by decide +kernel))
set_option maxRecDepth 20000 in
theorem gX0_isLater_X0_checkEvent : GoodIn wsX0_isLater (wsV RX0 87 RX0 yX0_checkEvent wsX0_checkEvent) := goodIn_app (goodIn_of _ (by decide +kernel)) ggX0_isLater_X0_checkEvent
set_option maxRecDepth 20000 in
theorem ggX0_isLater_X0_has : GoodIn wsX0_isLater wsX0_has := goodIn_r _ [16, 17, 18, 5, 19] (by decide +kernel) (by decide +kernel)
set_option maxRecDepth 20000 in
theorem gX0_isLater_X0_has : GoodIn wsX0_isLater (va_wsS RX0 101 yX0_has wsX0_has) := goodIn_app (goodIn_of _ (by decide +kernel)) ggX0_isLater_X0_has
theorem dX0_isLater_0 : decode cX0_isLater 0 = .ok (.aload_n 0, 1) := by decide +kernel
theorem dX0_isLater_1 : decode cX0_isLater 1 = .ok (.iload_n 1, 1) := by decide +kernel
theorem dX0_isLater_2 : decode cX0_isLater 2 = .ok (.invokevirtual 87, 3) := by decide +kernel
theorem dX0_isLater_5 : decode cX0_isLater 5 = .ok (.aload_n 0, 1) := by decide +kernel
theorem dX0_isLater_6 : decode cX0_isLater 6 = .ok (.iload_n 2, 1) := by decide +kernel
theorem dX0_isLater_7 : decode cX0_isLater 7 = .ok (.invokevirtual 87, 3) := by decide +kernel
theorem dX0_isLater_10 : decode cX0_isLater 10 = .ok (.aload_n 0, 1) := by decide +kernel
theorem dX0_isLater_11 : decode cX0_isLater 11 = .ok (.getfield 27, 3) := by decide +kernel
theorem dX0_isLater_14 : decode cX0_isLater 14 = .ok (.iload_n 1, 1) := by decide +kernel
theorem dX0_isLater_15 : decode cX0_isLater 15 = .ok (.laload, 1) := by decide +kernel
theorem dX0_isLater_16 : decode cX0_isLater 16 = .ok (.iload_n 2, 1) := by decide +kernel
theorem dX0_isLater_17 : decode cX0_isLater 17 = .ok (.invokestatic 101, 3) := by decide +kernel
theorem dX0_isLater_20 : decode cX0_isLater 20 = .ok (.ireturn, 1) := by decide +kernel
set_option maxRecDepth 20000 in
theorem ggX0_version_X0_checkAuthor : GoodIn wsX0_version wsX0_checkAuthor := goodIn_ca (goodIn_r _ [6, 7, 8] (by decide +kernel) (by decide +kernel)) (goodIn_sub (fun _ h => List.mem_cons_of_mem _ (List.mem_append_right _ h)) (by decide +kernel))
set_option maxRecDepth 20000 in
theorem gX0_version_X0_checkAuthor : GoodIn wsX0_version (wsV RX0 54 RX0 yX0_checkAuthor wsX0_checkAuthor) := goodIn_app (goodIn_of _ (by decide +kernel)) ggX0_version_X0_checkAuthor
theorem dX0_version_0 : decode cX0_version 0 = .ok (.aload_n 0, 1) := by decide +kernel
theorem dX0_version_1 : decode cX0_version 1 = .ok (.iload_n 1, 1) := by decide +kernel
theorem dX0_version_2 : decode cX0_version 2 = .ok (.invokevirtual 54, 3) := by decide +kernel
theorem dX0_version_5 : decode cX0_version 5 = .ok (.aload_n 0, 1) := by decide +kernel
theorem dX0_version_6 : decode cX0_version 6 = .ok (.getfield 33, 3) := by decide +kernel
theorem dX0_version_9 : decode cX0_version 9 = .ok (.iload_n 1, 1) := by decide +kernel
theorem dX0_version_10 : decode cX0_version 10 = .ok (.laload, 1) := by decide +kernel
theorem dX0_version_11 : decode cX0_version 11 = .ok (.lreturn, 1) := by decide +kernel
set_option maxRecDepth 20000 in
theorem ggX0_heads_X0_checkAuthor : GoodIn wsX0_heads wsX0_checkAuthor := goodIn_ca (goodIn_r _ [6, 7, 8] (by decide +kernel) (by decide +kernel)) (goodIn_sub (fun _ h => List.mem_cons_of_mem _ (List.mem_append_right _ h)) (by decide +kernel))
set_option maxRecDepth 20000 in
theorem gX0_heads_X0_checkAuthor : GoodIn wsX0_heads (wsV RX0 54 RX0 yX0_checkAuthor wsX0_checkAuthor) := goodIn_app (goodIn_of _ (by decide +kernel)) ggX0_heads_X0_checkAuthor
set_option maxRecDepth 20000 in
theorem ggX0_heads_X0_headsOf : GoodIn wsX0_heads wsX0_headsOf := goodIn_r _ [12, 13, 14, 15, 16, 17, 5, 18, 19, 20, 21, 22, 23, 24, 25, 26, 27, 28, 29, 30, 31, 32, 33, 34, 35] (by decide +kernel) (by decide +kernel)
set_option maxRecDepth 20000 in
theorem gX0_heads_X0_headsOf : GoodIn wsX0_heads (wsV RX0 105 RX0 yX0_headsOf wsX0_headsOf) := goodIn_app (goodIn_of _ (by decide +kernel)) ggX0_heads_X0_headsOf
theorem dX0_heads_0 : decode cX0_heads 0 = .ok (.aload_n 0, 1) := by decide +kernel
theorem dX0_heads_1 : decode cX0_heads 1 = .ok (.iload_n 1, 1) := by decide +kernel
theorem dX0_heads_2 : decode cX0_heads 2 = .ok (.invokevirtual 54, 3) := by decide +kernel
theorem dX0_heads_5 : decode cX0_heads 5 = .ok (.aload_n 0, 1) := by decide +kernel
theorem dX0_heads_6 : decode cX0_heads 6 = .ok (.aload_n 0, 1) := by decide +kernel
theorem dX0_heads_7 : decode cX0_heads 7 = .ok (.getfield 33, 3) := by decide +kernel
theorem dX0_heads_10 : decode cX0_heads 10 = .ok (.iload_n 1, 1) := by decide +kernel
theorem dX0_heads_11 : decode cX0_heads 11 = .ok (.laload, 1) := by decide +kernel
theorem dX0_heads_12 : decode cX0_heads 12 = .ok (.invokevirtual 105, 3) := by decide +kernel
theorem dX0_heads_15 : decode cX0_heads 15 = .ok (.lreturn, 1) := by decide +kernel
set_option maxRecDepth 20000 in
theorem ggX0_commonHeads_X0_checkAuthor : GoodIn wsX0_commonHeads wsX0_checkAuthor := goodIn_ca (goodIn_r _ [6, 7, 8] (by decide +kernel) (by decide +kernel)) (goodIn_sub (fun _ h => List.mem_cons_of_mem _ (List.mem_append_right _ h)) (by decide +kernel))
set_option maxRecDepth 20000 in
theorem gX0_commonHeads_X0_checkAuthor : GoodIn wsX0_commonHeads (wsV RX0 54 RX0 yX0_checkAuthor wsX0_checkAuthor) := goodIn_app (goodIn_of _ (by decide +kernel)) ggX0_commonHeads_X0_checkAuthor
set_option maxRecDepth 20000 in
theorem ggX0_commonHeads_X0_headsOf : GoodIn wsX0_commonHeads wsX0_headsOf := goodIn_r _ [12, 13, 14, 15, 16, 17, 5, 18, 19, 20, 21, 22, 23, 24, 25, 26, 27, 28, 29, 30, 31, 32, 33, 34, 35] (by decide +kernel) (by decide +kernel)
set_option maxRecDepth 20000 in
theorem gX0_commonHeads_X0_headsOf : GoodIn wsX0_commonHeads (wsV RX0 105 RX0 yX0_headsOf wsX0_headsOf) := goodIn_app (goodIn_of _ (by decide +kernel)) ggX0_commonHeads_X0_headsOf
theorem dX0_commonHeads_0 : decode cX0_commonHeads 0 = .ok (.aload_n 0, 1) := by decide +kernel
theorem dX0_commonHeads_1 : decode cX0_commonHeads 1 = .ok (.iload_n 1, 1) := by decide +kernel
theorem dX0_commonHeads_2 : decode cX0_commonHeads 2 = .ok (.invokevirtual 54, 3) := by decide +kernel
theorem dX0_commonHeads_5 : decode cX0_commonHeads 5 = .ok (.aload_n 0, 1) := by decide +kernel
theorem dX0_commonHeads_6 : decode cX0_commonHeads 6 = .ok (.iload_n 2, 1) := by decide +kernel
theorem dX0_commonHeads_7 : decode cX0_commonHeads 7 = .ok (.invokevirtual 54, 3) := by decide +kernel
theorem dX0_commonHeads_10 : decode cX0_commonHeads 10 = .ok (.aload_n 0, 1) := by decide +kernel
theorem dX0_commonHeads_11 : decode cX0_commonHeads 11 = .ok (.aload_n 0, 1) := by decide +kernel
theorem dX0_commonHeads_12 : decode cX0_commonHeads 12 = .ok (.getfield 33, 3) := by decide +kernel
theorem dX0_commonHeads_15 : decode cX0_commonHeads 15 = .ok (.iload_n 1, 1) := by decide +kernel
theorem dX0_commonHeads_16 : decode cX0_commonHeads 16 = .ok (.laload, 1) := by decide +kernel
theorem dX0_commonHeads_17 : decode cX0_commonHeads 17 = .ok (.aload_n 0, 1) := by decide +kernel
theorem dX0_commonHeads_18 : decode cX0_commonHeads 18 = .ok (.getfield 33, 3) := by decide +kernel
theorem dX0_commonHeads_21 : decode cX0_commonHeads 21 = .ok (.iload_n 2, 1) := by decide +kernel
theorem dX0_commonHeads_22 : decode cX0_commonHeads 22 = .ok (.laload, 1) := by decide +kernel
theorem dX0_commonHeads_23 : decode cX0_commonHeads 23 = .ok (.land, 1) := by decide +kernel
theorem dX0_commonHeads_24 : decode cX0_commonHeads 24 = .ok (.invokevirtual 105, 3) := by decide +kernel
theorem dX0_commonHeads_27 : decode cX0_commonHeads 27 = .ok (.lreturn, 1) := by decide +kernel
set_option maxRecDepth 20000 in
theorem ggX0_concurrent_X0_checkAuthor : GoodIn wsX0_concurrent wsX0_checkAuthor := goodIn_ca (goodIn_r _ [8, 9, 10] (by decide +kernel) (by decide +kernel)) (goodIn_sub (fun _ h => List.mem_cons_of_mem _ (List.mem_append_right _ h)) (by decide +kernel))
set_option maxRecDepth 20000 in
theorem gX0_concurrent_X0_checkAuthor : GoodIn wsX0_concurrent (wsV RX0 54 RX0 yX0_checkAuthor wsX0_checkAuthor) := goodIn_app (goodIn_of _ (by decide +kernel)) ggX0_concurrent_X0_checkAuthor
set_option maxRecDepth 20000 in
theorem ggX0_concurrent_X0_has : GoodIn wsX0_concurrent wsX0_has := goodIn_r _ [13, 14, 15, 7, 16] (by decide +kernel) (by decide +kernel)
set_option maxRecDepth 20000 in
theorem gX0_concurrent_X0_has : GoodIn wsX0_concurrent (va_wsS RX0 101 yX0_has wsX0_has) := goodIn_app (goodIn_of _ (by decide +kernel)) ggX0_concurrent_X0_has
set_option maxRecDepth 20000 in
theorem ggX0_concurrent_X0_relatedTo : GoodIn wsX0_concurrent wsX0_relatedTo := goodIn_r _ [20, 21, 22, 23, 24, 7, 25, 26, 14, 15, 16, 34, 35, 36, 37, 38, 39, 40, 41, 42, 43, 44, 45, 46, 47] (by decide +kernel) (by decide +kernel)
set_option maxRecDepth 20000 in
theorem gX0_concurrent_X0_relatedTo : GoodIn wsX0_concurrent (wsV RX0 109 RX0 yX0_relatedTo wsX0_relatedTo) := goodIn_app (goodIn_of _ (by decide +kernel)) ggX0_concurrent_X0_relatedTo
set_option maxRecDepth 20000 in
theorem ggX0_concurrent_J13_bitCount_95d88 : GoodIn wsX0_concurrent wsJ13_bitCount_95d88 := goodIn_r _ [30, 31, 32, 33] (by decide +kernel) (by decide +kernel)
set_option maxRecDepth 20000 in
theorem gX0_concurrent_J13_bitCount_95d88 : GoodIn wsX0_concurrent (va_wsS RX0 114 yJ13_bitCount_95d88 wsJ13_bitCount_95d88) := goodIn_app (goodIn_of _ (by decide +kernel)) ggX0_concurrent_J13_bitCount_95d88
theorem dX0_concurrent_0 : decode cX0_concurrent 0 = .ok (.aload_n 0, 1) := by decide +kernel
theorem dX0_concurrent_1 : decode cX0_concurrent 1 = .ok (.iload_n 1, 1) := by decide +kernel
theorem dX0_concurrent_2 : decode cX0_concurrent 2 = .ok (.invokevirtual 54, 3) := by decide +kernel
theorem dX0_concurrent_5 : decode cX0_concurrent 5 = .ok (.aload_n 0, 1) := by decide +kernel
theorem dX0_concurrent_6 : decode cX0_concurrent 6 = .ok (.getfield 33, 3) := by decide +kernel
theorem dX0_concurrent_9 : decode cX0_concurrent 9 = .ok (.iload_n 1, 1) := by decide +kernel
theorem dX0_concurrent_10 : decode cX0_concurrent 10 = .ok (.laload, 1) := by decide +kernel
theorem dX0_concurrent_11 : decode cX0_concurrent 11 = .ok (.lstore_n 2, 1) := by decide +kernel
theorem dX0_concurrent_12 : decode cX0_concurrent 12 = .ok (.iconst 0, 1) := by decide +kernel
theorem dX0_concurrent_13 : decode cX0_concurrent 13 = .ok (.istore 4, 2) := by decide +kernel
theorem dX0_concurrent_15 : decode cX0_concurrent 15 = .ok (.iconst 0, 1) := by decide +kernel
theorem dX0_concurrent_16 : decode cX0_concurrent 16 = .ok (.istore 5, 2) := by decide +kernel
theorem dX0_concurrent_18 : decode cX0_concurrent 18 = .ok (.iload 5, 2) := by decide +kernel
theorem dX0_concurrent_20 : decode cX0_concurrent 20 = .ok (.aload_n 0, 1) := by decide +kernel
theorem dX0_concurrent_21 : decode cX0_concurrent 21 = .ok (.getfield 7, 3) := by decide +kernel
theorem dX0_concurrent_24 : decode cX0_concurrent 24 = .ok (.if_icmp .ge 38, 3) := by decide +kernel
theorem dX0_concurrent_27 : decode cX0_concurrent 27 = .ok (.lload_n 2, 1) := by decide +kernel
theorem dX0_concurrent_28 : decode cX0_concurrent 28 = .ok (.iload 5, 2) := by decide +kernel
theorem dX0_concurrent_30 : decode cX0_concurrent 30 = .ok (.invokestatic 101, 3) := by decide +kernel
theorem dX0_concurrent_33 : decode cX0_concurrent 33 = .ok (.ifCond .eq 23, 3) := by decide +kernel
theorem dX0_concurrent_36 : decode cX0_concurrent 36 = .ok (.iload 4, 2) := by decide +kernel
theorem dX0_concurrent_38 : decode cX0_concurrent 38 = .ok (.lload_n 2, 1) := by decide +kernel
theorem dX0_concurrent_39 : decode cX0_concurrent 39 = .ok (.aload_n 0, 1) := by decide +kernel
theorem dX0_concurrent_40 : decode cX0_concurrent 40 = .ok (.iload 5, 2) := by decide +kernel
theorem dX0_concurrent_42 : decode cX0_concurrent 42 = .ok (.invokevirtual 109, 3) := by decide +kernel
theorem dX0_concurrent_45 : decode cX0_concurrent 45 = .ok (.ldc2_w 112, 3) := by decide +kernel
theorem dX0_concurrent_48 : decode cX0_concurrent 48 = .ok (.lxor, 1) := by decide +kernel
theorem dX0_concurrent_49 : decode cX0_concurrent 49 = .ok (.land, 1) := by decide +kernel
theorem dX0_concurrent_50 : decode cX0_concurrent 50 = .ok (.invokestatic 114, 3) := by decide +kernel
theorem dX0_concurrent_53 : decode cX0_concurrent 53 = .ok (.iadd, 1) := by decide +kernel
theorem dX0_concurrent_54 : decode cX0_concurrent 54 = .ok (.istore 4, 2) := by decide +kernel
theorem dX0_concurrent_56 : decode cX0_concurrent 56 = .ok (.iinc 5 1, 3) := by decide +kernel
theorem dX0_concurrent_59 : decode cX0_concurrent 59 = .ok (.goto (-41), 3) := by decide +kernel
theorem dX0_concurrent_62 : decode cX0_concurrent 62 = .ok (.iload 4, 2) := by decide +kernel
theorem dX0_concurrent_64 : decode cX0_concurrent 64 = .ok (.iconst 1, 1) := by decide +kernel
theorem dX0_concurrent_65 : decode cX0_concurrent 65 = .ok (.ishr, 1) := by decide +kernel
theorem dX0_concurrent_66 : decode cX0_concurrent 66 = .ok (.ireturn, 1) := by decide +kernel
set_option maxRecDepth 20000 in
theorem ggX0_critical_X0_checkAuthor : GoodIn wsX0_critical wsX0_checkAuthor := goodIn_ca (goodIn_r _ [6, 7, 8] (by decide +kernel) (by decide +kernel)) (goodIn_sub (fun _ h => List.mem_cons_of_mem _ (List.mem_append_right _ h)) (by decide +kernel))
set_option maxRecDepth 20000 in
theorem gX0_critical_X0_checkAuthor : GoodIn wsX0_critical (wsV RX0 54 RX0 yX0_checkAuthor wsX0_checkAuthor) := goodIn_app (goodIn_of _ (by decide +kernel)) ggX0_critical_X0_checkAuthor
set_option maxRecDepth 20000 in
theorem ggX0_critical_X0_criticalOf : GoodIn wsX0_critical wsX0_criticalOf := goodIn_r _ [12, 13, 14, 15, 16, 5, 17, 18, 19, 20, 21, 22, 23, 24, 25, 26, 27, 28, 29, 30, 31, 32, 33, 34, 35, 36, 37, 38, 39, 40, 41, 42, 43, 44] (by decide +kernel) (by decide +kernel)
set_option maxRecDepth 20000 in
theorem gX0_critical_X0_criticalOf : GoodIn wsX0_critical (wsV RX0 119 RX0 yX0_criticalOf wsX0_criticalOf) := goodIn_app (goodIn_of _ (by decide +kernel)) ggX0_critical_X0_criticalOf
theorem dX0_critical_0 : decode cX0_critical 0 = .ok (.aload_n 0, 1) := by decide +kernel
theorem dX0_critical_1 : decode cX0_critical 1 = .ok (.iload_n 1, 1) := by decide +kernel
theorem dX0_critical_2 : decode cX0_critical 2 = .ok (.invokevirtual 54, 3) := by decide +kernel
theorem dX0_critical_5 : decode cX0_critical 5 = .ok (.aload_n 0, 1) := by decide +kernel
theorem dX0_critical_6 : decode cX0_critical 6 = .ok (.aload_n 0, 1) := by decide +kernel
theorem dX0_critical_7 : decode cX0_critical 7 = .ok (.getfield 33, 3) := by decide +kernel
theorem dX0_critical_10 : decode cX0_critical 10 = .ok (.iload_n 1, 1) := by decide +kernel
theorem dX0_critical_11 : decode cX0_critical 11 = .ok (.laload, 1) := by decide +kernel
theorem dX0_critical_12 : decode cX0_critical 12 = .ok (.invokevirtual 119, 3) := by decide +kernel
theorem dX0_critical_15 : decode cX0_critical 15 = .ok (.lreturn, 1) := by decide +kernel
set_option maxRecDepth 20000 in
theorem ggX0_toReplay_X0_checkAuthor : GoodIn wsX0_toReplay wsX0_checkAuthor := goodIn_ca (goodIn_r _ [8, 9, 10] (by decide +kernel) (by decide +kernel)) (goodIn_sub (fun _ h => List.mem_cons_of_mem _ (List.mem_append_right _ h)) (by decide +kernel))
set_option maxRecDepth 20000 in
theorem gX0_toReplay_X0_checkAuthor : GoodIn wsX0_toReplay (wsV RX0 54 RX0 yX0_checkAuthor wsX0_checkAuthor) := goodIn_app (goodIn_of _ (by decide +kernel)) ggX0_toReplay_X0_checkAuthor
set_option maxRecDepth 20000 in
theorem ggX0_toReplay_X0_criticalOf : GoodIn wsX0_toReplay wsX0_criticalOf := goodIn_r _ [14, 2, 3, 15, 16, 7, 17, 18, 19, 20, 21, 22, 23, 24, 25, 26, 27, 28, 29, 30, 38, 39, 40, 41, 42, 43, 44, 45, 46, 47, 48, 49, 50, 51] (by decide +kernel) (by decide +kernel)
set_option maxRecDepth 20000 in
theorem gX0_toReplay_X0_criticalOf : GoodIn wsX0_toReplay (wsV RX0 119 RX0 yX0_criticalOf wsX0_criticalOf) := goodIn_app (goodIn_of _ (by decide +kernel)) ggX0_toReplay_X0_criticalOf
set_option maxRecDepth 20000 in
theorem ggX0_toReplay_X0_has : GoodIn wsX0_toReplay wsX0_has := goodIn_r _ [17, 18, 19, 7, 20] (by decide +kernel) (by decide +kernel)
set_option maxRecDepth 20000 in
theorem gX0_toReplay_X0_has : GoodIn wsX0_toReplay (va_wsS RX0 101 yX0_has wsX0_has) := goodIn_app (goodIn_of _ (by decide +kernel)) ggX0_toReplay_X0_has
set_option maxRecDepth 20000 in
theorem ggX0_toReplay_X0_versionOfEvent : GoodIn wsX0_toReplay wsX0_versionOfEvent := goodIn_r _ [29, 30, 18, 19, 7, 20, 38, 39, 40, 41, 42, 43, 44, 45, 46, 47, 48, 49, 50, 51] (by decide +kernel) (by decide +kernel)
set_option maxRecDepth 20000 in
theorem gX0_toReplay_X0_versionOfEvent : GoodIn wsX0_toReplay (wsV RX0 90 RX0 yX0_versionOfEvent wsX0_versionOfEvent) := goodIn_app (goodIn_of _ (by decide +kernel)) ggX0_toReplay_X0_versionOfEvent
set_option maxRecDepth 20000 in
theorem ggX0_toReplay_J13_bitCount_95d88 : GoodIn wsX0_toReplay wsJ13_bitCount_95d88 := goodIn_r _ [34, 35, 36, 37] (by decide +kernel) (by decide +kernel)
set_option maxRecDepth 20000 in
theorem gX0_toReplay_J13_bitCount_95d88 : GoodIn wsX0_toReplay (va_wsS RX0 114 yJ13_bitCount_95d88 wsJ13_bitCount_95d88) := goodIn_app (goodIn_of _ (by decide +kernel)) ggX0_toReplay_J13_bitCount_95d88
theorem dX0_toReplay_0 : decode cX0_toReplay 0 = .ok (.aload_n 0, 1) := by decide +kernel
theorem dX0_toReplay_1 : decode cX0_toReplay 1 = .ok (.iload_n 1, 1) := by decide +kernel
theorem dX0_toReplay_2 : decode cX0_toReplay 2 = .ok (.invokevirtual 54, 3) := by decide +kernel
theorem dX0_toReplay_5 : decode cX0_toReplay 5 = .ok (.aload_n 0, 1) := by decide +kernel
theorem dX0_toReplay_6 : decode cX0_toReplay 6 = .ok (.getfield 33, 3) := by decide +kernel
theorem dX0_toReplay_9 : decode cX0_toReplay 9 = .ok (.iload_n 1, 1) := by decide +kernel
theorem dX0_toReplay_10 : decode cX0_toReplay 10 = .ok (.laload, 1) := by decide +kernel
theorem dX0_toReplay_11 : decode cX0_toReplay 11 = .ok (.lstore_n 2, 1) := by decide +kernel
theorem dX0_toReplay_12 : decode cX0_toReplay 12 = .ok (.aload_n 0, 1) := by decide +kernel
theorem dX0_toReplay_13 : decode cX0_toReplay 13 = .ok (.lload_n 2, 1) := by decide +kernel
theorem dX0_toReplay_14 : decode cX0_toReplay 14 = .ok (.invokevirtual 119, 3) := by decide +kernel
theorem dX0_toReplay_17 : decode cX0_toReplay 17 = .ok (.lstore 4, 2) := by decide +kernel
theorem dX0_toReplay_19 : decode cX0_toReplay 19 = .ok (.lconst 0, 1) := by decide +kernel
theorem dX0_toReplay_20 : decode cX0_toReplay 20 = .ok (.lstore 6, 2) := by decide +kernel
theorem dX0_toReplay_22 : decode cX0_toReplay 22 = .ok (.iconst 0, 1) := by decide +kernel
theorem dX0_toReplay_23 : decode cX0_toReplay 23 = .ok (.istore 8, 2) := by decide +kernel
theorem dX0_toReplay_25 : decode cX0_toReplay 25 = .ok (.iload 8, 2) := by decide +kernel
theorem dX0_toReplay_27 : decode cX0_toReplay 27 = .ok (.aload_n 0, 1) := by decide +kernel
theorem dX0_toReplay_28 : decode cX0_toReplay 28 = .ok (.getfield 7, 3) := by decide +kernel
theorem dX0_toReplay_31 : decode cX0_toReplay 31 = .ok (.if_icmp .ge 27, 3) := by decide +kernel
theorem dX0_toReplay_34 : decode cX0_toReplay 34 = .ok (.lload 4, 2) := by decide +kernel
theorem dX0_toReplay_36 : decode cX0_toReplay 36 = .ok (.iload 8, 2) := by decide +kernel
theorem dX0_toReplay_38 : decode cX0_toReplay 38 = .ok (.invokestatic 101, 3) := by decide +kernel
theorem dX0_toReplay_41 : decode cX0_toReplay 41 = .ok (.ifCond .eq 11, 3) := by decide +kernel
theorem dX0_toReplay_44 : decode cX0_toReplay 44 = .ok (.aload_n 0, 1) := by decide +kernel
theorem dX0_toReplay_45 : decode cX0_toReplay 45 = .ok (.iload 8, 2) := by decide +kernel
theorem dX0_toReplay_47 : decode cX0_toReplay 47 = .ok (.invokevirtual 90, 3) := by decide +kernel
theorem dX0_toReplay_50 : decode cX0_toReplay 50 = .ok (.lstore 6, 2) := by decide +kernel
theorem dX0_toReplay_52 : decode cX0_toReplay 52 = .ok (.iinc 8 1, 3) := by decide +kernel
theorem dX0_toReplay_55 : decode cX0_toReplay 55 = .ok (.goto (-30), 3) := by decide +kernel
theorem dX0_toReplay_58 : decode cX0_toReplay 58 = .ok (.lload_n 2, 1) := by decide +kernel
theorem dX0_toReplay_59 : decode cX0_toReplay 59 = .ok (.lload 6, 2) := by decide +kernel
theorem dX0_toReplay_61 : decode cX0_toReplay 61 = .ok (.ldc2_w 112, 3) := by decide +kernel
theorem dX0_toReplay_64 : decode cX0_toReplay 64 = .ok (.lxor, 1) := by decide +kernel
theorem dX0_toReplay_65 : decode cX0_toReplay 65 = .ok (.land, 1) := by decide +kernel
theorem dX0_toReplay_66 : decode cX0_toReplay 66 = .ok (.invokestatic 114, 3) := by decide +kernel
theorem dX0_toReplay_69 : decode cX0_toReplay 69 = .ok (.ireturn, 1) := by decide +kernel
set_option maxRecDepth 20000 in
theorem ggX0_runs_X0_checkAuthor : GoodIn wsX0_runs wsX0_checkAuthor := goodIn_ca (goodIn_r _ [7, 8, 9] (by decide +kernel) (by decide +kernel)) (goodIn_sub (fun _ h => List.mem_cons_of_mem _ (List.mem_append_right _ h)) (by decide +kernel))
set_option maxRecDepth 20000 in
theorem gX0_runs_X0_checkAuthor : GoodIn wsX0_runs (wsV RX0 54 RX0 yX0_checkAuthor wsX0_checkAuthor) := goodIn_app (goodIn_of _ (by decide +kernel)) ggX0_runs_X0_checkAuthor
set_option maxRecDepth 20000 in
theorem ggX0_runs_X0_has : GoodIn wsX0_runs wsX0_has := goodIn_r _ [12, 13, 14, 6, 15] (by decide +kernel) (by decide +kernel)
set_option maxRecDepth 20000 in
theorem gX0_runs_X0_has : GoodIn wsX0_runs (va_wsS RX0 101 yX0_has wsX0_has) := goodIn_app (goodIn_of _ (by decide +kernel)) ggX0_runs_X0_has
set_option maxRecDepth 20000 in
theorem ggX0_runs_X0_continuesRun : GoodIn wsX0_runs wsX0_continuesRun := goodIn_r _ [19, 20, 21, 22, 23, 24, 25, 6, 26, 27, 28, 29, 30, 31, 2, 13, 14, 15, 32, 33, 34, 35, 36, 37, 38, 39, 40, 41, 42, 43, 44, 45] (by decide +kernel) (by decide +kernel)
set_option maxRecDepth 20000 in
theorem gX0_runs_X0_continuesRun : GoodIn wsX0_runs (wsV RX0 122 RX0 yX0_continuesRun wsX0_continuesRun) := goodIn_app (goodIn_of _ (by decide +kernel)) ggX0_runs_X0_continuesRun
theorem dX0_runs_0 : decode cX0_runs 0 = .ok (.aload_n 0, 1) := by decide +kernel
theorem dX0_runs_1 : decode cX0_runs 1 = .ok (.iload_n 1, 1) := by decide +kernel
theorem dX0_runs_2 : decode cX0_runs 2 = .ok (.invokevirtual 54, 3) := by decide +kernel
theorem dX0_runs_5 : decode cX0_runs 5 = .ok (.aload_n 0, 1) := by decide +kernel
theorem dX0_runs_6 : decode cX0_runs 6 = .ok (.getfield 33, 3) := by decide +kernel
theorem dX0_runs_9 : decode cX0_runs 9 = .ok (.iload_n 1, 1) := by decide +kernel
theorem dX0_runs_10 : decode cX0_runs 10 = .ok (.laload, 1) := by decide +kernel
theorem dX0_runs_11 : decode cX0_runs 11 = .ok (.lstore_n 2, 1) := by decide +kernel
theorem dX0_runs_12 : decode cX0_runs 12 = .ok (.iconst 0, 1) := by decide +kernel
theorem dX0_runs_13 : decode cX0_runs 13 = .ok (.istore 4, 2) := by decide +kernel
theorem dX0_runs_15 : decode cX0_runs 15 = .ok (.iconst 0, 1) := by decide +kernel
theorem dX0_runs_16 : decode cX0_runs 16 = .ok (.istore 5, 2) := by decide +kernel
theorem dX0_runs_18 : decode cX0_runs 18 = .ok (.iload 5, 2) := by decide +kernel
theorem dX0_runs_20 : decode cX0_runs 20 = .ok (.aload_n 0, 1) := by decide +kernel
theorem dX0_runs_21 : decode cX0_runs 21 = .ok (.getfield 7, 3) := by decide +kernel
theorem dX0_runs_24 : decode cX0_runs 24 = .ok (.if_icmp .ge 30, 3) := by decide +kernel
theorem dX0_runs_27 : decode cX0_runs 27 = .ok (.lload_n 2, 1) := by decide +kernel
theorem dX0_runs_28 : decode cX0_runs 28 = .ok (.iload 5, 2) := by decide +kernel
theorem dX0_runs_30 : decode cX0_runs 30 = .ok (.invokestatic 101, 3) := by decide +kernel
theorem dX0_runs_33 : decode cX0_runs 33 = .ok (.ifCond .eq 15, 3) := by decide +kernel
theorem dX0_runs_36 : decode cX0_runs 36 = .ok (.aload_n 0, 1) := by decide +kernel
theorem dX0_runs_37 : decode cX0_runs 37 = .ok (.iload 5, 2) := by decide +kernel
theorem dX0_runs_39 : decode cX0_runs 39 = .ok (.invokevirtual 122, 3) := by decide +kernel
theorem dX0_runs_42 : decode cX0_runs 42 = .ok (.ifCond .ne 6, 3) := by decide +kernel
theorem dX0_runs_45 : decode cX0_runs 45 = .ok (.iinc 4 1, 3) := by decide +kernel
theorem dX0_runs_48 : decode cX0_runs 48 = .ok (.iinc 5 1, 3) := by decide +kernel
theorem dX0_runs_51 : decode cX0_runs 51 = .ok (.goto (-33), 3) := by decide +kernel
theorem dX0_runs_54 : decode cX0_runs 54 = .ok (.iload 4, 2) := by decide +kernel
theorem dX0_runs_56 : decode cX0_runs 56 = .ok (.ireturn, 1) := by decide +kernel
theorem dX0_checkAuthor_0 : decode cX0_checkAuthor 0 = .ok (.iload_n 1, 1) := by decide +kernel
theorem dX0_checkAuthor_1 : decode cX0_checkAuthor 1 = .ok (.ifCond .lt 8, 3) := by decide +kernel
theorem dX0_checkAuthor_4 : decode cX0_checkAuthor 4 = .ok (.iload_n 1, 1) := by decide +kernel
theorem dX0_checkAuthor_5 : decode cX0_checkAuthor 5 = .ok (.iconst 4, 1) := by decide +kernel
theorem dX0_checkAuthor_6 : decode cX0_checkAuthor 6 = .ok (.if_icmp .lt 13, 3) := by decide +kernel
theorem dX0_checkAuthor_9 : decode cX0_checkAuthor 9 = .ok (.new 126, 3) := by decide +kernel
theorem dX0_checkAuthor_12 : decode cX0_checkAuthor 12 = .ok (.dup, 1) := by decide +kernel
theorem dX0_checkAuthor_13 : decode cX0_checkAuthor 13 = .ok (.ldc 128, 2) := by decide +kernel
theorem dX0_checkAuthor_15 : decode cX0_checkAuthor 15 = .ok (.invokespecial 130, 3) := by decide +kernel
theorem dX0_checkAuthor_18 : decode cX0_checkAuthor 18 = .ok (.athrow, 1) := by decide +kernel
theorem dX0_checkAuthor_19 : decode cX0_checkAuthor 19 = .ok (.return_, 1) := by decide +kernel
set_option maxRecDepth 20000 in
theorem ggX0_checkEvent_X0_isEvent : GoodIn wsX0_checkEvent wsX0_isEvent := goodIn_r _ [7, 8, 9, 10, 11, 12, 13, 14, 15, 16, 17, 18, 19, 20, 21, 22] (by decide +kernel) (by decide +kernel)
set_option maxRecDepth 20000 in
theorem gX0_checkEvent_X0_isEvent : GoodIn wsX0_checkEvent (wsV RX0 131 RX0 yX0_isEvent wsX0_isEvent) := goodIn_app (goodIn_of _ (by decide +kernel)) ggX0_checkEvent_X0_isEvent
theorem dX0_checkEvent_0 : decode cX0_checkEvent 0 = .ok (.aload_n 0, 1) := by decide +kernel
theorem dX0_checkEvent_1 : decode cX0_checkEvent 1 = .ok (.iload_n 1, 1) := by decide +kernel
theorem dX0_checkEvent_2 : decode cX0_checkEvent 2 = .ok (.invokevirtual 131, 3) := by decide +kernel
theorem dX0_checkEvent_5 : decode cX0_checkEvent 5 = .ok (.ifCond .ne 13, 3) := by decide +kernel
theorem dX0_checkEvent_8 : decode cX0_checkEvent 8 = .ok (.new 126, 3) := by decide +kernel
theorem dX0_checkEvent_11 : decode cX0_checkEvent 11 = .ok (.dup, 1) := by decide +kernel
theorem dX0_checkEvent_12 : decode cX0_checkEvent 12 = .ok (.ldc 134, 2) := by decide +kernel
theorem dX0_checkEvent_14 : decode cX0_checkEvent 14 = .ok (.invokespecial 130, 3) := by decide +kernel
theorem dX0_checkEvent_17 : decode cX0_checkEvent 17 = .ok (.athrow, 1) := by decide +kernel
theorem dX0_checkEvent_18 : decode cX0_checkEvent 18 = .ok (.return_, 1) := by decide +kernel
theorem dX0_checkPlace_0 : decode cX0_checkPlace 0 = .ok (.iload_n 1, 1) := by decide +kernel
theorem dX0_checkPlace_1 : decode cX0_checkPlace 1 = .ok (.ifCond .lt 8, 3) := by decide +kernel
theorem dX0_checkPlace_4 : decode cX0_checkPlace 4 = .ok (.iload_n 1, 1) := by decide +kernel
theorem dX0_checkPlace_5 : decode cX0_checkPlace 5 = .ok (.iload_n 2, 1) := by decide +kernel
theorem dX0_checkPlace_6 : decode cX0_checkPlace 6 = .ok (.if_icmp .lt 13, 3) := by decide +kernel
theorem dX0_checkPlace_9 : decode cX0_checkPlace 9 = .ok (.new 126, 3) := by decide +kernel
theorem dX0_checkPlace_12 : decode cX0_checkPlace 12 = .ok (.dup, 1) := by decide +kernel
theorem dX0_checkPlace_13 : decode cX0_checkPlace 13 = .ok (.ldc 136, 2) := by decide +kernel
theorem dX0_checkPlace_15 : decode cX0_checkPlace 15 = .ok (.invokespecial 130, 3) := by decide +kernel
theorem dX0_checkPlace_18 : decode cX0_checkPlace 18 = .ok (.athrow, 1) := by decide +kernel
theorem dX0_checkPlace_19 : decode cX0_checkPlace 19 = .ok (.return_, 1) := by decide +kernel
theorem dX0_checkRoom_0 : decode cX0_checkRoom 0 = .ok (.aload_n 0, 1) := by decide +kernel
theorem dX0_checkRoom_1 : decode cX0_checkRoom 1 = .ok (.getfield 7, 3) := by decide +kernel
theorem dX0_checkRoom_4 : decode cX0_checkRoom 4 = .ok (.bipush 60, 2) := by decide +kernel
theorem dX0_checkRoom_6 : decode cX0_checkRoom 6 = .ok (.if_icmp .lt 13, 3) := by decide +kernel
theorem dX0_checkRoom_9 : decode cX0_checkRoom 9 = .ok (.new 138, 3) := by decide +kernel
theorem dX0_checkRoom_12 : decode cX0_checkRoom 12 = .ok (.dup, 1) := by decide +kernel
theorem dX0_checkRoom_13 : decode cX0_checkRoom 13 = .ok (.ldc 140, 2) := by decide +kernel
theorem dX0_checkRoom_15 : decode cX0_checkRoom 15 = .ok (.invokespecial 142, 3) := by decide +kernel
theorem dX0_checkRoom_18 : decode cX0_checkRoom 18 = .ok (.athrow, 1) := by decide +kernel
theorem dX0_checkRoom_19 : decode cX0_checkRoom 19 = .ok (.return_, 1) := by decide +kernel
theorem dX0_isEvent_0 : decode cX0_isEvent 0 = .ok (.iload_n 1, 1) := by decide +kernel
theorem dX0_isEvent_1 : decode cX0_isEvent 1 = .ok (.ifCond .lt 15, 3) := by decide +kernel
theorem dX0_isEvent_4 : decode cX0_isEvent 4 = .ok (.iload_n 1, 1) := by decide +kernel
theorem dX0_isEvent_5 : decode cX0_isEvent 5 = .ok (.aload_n 0, 1) := by decide +kernel
theorem dX0_isEvent_6 : decode cX0_isEvent 6 = .ok (.getfield 7, 3) := by decide +kernel
theorem dX0_isEvent_9 : decode cX0_isEvent 9 = .ok (.if_icmp .ge 7, 3) := by decide +kernel
theorem dX0_isEvent_12 : decode cX0_isEvent 12 = .ok (.iconst 1, 1) := by decide +kernel
theorem dX0_isEvent_13 : decode cX0_isEvent 13 = .ok (.goto 4, 3) := by decide +kernel
theorem dX0_isEvent_16 : decode cX0_isEvent 16 = .ok (.iconst 0, 1) := by decide +kernel
theorem dX0_isEvent_17 : decode cX0_isEvent 17 = .ok (.ireturn, 1) := by decide +kernel
theorem dX0_only_0 : decode cX0_only 0 = .ok (.lconst 1, 1) := by decide +kernel
theorem dX0_only_1 : decode cX0_only 1 = .ok (.iload_n 0, 1) := by decide +kernel
theorem dX0_only_2 : decode cX0_only 2 = .ok (.lshl, 1) := by decide +kernel
theorem dX0_only_3 : decode cX0_only 3 = .ok (.lreturn, 1) := by decide +kernel
set_option maxRecDepth 20000 in
theorem ggX0_has_X0_only : GoodIn wsX0_has wsX0_only := goodIn_r _ [4] (by decide +kernel) (by decide +kernel)
set_option maxRecDepth 20000 in
theorem gX0_has_X0_only : GoodIn wsX0_has (va_wsS RX0 143 yX0_only wsX0_only) := goodIn_app (goodIn_of _ (by decide +kernel)) ggX0_has_X0_only
theorem dX0_has_0 : decode cX0_has 0 = .ok (.lload_n 0, 1) := by decide +kernel
theorem dX0_has_1 : decode cX0_has 1 = .ok (.iload_n 2, 1) := by decide +kernel
theorem dX0_has_2 : decode cX0_has 2 = .ok (.invokestatic 143, 3) := by decide +kernel
theorem dX0_has_5 : decode cX0_has 5 = .ok (.land, 1) := by decide +kernel
theorem dX0_has_6 : decode cX0_has 6 = .ok (.lconst 0, 1) := by decide +kernel
theorem dX0_has_7 : decode cX0_has 7 = .ok (.lcmp, 1) := by decide +kernel
theorem dX0_has_8 : decode cX0_has 8 = .ok (.ifCond .eq 7, 3) := by decide +kernel
theorem dX0_has_11 : decode cX0_has 11 = .ok (.iconst 1, 1) := by decide +kernel
theorem dX0_has_12 : decode cX0_has 12 = .ok (.goto 4, 3) := by decide +kernel
theorem dX0_has_15 : decode cX0_has 15 = .ok (.iconst 0, 1) := by decide +kernel
theorem dX0_has_16 : decode cX0_has 16 = .ok (.ireturn, 1) := by decide +kernel
set_option maxRecDepth 20000 in
theorem ggX0_versionOfEvent_X0_only : GoodIn wsX0_versionOfEvent wsX0_only := goodIn_r _ [5] (by decide +kernel) (by decide +kernel)
set_option maxRecDepth 20000 in
theorem gX0_versionOfEvent_X0_only : GoodIn wsX0_versionOfEvent (va_wsS RX0 143 yX0_only wsX0_only) := goodIn_app (goodIn_of _ (by decide +kernel)) ggX0_versionOfEvent_X0_only
theorem dX0_versionOfEvent_0 : decode cX0_versionOfEvent 0 = .ok (.aload_n 0, 1) := by decide +kernel
theorem dX0_versionOfEvent_1 : decode cX0_versionOfEvent 1 = .ok (.getfield 27, 3) := by decide +kernel
theorem dX0_versionOfEvent_4 : decode cX0_versionOfEvent 4 = .ok (.iload_n 1, 1) := by decide +kernel
theorem dX0_versionOfEvent_5 : decode cX0_versionOfEvent 5 = .ok (.laload, 1) := by decide +kernel
theorem dX0_versionOfEvent_6 : decode cX0_versionOfEvent 6 = .ok (.iload_n 1, 1) := by decide +kernel
theorem dX0_versionOfEvent_7 : decode cX0_versionOfEvent 7 = .ok (.invokestatic 143, 3) := by decide +kernel
theorem dX0_versionOfEvent_10 : decode cX0_versionOfEvent 10 = .ok (.lor, 1) := by decide +kernel
theorem dX0_versionOfEvent_11 : decode cX0_versionOfEvent 11 = .ok (.lreturn, 1) := by decide +kernel
set_option maxRecDepth 20000 in
theorem ggX0_relatedTo_X0_versionOfEvent : GoodIn wsX0_relatedTo wsX0_versionOfEvent := goodIn_r _ [6, 7, 8, 9, 5, 10, 11, 12, 13, 14, 15, 16, 17, 18, 19, 20, 21, 22, 23, 24] (by decide +kernel) (by decide +kernel)
set_option maxRecDepth 20000 in
theorem gX0_relatedTo_X0_versionOfEvent : GoodIn wsX0_relatedTo (wsV RX0 90 RX0 yX0_versionOfEvent wsX0_versionOfEvent) := goodIn_app (goodIn_of _ (by decide +kernel)) ggX0_relatedTo_X0_versionOfEvent
theorem dX0_relatedTo_0 : decode cX0_relatedTo 0 = .ok (.aload_n 0, 1) := by decide +kernel
theorem dX0_relatedTo_1 : decode cX0_relatedTo 1 = .ok (.iload_n 1, 1) := by decide +kernel
theorem dX0_relatedTo_2 : decode cX0_relatedTo 2 = .ok (.invokevirtual 90, 3) := by decide +kernel
theorem dX0_relatedTo_5 : decode cX0_relatedTo 5 = .ok (.aload_n 0, 1) := by decide +kernel
theorem dX0_relatedTo_6 : decode cX0_relatedTo 6 = .ok (.getfield 30, 3) := by decide +kernel
theorem dX0_relatedTo_9 : decode cX0_relatedTo 9 = .ok (.iload_n 1, 1) := by decide +kernel
theorem dX0_relatedTo_10 : decode cX0_relatedTo 10 = .ok (.laload, 1) := by decide +kernel
theorem dX0_relatedTo_11 : decode cX0_relatedTo 11 = .ok (.lor, 1) := by decide +kernel
theorem dX0_relatedTo_12 : decode cX0_relatedTo 12 = .ok (.lreturn, 1) := by decide +kernel
set_option maxRecDepth 20000 in
theorem ggX0_headsOf_X0_has : GoodIn wsX0_headsOf wsX0_has := goodIn_r _ [7, 8, 9, 6, 10] (by decide +kernel) (by decide +kernel)
set_option maxRecDepth 20000 in
theorem gX0_headsOf_X0_has : GoodIn wsX0_headsOf (va_wsS RX0 101 yX0_has wsX0_has) := goodIn_app (goodIn_of _ (by decide +kernel)) ggX0_headsOf_X0_has
theorem dX0_headsOf_0 : decode cX0_headsOf 0 = .ok (.lconst 0, 1) := by decide +kernel
theorem dX0_headsOf_1 : decode cX0_headsOf 1 = .ok (.lstore_n 3, 1) := by decide +kernel
theorem dX0_headsOf_2 : decode cX0_headsOf 2 = .ok (.iconst 0, 1) := by decide +kernel
theorem dX0_headsOf_3 : decode cX0_headsOf 3 = .ok (.istore 5, 2) := by decide +kernel
theorem dX0_headsOf_5 : decode cX0_headsOf 5 = .ok (.iload 5, 2) := by decide +kernel
theorem dX0_headsOf_7 : decode cX0_headsOf 7 = .ok (.aload_n 0, 1) := by decide +kernel
theorem dX0_headsOf_8 : decode cX0_headsOf 8 = .ok (.getfield 7, 3) := by decide +kernel
theorem dX0_headsOf_11 : decode cX0_headsOf 11 = .ok (.if_icmp .ge 28, 3) := by decide +kernel
theorem dX0_headsOf_14 : decode cX0_headsOf 14 = .ok (.lload_n 1, 1) := by decide +kernel
theorem dX0_headsOf_15 : decode cX0_headsOf 15 = .ok (.iload 5, 2) := by decide +kernel
theorem dX0_headsOf_17 : decode cX0_headsOf 17 = .ok (.invokestatic 101, 3) := by decide +kernel
theorem dX0_headsOf_20 : decode cX0_headsOf 20 = .ok (.ifCond .eq 13, 3) := by decide +kernel
theorem dX0_headsOf_23 : decode cX0_headsOf 23 = .ok (.lload_n 3, 1) := by decide +kernel
theorem dX0_headsOf_24 : decode cX0_headsOf 24 = .ok (.aload_n 0, 1) := by decide +kernel
theorem dX0_headsOf_25 : decode cX0_headsOf 25 = .ok (.getfield 23, 3) := by decide +kernel
theorem dX0_headsOf_28 : decode cX0_headsOf 28 = .ok (.iload 5, 2) := by decide +kernel
theorem dX0_headsOf_30 : decode cX0_headsOf 30 = .ok (.laload, 1) := by decide +kernel
theorem dX0_headsOf_31 : decode cX0_headsOf 31 = .ok (.lor, 1) := by decide +kernel
theorem dX0_headsOf_32 : decode cX0_headsOf 32 = .ok (.lstore_n 3, 1) := by decide +kernel
theorem dX0_headsOf_33 : decode cX0_headsOf 33 = .ok (.iinc 5 1, 3) := by decide +kernel
theorem dX0_headsOf_36 : decode cX0_headsOf 36 = .ok (.goto (-31), 3) := by decide +kernel
theorem dX0_headsOf_39 : decode cX0_headsOf 39 = .ok (.lload_n 1, 1) := by decide +kernel
theorem dX0_headsOf_40 : decode cX0_headsOf 40 = .ok (.lload_n 3, 1) := by decide +kernel
theorem dX0_headsOf_41 : decode cX0_headsOf 41 = .ok (.ldc2_w 112, 3) := by decide +kernel
theorem dX0_headsOf_44 : decode cX0_headsOf 44 = .ok (.lxor, 1) := by decide +kernel
theorem dX0_headsOf_45 : decode cX0_headsOf 45 = .ok (.land, 1) := by decide +kernel
theorem dX0_headsOf_46 : decode cX0_headsOf 46 = .ok (.lreturn, 1) := by decide +kernel
set_option maxRecDepth 20000 in
theorem ggX0_criticalOf_X0_has : GoodIn wsX0_criticalOf wsX0_has := goodIn_r _ [6, 7, 8, 5, 9] (by decide +kernel) (by decide +kernel)
set_option maxRecDepth 20000 in
theorem gX0_criticalOf_X0_has : GoodIn wsX0_criticalOf (va_wsS RX0 101 yX0_has wsX0_has) := goodIn_app (goodIn_of _ (by decide +kernel)) ggX0_criticalOf_X0_has
set_option maxRecDepth 20000 in
theorem ggX0_criticalOf_X0_relatedTo : GoodIn wsX0_criticalOf wsX0_relatedTo := goodIn_r _ [13, 14, 15, 16, 17, 5, 18, 19, 7, 8, 9, 20, 21, 22, 23, 24, 25, 26, 27, 28, 29, 30, 31, 32, 33] (by decide +kernel) (by decide +kernel)
set_option maxRecDepth 20000 in
theorem gX0_criticalOf_X0_relatedTo : GoodIn wsX0_criticalOf (wsV RX0 109 RX0 yX0_relatedTo wsX0_relatedTo) := goodIn_app (goodIn_of _ (by decide +kernel)) ggX0_criticalOf_X0_relatedTo
set_option maxRecDepth 20000 in
theorem ggX0_criticalOf_X0_only : GoodIn wsX0_criticalOf wsX0_only := goodIn_r _ [9] (by decide +kernel) (by decide +kernel)
set_option maxRecDepth 20000 in
theorem gX0_criticalOf_X0_only : GoodIn wsX0_criticalOf (va_wsS RX0 143 yX0_only wsX0_only) := goodIn_app (goodIn_of _ (by decide +kernel)) ggX0_criticalOf_X0_only
theorem dX0_criticalOf_0 : decode cX0_criticalOf 0 = .ok (.lconst 0, 1) := by decide +kernel
theorem dX0_criticalOf_1 : decode cX0_criticalOf 1 = .ok (.lstore_n 3, 1) := by decide +kernel
theorem dX0_criticalOf_2 : decode cX0_criticalOf 2 = .ok (.iconst 0, 1) := by decide +kernel
theorem dX0_criticalOf_3 : decode cX0_criticalOf 3 = .ok (.istore 5, 2) := by decide +kernel
theorem dX0_criticalOf_5 : decode cX0_criticalOf 5 = .ok (.iload 5, 2) := by decide +kernel
theorem dX0_criticalOf_7 : decode cX0_criticalOf 7 = .ok (.aload_n 0, 1) := by decide +kernel
theorem dX0_criticalOf_8 : decode cX0_criticalOf 8 = .ok (.getfield 7, 3) := by decide +kernel
theorem dX0_criticalOf_11 : decode cX0_criticalOf 11 = .ok (.if_icmp .ge 43, 3) := by decide +kernel
theorem dX0_criticalOf_14 : decode cX0_criticalOf 14 = .ok (.lload_n 1, 1) := by decide +kernel
theorem dX0_criticalOf_15 : decode cX0_criticalOf 15 = .ok (.iload 5, 2) := by decide +kernel
theorem dX0_criticalOf_17 : decode cX0_criticalOf 17 = .ok (.invokestatic 101, 3) := by decide +kernel
theorem dX0_criticalOf_20 : decode cX0_criticalOf 20 = .ok (.ifCond .eq 28, 3) := by decide +kernel
theorem dX0_criticalOf_23 : decode cX0_criticalOf 23 = .ok (.lload_n 1, 1) := by decide +kernel
theorem dX0_criticalOf_24 : decode cX0_criticalOf 24 = .ok (.aload_n 0, 1) := by decide +kernel
theorem dX0_criticalOf_25 : decode cX0_criticalOf 25 = .ok (.iload 5, 2) := by decide +kernel
theorem dX0_criticalOf_27 : decode cX0_criticalOf 27 = .ok (.invokevirtual 109, 3) := by decide +kernel
theorem dX0_criticalOf_30 : decode cX0_criticalOf 30 = .ok (.ldc2_w 112, 3) := by decide +kernel
theorem dX0_criticalOf_33 : decode cX0_criticalOf 33 = .ok (.lxor, 1) := by decide +kernel
theorem dX0_criticalOf_34 : decode cX0_criticalOf 34 = .ok (.land, 1) := by decide +kernel
theorem dX0_criticalOf_35 : decode cX0_criticalOf 35 = .ok (.lconst 0, 1) := by decide +kernel
theorem dX0_criticalOf_36 : decode cX0_criticalOf 36 = .ok (.lcmp, 1) := by decide +kernel
theorem dX0_criticalOf_37 : decode cX0_criticalOf 37 = .ok (.ifCond .ne 11, 3) := by decide +kernel
theorem dX0_criticalOf_40 : decode cX0_criticalOf 40 = .ok (.lload_n 3, 1) := by decide +kernel
theorem dX0_criticalOf_41 : decode cX0_criticalOf 41 = .ok (.iload 5, 2) := by decide +kernel
theorem dX0_criticalOf_43 : decode cX0_criticalOf 43 = .ok (.invokestatic 143, 3) := by decide +kernel
theorem dX0_criticalOf_46 : decode cX0_criticalOf 46 = .ok (.lor, 1) := by decide +kernel
theorem dX0_criticalOf_47 : decode cX0_criticalOf 47 = .ok (.lstore_n 3, 1) := by decide +kernel
theorem dX0_criticalOf_48 : decode cX0_criticalOf 48 = .ok (.iinc 5 1, 3) := by decide +kernel
theorem dX0_criticalOf_51 : decode cX0_criticalOf 51 = .ok (.goto (-46), 3) := by decide +kernel
theorem dX0_criticalOf_54 : decode cX0_criticalOf 54 = .ok (.lload_n 3, 1) := by decide +kernel
theorem dX0_criticalOf_55 : decode cX0_criticalOf 55 = .ok (.lreturn, 1) := by decide +kernel
set_option maxRecDepth 20000 in
theorem ggX0_continuesRun_X0_isInsert : GoodIn wsX0_continuesRun wsX0_isInsert := goodIn_r _ [8, 9, 18, 19, 20, 21, 22, 23, 24, 25, 26, 27, 28, 29, 30, 31] (by decide +kernel) (by decide +kernel)
set_option maxRecDepth 20000 in
theorem gX0_continuesRun_X0_isInsert : GoodIn wsX0_continuesRun (wsV RX0 146 RX0 yX0_isInsert wsX0_isInsert) := goodIn_app (goodIn_of _ (by decide +kernel)) ggX0_continuesRun_X0_isInsert
set_option maxRecDepth 20000 in
theorem ggX0_continuesRun_X0_isEvent : GoodIn wsX0_continuesRun wsX0_isEvent := goodIn_r _ [13, 14, 18, 19, 20, 21, 22, 23, 24, 25, 26, 27, 28, 29, 30, 31] (by decide +kernel) (by decide +kernel)
set_option maxRecDepth 20000 in
theorem gX0_continuesRun_X0_isEvent : GoodIn wsX0_continuesRun (wsV RX0 131 RX0 yX0_isEvent wsX0_isEvent) := goodIn_app (goodIn_of _ (by decide +kernel)) ggX0_continuesRun_X0_isEvent
set_option maxRecDepth 20000 in
theorem ggX0_continuesRun_X0_only : GoodIn wsX0_continuesRun wsX0_only := goodIn_r _ [17] (by decide +kernel) (by decide +kernel)
set_option maxRecDepth 20000 in
theorem gX0_continuesRun_X0_only : GoodIn wsX0_continuesRun (va_wsS RX0 143 yX0_only wsX0_only) := goodIn_app (goodIn_of _ (by decide +kernel)) ggX0_continuesRun_X0_only
theorem dX0_continuesRun_0 : decode cX0_continuesRun 0 = .ok (.aload_n 0, 1) := by decide +kernel
theorem dX0_continuesRun_1 : decode cX0_continuesRun 1 = .ok (.getfield 20, 3) := by decide +kernel
theorem dX0_continuesRun_4 : decode cX0_continuesRun 4 = .ok (.iload_n 1, 1) := by decide +kernel
theorem dX0_continuesRun_5 : decode cX0_continuesRun 5 = .ok (.iaload, 1) := by decide +kernel
theorem dX0_continuesRun_6 : decode cX0_continuesRun 6 = .ok (.istore_n 2, 1) := by decide +kernel
theorem dX0_continuesRun_7 : decode cX0_continuesRun 7 = .ok (.aload_n 0, 1) := by decide +kernel
theorem dX0_continuesRun_8 : decode cX0_continuesRun 8 = .ok (.iload_n 1, 1) := by decide +kernel
theorem dX0_continuesRun_9 : decode cX0_continuesRun 9 = .ok (.invokevirtual 146, 3) := by decide +kernel
theorem dX0_continuesRun_12 : decode cX0_continuesRun 12 = .ok (.ifCond .eq 44, 3) := by decide +kernel
theorem dX0_continuesRun_15 : decode cX0_continuesRun 15 = .ok (.aload_n 0, 1) := by decide +kernel
theorem dX0_continuesRun_16 : decode cX0_continuesRun 16 = .ok (.iload_n 2, 1) := by decide +kernel
theorem dX0_continuesRun_17 : decode cX0_continuesRun 17 = .ok (.invokevirtual 131, 3) := by decide +kernel
theorem dX0_continuesRun_20 : decode cX0_continuesRun 20 = .ok (.ifCond .eq 36, 3) := by decide +kernel
theorem dX0_continuesRun_23 : decode cX0_continuesRun 23 = .ok (.aload_n 0, 1) := by decide +kernel
theorem dX0_continuesRun_24 : decode cX0_continuesRun 24 = .ok (.getfield 23, 3) := by decide +kernel
theorem dX0_continuesRun_27 : decode cX0_continuesRun 27 = .ok (.iload_n 1, 1) := by decide +kernel
theorem dX0_continuesRun_28 : decode cX0_continuesRun 28 = .ok (.laload, 1) := by decide +kernel
theorem dX0_continuesRun_29 : decode cX0_continuesRun 29 = .ok (.iload_n 2, 1) := by decide +kernel
theorem dX0_continuesRun_30 : decode cX0_continuesRun 30 = .ok (.invokestatic 143, 3) := by decide +kernel
theorem dX0_continuesRun_33 : decode cX0_continuesRun 33 = .ok (.lcmp, 1) := by decide +kernel
theorem dX0_continuesRun_34 : decode cX0_continuesRun 34 = .ok (.ifCond .ne 22, 3) := by decide +kernel
theorem dX0_continuesRun_37 : decode cX0_continuesRun 37 = .ok (.aload_n 0, 1) := by decide +kernel
theorem dX0_continuesRun_38 : decode cX0_continuesRun 38 = .ok (.getfield 13, 3) := by decide +kernel
theorem dX0_continuesRun_41 : decode cX0_continuesRun 41 = .ok (.iload_n 1, 1) := by decide +kernel
theorem dX0_continuesRun_42 : decode cX0_continuesRun 42 = .ok (.iaload, 1) := by decide +kernel
theorem dX0_continuesRun_43 : decode cX0_continuesRun 43 = .ok (.aload_n 0, 1) := by decide +kernel
theorem dX0_continuesRun_44 : decode cX0_continuesRun 44 = .ok (.getfield 13, 3) := by decide +kernel
theorem dX0_continuesRun_47 : decode cX0_continuesRun 47 = .ok (.iload_n 2, 1) := by decide +kernel
theorem dX0_continuesRun_48 : decode cX0_continuesRun 48 = .ok (.iaload, 1) := by decide +kernel
theorem dX0_continuesRun_49 : decode cX0_continuesRun 49 = .ok (.if_icmp .ne 7, 3) := by decide +kernel
theorem dX0_continuesRun_52 : decode cX0_continuesRun 52 = .ok (.iconst 1, 1) := by decide +kernel
theorem dX0_continuesRun_53 : decode cX0_continuesRun 53 = .ok (.goto 4, 3) := by decide +kernel
theorem dX0_continuesRun_56 : decode cX0_continuesRun 56 = .ok (.iconst 0, 1) := by decide +kernel
theorem dX0_continuesRun_57 : decode cX0_continuesRun 57 = .ok (.ireturn, 1) := by decide +kernel
set_option maxRecDepth 20000 in
theorem ggX0_addEvent_X0_headsOf : GoodIn wsX0_addEvent wsX0_headsOf := goodIn_r _ [12, 1, 6, 13, 14, 15, 11, 16, 17, 18, 19, 25, 26, 27, 28, 29, 30, 31, 32, 33, 34, 35, 36, 37, 38] (by decide +kernel) (by decide +kernel)
set_option maxRecDepth 20000 in
theorem gX0_addEvent_X0_headsOf : GoodIn wsX0_addEvent (wsV RX0 105 RX0 yX0_headsOf wsX0_headsOf) := goodIn_app (goodIn_of _ (by decide +kernel)) ggX0_addEvent_X0_headsOf
set_option maxRecDepth 20000 in
theorem ggX0_addEvent_X0_markLater : GoodIn wsX0_addEvent wsX0_markLater := goodIn_r _ [23, 1, 24, 14, 15, 11, 16, 17, 18, 19, 25, 26, 27, 28, 29, 30, 31, 32, 33, 34, 35, 36, 37, 38] (by decide +kernel) (by decide +kernel)
set_option maxRecDepth 20000 in
theorem gX0_addEvent_X0_markLater : GoodIn wsX0_addEvent (wsV RX0 149 RX0 yX0_markLater wsX0_markLater) := goodIn_app (goodIn_of _ (by decide +kernel)) ggX0_addEvent_X0_markLater
set_option maxRecDepth 20000 in
theorem ggX0_addEvent_X0_only : GoodIn wsX0_addEvent wsX0_only := goodIn_r _ [19] (by decide +kernel) (by decide +kernel)
set_option maxRecDepth 20000 in
theorem gX0_addEvent_X0_only : GoodIn wsX0_addEvent (va_wsS RX0 143 yX0_only wsX0_only) := goodIn_app (goodIn_of _ (by decide +kernel)) ggX0_addEvent_X0_only
theorem dX0_addEvent_0 : decode cX0_addEvent 0 = .ok (.aload_n 0, 1) := by decide +kernel
theorem dX0_addEvent_1 : decode cX0_addEvent 1 = .ok (.getfield 7, 3) := by decide +kernel
theorem dX0_addEvent_4 : decode cX0_addEvent 4 = .ok (.istore 4, 2) := by decide +kernel
theorem dX0_addEvent_6 : decode cX0_addEvent 6 = .ok (.aload_n 0, 1) := by decide +kernel
theorem dX0_addEvent_7 : decode cX0_addEvent 7 = .ok (.getfield 33, 3) := by decide +kernel
theorem dX0_addEvent_10 : decode cX0_addEvent 10 = .ok (.iload_n 1, 1) := by decide +kernel
theorem dX0_addEvent_11 : decode cX0_addEvent 11 = .ok (.laload, 1) := by decide +kernel
theorem dX0_addEvent_12 : decode cX0_addEvent 12 = .ok (.lstore 5, 2) := by decide +kernel
theorem dX0_addEvent_14 : decode cX0_addEvent 14 = .ok (.aload_n 0, 1) := by decide +kernel
theorem dX0_addEvent_15 : decode cX0_addEvent 15 = .ok (.getfield 13, 3) := by decide +kernel
theorem dX0_addEvent_18 : decode cX0_addEvent 18 = .ok (.iload 4, 2) := by decide +kernel
theorem dX0_addEvent_20 : decode cX0_addEvent 20 = .ok (.iload_n 1, 1) := by decide +kernel
theorem dX0_addEvent_21 : decode cX0_addEvent 21 = .ok (.iastore, 1) := by decide +kernel
theorem dX0_addEvent_22 : decode cX0_addEvent 22 = .ok (.aload_n 0, 1) := by decide +kernel
theorem dX0_addEvent_23 : decode cX0_addEvent 23 = .ok (.getfield 17, 3) := by decide +kernel
theorem dX0_addEvent_26 : decode cX0_addEvent 26 = .ok (.iload 4, 2) := by decide +kernel
theorem dX0_addEvent_28 : decode cX0_addEvent 28 = .ok (.iload_n 2, 1) := by decide +kernel
theorem dX0_addEvent_29 : decode cX0_addEvent 29 = .ok (.iastore, 1) := by decide +kernel
theorem dX0_addEvent_30 : decode cX0_addEvent 30 = .ok (.aload_n 0, 1) := by decide +kernel
theorem dX0_addEvent_31 : decode cX0_addEvent 31 = .ok (.getfield 20, 3) := by decide +kernel
theorem dX0_addEvent_34 : decode cX0_addEvent 34 = .ok (.iload 4, 2) := by decide +kernel
theorem dX0_addEvent_36 : decode cX0_addEvent 36 = .ok (.iload_n 3, 1) := by decide +kernel
theorem dX0_addEvent_37 : decode cX0_addEvent 37 = .ok (.iastore, 1) := by decide +kernel
theorem dX0_addEvent_38 : decode cX0_addEvent 38 = .ok (.aload_n 0, 1) := by decide +kernel
theorem dX0_addEvent_39 : decode cX0_addEvent 39 = .ok (.getfield 23, 3) := by decide +kernel
theorem dX0_addEvent_42 : decode cX0_addEvent 42 = .ok (.iload 4, 2) := by decide +kernel
theorem dX0_addEvent_44 : decode cX0_addEvent 44 = .ok (.aload_n 0, 1) := by decide +kernel
theorem dX0_addEvent_45 : decode cX0_addEvent 45 = .ok (.lload 5, 2) := by decide +kernel
theorem dX0_addEvent_47 : decode cX0_addEvent 47 = .ok (.invokevirtual 105, 3) := by decide +kernel
theorem dX0_addEvent_50 : decode cX0_addEvent 50 = .ok (.lastore, 1) := by decide +kernel
theorem dX0_addEvent_51 : decode cX0_addEvent 51 = .ok (.aload_n 0, 1) := by decide +kernel
theorem dX0_addEvent_52 : decode cX0_addEvent 52 = .ok (.getfield 27, 3) := by decide +kernel
theorem dX0_addEvent_55 : decode cX0_addEvent 55 = .ok (.iload 4, 2) := by decide +kernel
theorem dX0_addEvent_57 : decode cX0_addEvent 57 = .ok (.lload 5, 2) := by decide +kernel
theorem dX0_addEvent_59 : decode cX0_addEvent 59 = .ok (.lastore, 1) := by decide +kernel
theorem dX0_addEvent_60 : decode cX0_addEvent 60 = .ok (.aload_n 0, 1) := by decide +kernel
theorem dX0_addEvent_61 : decode cX0_addEvent 61 = .ok (.lload 5, 2) := by decide +kernel
theorem dX0_addEvent_63 : decode cX0_addEvent 63 = .ok (.iload 4, 2) := by decide +kernel
theorem dX0_addEvent_65 : decode cX0_addEvent 65 = .ok (.invokevirtual 149, 3) := by decide +kernel
theorem dX0_addEvent_68 : decode cX0_addEvent 68 = .ok (.aload_n 0, 1) := by decide +kernel
theorem dX0_addEvent_69 : decode cX0_addEvent 69 = .ok (.getfield 33, 3) := by decide +kernel
theorem dX0_addEvent_72 : decode cX0_addEvent 72 = .ok (.iload_n 1, 1) := by decide +kernel
theorem dX0_addEvent_73 : decode cX0_addEvent 73 = .ok (.lload 5, 2) := by decide +kernel
theorem dX0_addEvent_75 : decode cX0_addEvent 75 = .ok (.iload 4, 2) := by decide +kernel
theorem dX0_addEvent_77 : decode cX0_addEvent 77 = .ok (.invokestatic 143, 3) := by decide +kernel
theorem dX0_addEvent_80 : decode cX0_addEvent 80 = .ok (.lor, 1) := by decide +kernel
theorem dX0_addEvent_81 : decode cX0_addEvent 81 = .ok (.lastore, 1) := by decide +kernel
theorem dX0_addEvent_82 : decode cX0_addEvent 82 = .ok (.aload_n 0, 1) := by decide +kernel
theorem dX0_addEvent_83 : decode cX0_addEvent 83 = .ok (.dup, 1) := by decide +kernel
theorem dX0_addEvent_84 : decode cX0_addEvent 84 = .ok (.getfield 7, 3) := by decide +kernel
theorem dX0_addEvent_87 : decode cX0_addEvent 87 = .ok (.iconst 1, 1) := by decide +kernel
theorem dX0_addEvent_88 : decode cX0_addEvent 88 = .ok (.iadd, 1) := by decide +kernel
theorem dX0_addEvent_89 : decode cX0_addEvent 89 = .ok (.putfield 7, 3) := by decide +kernel
theorem dX0_addEvent_92 : decode cX0_addEvent 92 = .ok (.iload 4, 2) := by decide +kernel
theorem dX0_addEvent_94 : decode cX0_addEvent 94 = .ok (.ireturn, 1) := by decide +kernel
set_option maxRecDepth 20000 in
theorem ggX0_markLater_X0_has : GoodIn wsX0_markLater wsX0_has := goodIn_r _ [6, 7, 8, 5, 9] (by decide +kernel) (by decide +kernel)
set_option maxRecDepth 20000 in
theorem gX0_markLater_X0_has : GoodIn wsX0_markLater (va_wsS RX0 101 yX0_has wsX0_has) := goodIn_app (goodIn_of _ (by decide +kernel)) ggX0_markLater_X0_has
set_option maxRecDepth 20000 in
theorem ggX0_markLater_X0_only : GoodIn wsX0_markLater wsX0_only := goodIn_r _ [9] (by decide +kernel) (by decide +kernel)
set_option maxRecDepth 20000 in
theorem gX0_markLater_X0_only : GoodIn wsX0_markLater (va_wsS RX0 143 yX0_only wsX0_only) := goodIn_app (goodIn_of _ (by decide +kernel)) ggX0_markLater_X0_only
theorem dX0_markLater_0 : decode cX0_markLater 0 = .ok (.iconst 0, 1) := by decide +kernel
theorem dX0_markLater_1 : decode cX0_markLater 1 = .ok (.istore 4, 2) := by decide +kernel
theorem dX0_markLater_3 : decode cX0_markLater 3 = .ok (.iload 4, 2) := by decide +kernel
theorem dX0_markLater_5 : decode cX0_markLater 5 = .ok (.aload_n 0, 1) := by decide +kernel
theorem dX0_markLater_6 : decode cX0_markLater 6 = .ok (.getfield 7, 3) := by decide +kernel
theorem dX0_markLater_9 : decode cX0_markLater 9 = .ok (.if_icmp .ge 32, 3) := by decide +kernel
theorem dX0_markLater_12 : decode cX0_markLater 12 = .ok (.lload_n 1, 1) := by decide +kernel
theorem dX0_markLater_13 : decode cX0_markLater 13 = .ok (.iload 4, 2) := by decide +kernel
theorem dX0_markLater_15 : decode cX0_markLater 15 = .ok (.invokestatic 101, 3) := by decide +kernel
theorem dX0_markLater_18 : decode cX0_markLater 18 = .ok (.ifCond .eq 17, 3) := by decide +kernel
theorem dX0_markLater_21 : decode cX0_markLater 21 = .ok (.aload_n 0, 1) := by decide +kernel
theorem dX0_markLater_22 : decode cX0_markLater 22 = .ok (.getfield 30, 3) := by decide +kernel
theorem dX0_markLater_25 : decode cX0_markLater 25 = .ok (.iload 4, 2) := by decide +kernel
theorem dX0_markLater_27 : decode cX0_markLater 27 = .ok (.dup2, 1) := by decide +kernel
theorem dX0_markLater_28 : decode cX0_markLater 28 = .ok (.laload, 1) := by decide +kernel
theorem dX0_markLater_29 : decode cX0_markLater 29 = .ok (.iload_n 3, 1) := by decide +kernel
theorem dX0_markLater_30 : decode cX0_markLater 30 = .ok (.invokestatic 143, 3) := by decide +kernel
theorem dX0_markLater_33 : decode cX0_markLater 33 = .ok (.lor, 1) := by decide +kernel
theorem dX0_markLater_34 : decode cX0_markLater 34 = .ok (.lastore, 1) := by decide +kernel
theorem dX0_markLater_35 : decode cX0_markLater 35 = .ok (.iinc 4 1, 3) := by decide +kernel
theorem dX0_markLater_38 : decode cX0_markLater 38 = .ok (.goto (-35), 3) := by decide +kernel
theorem dX0_markLater_41 : decode cX0_markLater 41 = .ok (.return_, 1) := by decide +kernel
set_option maxRecDepth 20000 in
theorem ggX0_hangLetter_X0_isEvent : GoodIn wsX0_hangLetter wsX0_isEvent := goodIn_r _ [8, 9, 10, 11, 12, 13, 14, 15, 16, 17, 18, 19, 20, 21, 22, 23] (by decide +kernel) (by decide +kernel)
set_option maxRecDepth 20000 in
theorem gX0_hangLetter_X0_isEvent : GoodIn wsX0_hangLetter (wsV RX0 131 RX0 yX0_isEvent wsX0_isEvent) := goodIn_app (goodIn_of _ (by decide +kernel)) ggX0_hangLetter_X0_isEvent
theorem dX0_hangLetter_0 : decode cX0_hangLetter 0 = .ok (.aload_n 0, 1) := by decide +kernel
theorem dX0_hangLetter_1 : decode cX0_hangLetter 1 = .ok (.getfield 39, 3) := by decide +kernel
theorem dX0_hangLetter_4 : decode cX0_hangLetter 4 = .ok (.iload_n 1, 1) := by decide +kernel
theorem dX0_hangLetter_5 : decode cX0_hangLetter 5 = .ok (.iconst (-1), 1) := by decide +kernel
theorem dX0_hangLetter_6 : decode cX0_hangLetter 6 = .ok (.iastore, 1) := by decide +kernel
theorem dX0_hangLetter_7 : decode cX0_hangLetter 7 = .ok (.aload_n 0, 1) := by decide +kernel
theorem dX0_hangLetter_8 : decode cX0_hangLetter 8 = .ok (.iload_n 2, 1) := by decide +kernel
theorem dX0_hangLetter_9 : decode cX0_hangLetter 9 = .ok (.invokevirtual 131, 3) := by decide +kernel
theorem dX0_hangLetter_12 : decode cX0_hangLetter 12 = .ok (.ifCond .eq 25, 3) := by decide +kernel
theorem dX0_hangLetter_15 : decode cX0_hangLetter 15 = .ok (.aload_n 0, 1) := by decide +kernel
theorem dX0_hangLetter_16 : decode cX0_hangLetter 16 = .ok (.getfield 42, 3) := by decide +kernel
theorem dX0_hangLetter_19 : decode cX0_hangLetter 19 = .ok (.iload_n 1, 1) := by decide +kernel
theorem dX0_hangLetter_20 : decode cX0_hangLetter 20 = .ok (.aload_n 0, 1) := by decide +kernel
theorem dX0_hangLetter_21 : decode cX0_hangLetter 21 = .ok (.getfield 39, 3) := by decide +kernel
theorem dX0_hangLetter_24 : decode cX0_hangLetter 24 = .ok (.iload_n 2, 1) := by decide +kernel
theorem dX0_hangLetter_25 : decode cX0_hangLetter 25 = .ok (.iaload, 1) := by decide +kernel
theorem dX0_hangLetter_26 : decode cX0_hangLetter 26 = .ok (.iastore, 1) := by decide +kernel
theorem dX0_hangLetter_27 : decode cX0_hangLetter 27 = .ok (.aload_n 0, 1) := by decide +kernel
theorem dX0_hangLetter_28 : decode cX0_hangLetter 28 = .ok (.getfield 39, 3) := by decide +kernel
theorem dX0_hangLetter_31 : decode cX0_hangLetter 31 = .ok (.iload_n 2, 1) := by decide +kernel
theorem dX0_hangLetter_32 : decode cX0_hangLetter 32 = .ok (.iload_n 1, 1) := by decide +kernel
theorem dX0_hangLetter_33 : decode cX0_hangLetter 33 = .ok (.iastore, 1) := by decide +kernel
theorem dX0_hangLetter_34 : decode cX0_hangLetter 34 = .ok (.goto 18, 3) := by decide +kernel
theorem dX0_hangLetter_37 : decode cX0_hangLetter 37 = .ok (.aload_n 0, 1) := by decide +kernel
theorem dX0_hangLetter_38 : decode cX0_hangLetter 38 = .ok (.getfield 42, 3) := by decide +kernel
theorem dX0_hangLetter_41 : decode cX0_hangLetter 41 = .ok (.iload_n 1, 1) := by decide +kernel
theorem dX0_hangLetter_42 : decode cX0_hangLetter 42 = .ok (.aload_n 0, 1) := by decide +kernel
theorem dX0_hangLetter_43 : decode cX0_hangLetter 43 = .ok (.getfield 36, 3) := by decide +kernel
theorem dX0_hangLetter_46 : decode cX0_hangLetter 46 = .ok (.iastore, 1) := by decide +kernel
theorem dX0_hangLetter_47 : decode cX0_hangLetter 47 = .ok (.aload_n 0, 1) := by decide +kernel
theorem dX0_hangLetter_48 : decode cX0_hangLetter 48 = .ok (.iload_n 1, 1) := by decide +kernel
theorem dX0_hangLetter_49 : decode cX0_hangLetter 49 = .ok (.putfield 36, 3) := by decide +kernel
theorem dX0_hangLetter_52 : decode cX0_hangLetter 52 = .ok (.return_, 1) := by decide +kernel
set_option maxRecDepth 20000 in
theorem ggX0_addKnown_J13_bitCount_95d88 : GoodIn wsX0_addKnown wsJ13_bitCount_95d88 := goodIn_r _ [6, 7, 8, 9] (by decide +kernel) (by decide +kernel)
set_option maxRecDepth 20000 in
theorem gX0_addKnown_J13_bitCount_95d88 : GoodIn wsX0_addKnown (va_wsS RX0 114 yJ13_bitCount_95d88 wsJ13_bitCount_95d88) := goodIn_app (goodIn_of _ (by decide +kernel)) ggX0_addKnown_J13_bitCount_95d88
theorem dX0_addKnown_0 : decode cX0_addKnown 0 = .ok (.lload_n 2, 1) := by decide +kernel
theorem dX0_addKnown_1 : decode cX0_addKnown 1 = .ok (.aload_n 0, 1) := by decide +kernel
theorem dX0_addKnown_2 : decode cX0_addKnown 2 = .ok (.getfield 33, 3) := by decide +kernel
theorem dX0_addKnown_5 : decode cX0_addKnown 5 = .ok (.iload_n 1, 1) := by decide +kernel
theorem dX0_addKnown_6 : decode cX0_addKnown 6 = .ok (.laload, 1) := by decide +kernel
theorem dX0_addKnown_7 : decode cX0_addKnown 7 = .ok (.ldc2_w 112, 3) := by decide +kernel
theorem dX0_addKnown_10 : decode cX0_addKnown 10 = .ok (.lxor, 1) := by decide +kernel
theorem dX0_addKnown_11 : decode cX0_addKnown 11 = .ok (.land, 1) := by decide +kernel
theorem dX0_addKnown_12 : decode cX0_addKnown 12 = .ok (.invokestatic 114, 3) := by decide +kernel
theorem dX0_addKnown_15 : decode cX0_addKnown 15 = .ok (.istore 4, 2) := by decide +kernel
theorem dX0_addKnown_17 : decode cX0_addKnown 17 = .ok (.aload_n 0, 1) := by decide +kernel
theorem dX0_addKnown_18 : decode cX0_addKnown 18 = .ok (.getfield 33, 3) := by decide +kernel
theorem dX0_addKnown_21 : decode cX0_addKnown 21 = .ok (.iload_n 1, 1) := by decide +kernel
theorem dX0_addKnown_22 : decode cX0_addKnown 22 = .ok (.dup2, 1) := by decide +kernel
theorem dX0_addKnown_23 : decode cX0_addKnown 23 = .ok (.laload, 1) := by decide +kernel
theorem dX0_addKnown_24 : decode cX0_addKnown 24 = .ok (.lload_n 2, 1) := by decide +kernel
theorem dX0_addKnown_25 : decode cX0_addKnown 25 = .ok (.lor, 1) := by decide +kernel
theorem dX0_addKnown_26 : decode cX0_addKnown 26 = .ok (.lastore, 1) := by decide +kernel
theorem dX0_addKnown_27 : decode cX0_addKnown 27 = .ok (.iload 4, 2) := by decide +kernel
theorem dX0_addKnown_29 : decode cX0_addKnown 29 = .ok (.ireturn, 1) := by decide +kernel
theorem dX0_isInsert_0 : decode cX0_isInsert 0 = .ok (.aload_n 0, 1) := by decide +kernel
theorem dX0_isInsert_1 : decode cX0_isInsert 1 = .ok (.getfield 17, 3) := by decide +kernel
theorem dX0_isInsert_4 : decode cX0_isInsert 4 = .ok (.iload_n 1, 1) := by decide +kernel
theorem dX0_isInsert_5 : decode cX0_isInsert 5 = .ok (.iaload, 1) := by decide +kernel
theorem dX0_isInsert_6 : decode cX0_isInsert 6 = .ok (.iconst (-1), 1) := by decide +kernel
theorem dX0_isInsert_7 : decode cX0_isInsert 7 = .ok (.if_icmp .eq 7, 3) := by decide +kernel
theorem dX0_isInsert_10 : decode cX0_isInsert 10 = .ok (.iconst 1, 1) := by decide +kernel
theorem dX0_isInsert_11 : decode cX0_isInsert 11 = .ok (.goto 4, 3) := by decide +kernel
theorem dX0_isInsert_14 : decode cX0_isInsert 14 = .ok (.iconst 0, 1) := by decide +kernel
theorem dX0_isInsert_15 : decode cX0_isInsert 15 = .ok (.ireturn, 1) := by decide +kernel
set_option maxRecDepth 20000 in
theorem ggX0_eventInText_X0_findText : GoodIn wsX0_eventInText wsX0_findText := goodIn_r _ [6, 7, 8, 9, 10, 11, 12, 13, 5, 14, 15, 16, 17, 18, 19, 20, 21, 22, 23, 24, 25, 26, 27, 28, 29, 30, 31, 32, 33, 34, 35, 36, 37, 38, 39, 40, 1, 47, 48, 49, 50, 51, 52, 53, 54, 55, 56, 57, 58, 59, 60] (by decide +kernel) (by decide +kernel)
set_option maxRecDepth 20000 in
theorem gX0_eventInText_X0_findText : GoodIn wsX0_eventInText (wsV RX0 58 RX0 yX0_findText wsX0_findText) := goodIn_app (goodIn_of _ (by decide +kernel)) ggX0_eventInText_X0_findText
set_option maxRecDepth 20000 in
theorem ggX0_eventInText_X0_checkPlace : GoodIn wsX0_eventInText wsX0_checkPlace := goodIn_ca (goodIn_r _ [44, 45, 46] (by decide +kernel) (by decide +kernel)) (goodIn_sub (fun _ h => List.mem_cons_of_mem _ (List.mem_append_right _ h)) (by decide +kernel))
set_option maxRecDepth 20000 in
theorem gX0_eventInText_X0_checkPlace : GoodIn wsX0_eventInText (wsV RX0 62 RX0 yX0_checkPlace wsX0_checkPlace) := goodIn_app (goodIn_of _ (by decide +kernel)) ggX0_eventInText_X0_checkPlace
theorem dX0_eventInText_0 : decode cX0_eventInText 0 = .ok (.aload_n 0, 1) := by decide +kernel
theorem dX0_eventInText_1 : decode cX0_eventInText 1 = .ok (.lload_n 1, 1) := by decide +kernel
theorem dX0_eventInText_2 : decode cX0_eventInText 2 = .ok (.invokevirtual 58, 3) := by decide +kernel
theorem dX0_eventInText_5 : decode cX0_eventInText 5 = .ok (.istore 4, 2) := by decide +kernel
theorem dX0_eventInText_7 : decode cX0_eventInText 7 = .ok (.aload_n 0, 1) := by decide +kernel
theorem dX0_eventInText_8 : decode cX0_eventInText 8 = .ok (.iload_n 3, 1) := by decide +kernel
theorem dX0_eventInText_9 : decode cX0_eventInText 9 = .ok (.iload 4, 2) := by decide +kernel
theorem dX0_eventInText_11 : decode cX0_eventInText 11 = .ok (.invokevirtual 62, 3) := by decide +kernel
theorem dX0_eventInText_14 : decode cX0_eventInText 14 = .ok (.aload_n 0, 1) := by decide +kernel
theorem dX0_eventInText_15 : decode cX0_eventInText 15 = .ok (.getfield 45, 3) := by decide +kernel
theorem dX0_eventInText_18 : decode cX0_eventInText 18 = .ok (.iload_n 3, 1) := by decide +kernel
theorem dX0_eventInText_19 : decode cX0_eventInText 19 = .ok (.iaload, 1) := by decide +kernel
theorem dX0_eventInText_20 : decode cX0_eventInText 20 = .ok (.ireturn, 1) := by decide +kernel
set_option maxRecDepth 20000 in
theorem ggX0_standingIn_X0_has : GoodIn wsX0_standingIn wsX0_has := goodIn_r _ [7, 8, 9, 6, 10] (by decide +kernel) (by decide +kernel)
set_option maxRecDepth 20000 in
theorem gX0_standingIn_X0_has : GoodIn wsX0_standingIn (va_wsS RX0 101 yX0_has wsX0_has) := goodIn_app (goodIn_of _ (by decide +kernel)) ggX0_standingIn_X0_has
set_option maxRecDepth 20000 in
theorem ggX0_standingIn_X0_isInsert : GoodIn wsX0_standingIn wsX0_isInsert := goodIn_r _ [14, 15, 16, 17, 18, 19, 20, 21, 22, 23, 24, 25, 26, 27, 28, 29] (by decide +kernel) (by decide +kernel)
set_option maxRecDepth 20000 in
theorem gX0_standingIn_X0_isInsert : GoodIn wsX0_standingIn (wsV RX0 146 RX0 yX0_isInsert wsX0_isInsert) := goodIn_app (goodIn_of _ (by decide +kernel)) ggX0_standingIn_X0_isInsert
set_option maxRecDepth 20000 in
theorem ggX0_standingIn_X0_only : GoodIn wsX0_standingIn wsX0_only := goodIn_r _ [10] (by decide +kernel) (by decide +kernel)
set_option maxRecDepth 20000 in
theorem gX0_standingIn_X0_only : GoodIn wsX0_standingIn (va_wsS RX0 143 yX0_only wsX0_only) := goodIn_app (goodIn_of _ (by decide +kernel)) ggX0_standingIn_X0_only
theorem dX0_standingIn_0 : decode cX0_standingIn 0 = .ok (.lconst 0, 1) := by decide +kernel
theorem dX0_standingIn_1 : decode cX0_standingIn 1 = .ok (.lstore_n 3, 1) := by decide +kernel
theorem dX0_standingIn_2 : decode cX0_standingIn 2 = .ok (.lconst 0, 1) := by decide +kernel
theorem dX0_standingIn_3 : decode cX0_standingIn 3 = .ok (.lstore 5, 2) := by decide +kernel
theorem dX0_standingIn_5 : decode cX0_standingIn 5 = .ok (.iconst 0, 1) := by decide +kernel
theorem dX0_standingIn_6 : decode cX0_standingIn 6 = .ok (.istore 7, 2) := by decide +kernel
theorem dX0_standingIn_8 : decode cX0_standingIn 8 = .ok (.iload 7, 2) := by decide +kernel
theorem dX0_standingIn_10 : decode cX0_standingIn 10 = .ok (.aload_n 0, 1) := by decide +kernel
theorem dX0_standingIn_11 : decode cX0_standingIn 11 = .ok (.getfield 7, 3) := by decide +kernel
theorem dX0_standingIn_14 : decode cX0_standingIn 14 = .ok (.if_icmp .ge 53, 3) := by decide +kernel
theorem dX0_standingIn_17 : decode cX0_standingIn 17 = .ok (.lload_n 1, 1) := by decide +kernel
theorem dX0_standingIn_18 : decode cX0_standingIn 18 = .ok (.iload 7, 2) := by decide +kernel
theorem dX0_standingIn_20 : decode cX0_standingIn 20 = .ok (.invokestatic 101, 3) := by decide +kernel
theorem dX0_standingIn_23 : decode cX0_standingIn 23 = .ok (.ifCond .eq 38, 3) := by decide +kernel
theorem dX0_standingIn_26 : decode cX0_standingIn 26 = .ok (.aload_n 0, 1) := by decide +kernel
theorem dX0_standingIn_27 : decode cX0_standingIn 27 = .ok (.iload 7, 2) := by decide +kernel
theorem dX0_standingIn_29 : decode cX0_standingIn 29 = .ok (.invokevirtual 146, 3) := by decide +kernel
theorem dX0_standingIn_32 : decode cX0_standingIn 32 = .ok (.ifCond .eq 14, 3) := by decide +kernel
theorem dX0_standingIn_35 : decode cX0_standingIn 35 = .ok (.lload_n 3, 1) := by decide +kernel
theorem dX0_standingIn_36 : decode cX0_standingIn 36 = .ok (.iload 7, 2) := by decide +kernel
theorem dX0_standingIn_38 : decode cX0_standingIn 38 = .ok (.invokestatic 143, 3) := by decide +kernel
theorem dX0_standingIn_41 : decode cX0_standingIn 41 = .ok (.lor, 1) := by decide +kernel
theorem dX0_standingIn_42 : decode cX0_standingIn 42 = .ok (.lstore_n 3, 1) := by decide +kernel
theorem dX0_standingIn_43 : decode cX0_standingIn 43 = .ok (.goto 18, 3) := by decide +kernel
theorem dX0_standingIn_46 : decode cX0_standingIn 46 = .ok (.lload 5, 2) := by decide +kernel
theorem dX0_standingIn_48 : decode cX0_standingIn 48 = .ok (.aload_n 0, 1) := by decide +kernel
theorem dX0_standingIn_49 : decode cX0_standingIn 49 = .ok (.getfield 20, 3) := by decide +kernel
theorem dX0_standingIn_52 : decode cX0_standingIn 52 = .ok (.iload 7, 2) := by decide +kernel
theorem dX0_standingIn_54 : decode cX0_standingIn 54 = .ok (.iaload, 1) := by decide +kernel
theorem dX0_standingIn_55 : decode cX0_standingIn 55 = .ok (.invokestatic 143, 3) := by decide +kernel
theorem dX0_standingIn_58 : decode cX0_standingIn 58 = .ok (.lor, 1) := by decide +kernel
theorem dX0_standingIn_59 : decode cX0_standingIn 59 = .ok (.lstore 5, 2) := by decide +kernel
theorem dX0_standingIn_61 : decode cX0_standingIn 61 = .ok (.iinc 7 1, 3) := by decide +kernel
theorem dX0_standingIn_64 : decode cX0_standingIn 64 = .ok (.goto (-56), 3) := by decide +kernel
theorem dX0_standingIn_67 : decode cX0_standingIn 67 = .ok (.lload_n 3, 1) := by decide +kernel
theorem dX0_standingIn_68 : decode cX0_standingIn 68 = .ok (.lload 5, 2) := by decide +kernel
theorem dX0_standingIn_70 : decode cX0_standingIn 70 = .ok (.ldc2_w 112, 3) := by decide +kernel
theorem dX0_standingIn_73 : decode cX0_standingIn 73 = .ok (.lxor, 1) := by decide +kernel
theorem dX0_standingIn_74 : decode cX0_standingIn 74 = .ok (.land, 1) := by decide +kernel
theorem dX0_standingIn_75 : decode cX0_standingIn 75 = .ok (.lreturn, 1) := by decide +kernel
set_option maxRecDepth 20000 in
theorem ggX0_findText_X0_standingIn : GoodIn wsX0_findText wsX0_standingIn := goodIn_r _ [9, 10, 11, 12, 13, 14, 8, 15, 16, 17, 18, 19, 20, 21, 22, 23, 37, 38, 39, 40, 41, 42, 43, 44, 45, 46, 47, 48, 49, 50] (by decide +kernel) (by decide +kernel)
set_option maxRecDepth 20000 in
theorem gX0_findText_X0_standingIn : GoodIn wsX0_findText (wsV RX0 153 RX0 yX0_standingIn wsX0_standingIn) := goodIn_app (goodIn_of _ (by decide +kernel)) ggX0_findText_X0_standingIn
set_option maxRecDepth 20000 in
theorem ggX0_findText_X0_putWaiting : GoodIn wsX0_findText wsX0_putWaiting := goodIn_r _ [27, 2, 28, 29, 30, 8, 31, 10, 37, 38, 39, 40, 41, 42, 43, 44, 45, 46, 47, 48, 49, 50] (by decide +kernel) (by decide +kernel)
set_option maxRecDepth 20000 in
theorem gX0_findText_X0_putWaiting : GoodIn wsX0_findText (wsV RX0 156 RX0 yX0_putWaiting wsX0_putWaiting) := goodIn_app (goodIn_of _ (by decide +kernel)) ggX0_findText_X0_putWaiting
set_option maxRecDepth 20000 in
theorem ggX0_findText_X0_putText : GoodIn wsX0_findText wsX0_putText := goodIn_r _ [35, 36, 13, 14, 8, 15, 16, 17, 18, 37, 38, 39, 40, 41, 42, 43, 44, 45, 46, 47, 48, 49, 50] (by decide +kernel) (by decide +kernel)
set_option maxRecDepth 20000 in
theorem gX0_findText_X0_putText : GoodIn wsX0_findText (wsV RX0 160 RX0 yX0_putText wsX0_putText) := goodIn_app (goodIn_of _ (by decide +kernel)) ggX0_findText_X0_putText
theorem dX0_findText_0 : decode cX0_findText 0 = .ok (.aload_n 0, 1) := by decide +kernel
theorem dX0_findText_1 : decode cX0_findText 1 = .ok (.lload_n 1, 1) := by decide +kernel
theorem dX0_findText_2 : decode cX0_findText 2 = .ok (.invokevirtual 153, 3) := by decide +kernel
theorem dX0_findText_5 : decode cX0_findText 5 = .ok (.lstore_n 3, 1) := by decide +kernel
theorem dX0_findText_6 : decode cX0_findText 6 = .ok (.iconst 0, 1) := by decide +kernel
theorem dX0_findText_7 : decode cX0_findText 7 = .ok (.istore 5, 2) := by decide +kernel
theorem dX0_findText_9 : decode cX0_findText 9 = .ok (.aload_n 0, 1) := by decide +kernel
theorem dX0_findText_10 : decode cX0_findText 10 = .ok (.aload_n 0, 1) := by decide +kernel
theorem dX0_findText_11 : decode cX0_findText 11 = .ok (.getfield 36, 3) := by decide +kernel
theorem dX0_findText_14 : decode cX0_findText 14 = .ok (.iconst 0, 1) := by decide +kernel
theorem dX0_findText_15 : decode cX0_findText 15 = .ok (.invokevirtual 156, 3) := by decide +kernel
theorem dX0_findText_18 : decode cX0_findText 18 = .ok (.istore 6, 2) := by decide +kernel
theorem dX0_findText_20 : decode cX0_findText 20 = .ok (.iconst 0, 1) := by decide +kernel
theorem dX0_findText_21 : decode cX0_findText 21 = .ok (.istore 7, 2) := by decide +kernel
theorem dX0_findText_23 : decode cX0_findText 23 = .ok (.iload 7, 2) := by decide +kernel
theorem dX0_findText_25 : decode cX0_findText 25 = .ok (.bipush 60, 2) := by decide +kernel
theorem dX0_findText_27 : decode cX0_findText 27 = .ok (.if_icmp .ge 67, 3) := by decide +kernel
theorem dX0_findText_30 : decode cX0_findText 30 = .ok (.iload 6, 2) := by decide +kernel
theorem dX0_findText_32 : decode cX0_findText 32 = .ok (.ifCond .le 62, 3) := by decide +kernel
theorem dX0_findText_35 : decode cX0_findText 35 = .ok (.iinc 6 (-1), 3) := by decide +kernel
theorem dX0_findText_38 : decode cX0_findText 38 = .ok (.aload_n 0, 1) := by decide +kernel
theorem dX0_findText_39 : decode cX0_findText 39 = .ok (.getfield 48, 3) := by decide +kernel
theorem dX0_findText_42 : decode cX0_findText 42 = .ok (.iload 6, 2) := by decide +kernel
theorem dX0_findText_44 : decode cX0_findText 44 = .ok (.iaload, 1) := by decide +kernel
theorem dX0_findText_45 : decode cX0_findText 45 = .ok (.istore 8, 2) := by decide +kernel
theorem dX0_findText_47 : decode cX0_findText 47 = .ok (.aload_n 0, 1) := by decide +kernel
theorem dX0_findText_48 : decode cX0_findText 48 = .ok (.lload_n 3, 1) := by decide +kernel
theorem dX0_findText_49 : decode cX0_findText 49 = .ok (.iload 8, 2) := by decide +kernel
theorem dX0_findText_51 : decode cX0_findText 51 = .ok (.iload 5, 2) := by decide +kernel
theorem dX0_findText_53 : decode cX0_findText 53 = .ok (.invokevirtual 160, 3) := by decide +kernel
theorem dX0_findText_56 : decode cX0_findText 56 = .ok (.istore 5, 2) := by decide +kernel
theorem dX0_findText_58 : decode cX0_findText 58 = .ok (.aload_n 0, 1) := by decide +kernel
theorem dX0_findText_59 : decode cX0_findText 59 = .ok (.aload_n 0, 1) := by decide +kernel
theorem dX0_findText_60 : decode cX0_findText 60 = .ok (.getfield 42, 3) := by decide +kernel
theorem dX0_findText_63 : decode cX0_findText 63 = .ok (.iload 8, 2) := by decide +kernel
theorem dX0_findText_65 : decode cX0_findText 65 = .ok (.iaload, 1) := by decide +kernel
theorem dX0_findText_66 : decode cX0_findText 66 = .ok (.iload 6, 2) := by decide +kernel
theorem dX0_findText_68 : decode cX0_findText 68 = .ok (.invokevirtual 156, 3) := by decide +kernel
theorem dX0_findText_71 : decode cX0_findText 71 = .ok (.istore 6, 2) := by decide +kernel
theorem dX0_findText_73 : decode cX0_findText 73 = .ok (.aload_n 0, 1) := by decide +kernel
theorem dX0_findText_74 : decode cX0_findText 74 = .ok (.aload_n 0, 1) := by decide +kernel
theorem dX0_findText_75 : decode cX0_findText 75 = .ok (.getfield 39, 3) := by decide +kernel
theorem dX0_findText_78 : decode cX0_findText 78 = .ok (.iload 8, 2) := by decide +kernel
theorem dX0_findText_80 : decode cX0_findText 80 = .ok (.iaload, 1) := by decide +kernel
theorem dX0_findText_81 : decode cX0_findText 81 = .ok (.iload 6, 2) := by decide +kernel
theorem dX0_findText_83 : decode cX0_findText 83 = .ok (.invokevirtual 156, 3) := by decide +kernel
theorem dX0_findText_86 : decode cX0_findText 86 = .ok (.istore 6, 2) := by decide +kernel
theorem dX0_findText_88 : decode cX0_findText 88 = .ok (.iinc 7 1, 3) := by decide +kernel
theorem dX0_findText_91 : decode cX0_findText 91 = .ok (.goto (-68), 3) := by decide +kernel
theorem dX0_findText_94 : decode cX0_findText 94 = .ok (.iload 5, 2) := by decide +kernel
theorem dX0_findText_96 : decode cX0_findText 96 = .ok (.ireturn, 1) := by decide +kernel
set_option maxRecDepth 20000 in
theorem ggX0_putWaiting_X0_isEvent : GoodIn wsX0_putWaiting wsX0_isEvent := goodIn_r _ [6, 7, 8, 9, 10, 11, 12, 13, 14, 15, 16, 17, 18, 19, 20, 21] (by decide +kernel) (by decide +kernel)
set_option maxRecDepth 20000 in
theorem gX0_putWaiting_X0_isEvent : GoodIn wsX0_putWaiting (wsV RX0 131 RX0 yX0_isEvent wsX0_isEvent) := goodIn_app (goodIn_of _ (by decide +kernel)) ggX0_putWaiting_X0_isEvent
theorem dX0_putWaiting_0 : decode cX0_putWaiting 0 = .ok (.aload_n 0, 1) := by decide +kernel
theorem dX0_putWaiting_1 : decode cX0_putWaiting 1 = .ok (.iload_n 1, 1) := by decide +kernel
theorem dX0_putWaiting_2 : decode cX0_putWaiting 2 = .ok (.invokevirtual 131, 3) := by decide +kernel
theorem dX0_putWaiting_5 : decode cX0_putWaiting 5 = .ok (.ifCond .eq 9, 3) := by decide +kernel
theorem dX0_putWaiting_8 : decode cX0_putWaiting 8 = .ok (.iload_n 2, 1) := by decide +kernel
theorem dX0_putWaiting_9 : decode cX0_putWaiting 9 = .ok (.bipush 60, 2) := by decide +kernel
theorem dX0_putWaiting_11 : decode cX0_putWaiting 11 = .ok (.if_icmp .lt 5, 3) := by decide +kernel
theorem dX0_putWaiting_14 : decode cX0_putWaiting 14 = .ok (.iload_n 2, 1) := by decide +kernel
theorem dX0_putWaiting_15 : decode cX0_putWaiting 15 = .ok (.ireturn, 1) := by decide +kernel
theorem dX0_putWaiting_16 : decode cX0_putWaiting 16 = .ok (.aload_n 0, 1) := by decide +kernel
theorem dX0_putWaiting_17 : decode cX0_putWaiting 17 = .ok (.getfield 48, 3) := by decide +kernel
theorem dX0_putWaiting_20 : decode cX0_putWaiting 20 = .ok (.iload_n 2, 1) := by decide +kernel
theorem dX0_putWaiting_21 : decode cX0_putWaiting 21 = .ok (.iload_n 1, 1) := by decide +kernel
theorem dX0_putWaiting_22 : decode cX0_putWaiting 22 = .ok (.iastore, 1) := by decide +kernel
theorem dX0_putWaiting_23 : decode cX0_putWaiting 23 = .ok (.iload_n 2, 1) := by decide +kernel
theorem dX0_putWaiting_24 : decode cX0_putWaiting 24 = .ok (.iconst 1, 1) := by decide +kernel
theorem dX0_putWaiting_25 : decode cX0_putWaiting 25 = .ok (.iadd, 1) := by decide +kernel
theorem dX0_putWaiting_26 : decode cX0_putWaiting 26 = .ok (.ireturn, 1) := by decide +kernel
set_option maxRecDepth 20000 in
theorem ggX0_putText_X0_has : GoodIn wsX0_putText wsX0_has := goodIn_r _ [5, 6, 7, 4, 8] (by decide +kernel) (by decide +kernel)
set_option maxRecDepth 20000 in
theorem gX0_putText_X0_has : GoodIn wsX0_putText (va_wsS RX0 101 yX0_has wsX0_has) := goodIn_app (goodIn_of _ (by decide +kernel)) ggX0_putText_X0_has
theorem dX0_putText_0 : decode cX0_putText 0 = .ok (.lload_n 1, 1) := by decide +kernel
theorem dX0_putText_1 : decode cX0_putText 1 = .ok (.iload_n 3, 1) := by decide +kernel
theorem dX0_putText_2 : decode cX0_putText 2 = .ok (.invokestatic 101, 3) := by decide +kernel
theorem dX0_putText_5 : decode cX0_putText 5 = .ok (.ifCond .eq 10, 3) := by decide +kernel
theorem dX0_putText_8 : decode cX0_putText 8 = .ok (.iload 4, 2) := by decide +kernel
theorem dX0_putText_10 : decode cX0_putText 10 = .ok (.bipush 60, 2) := by decide +kernel
theorem dX0_putText_12 : decode cX0_putText 12 = .ok (.if_icmp .lt 6, 3) := by decide +kernel
theorem dX0_putText_15 : decode cX0_putText 15 = .ok (.iload 4, 2) := by decide +kernel
theorem dX0_putText_17 : decode cX0_putText 17 = .ok (.ireturn, 1) := by decide +kernel
theorem dX0_putText_18 : decode cX0_putText 18 = .ok (.aload_n 0, 1) := by decide +kernel
theorem dX0_putText_19 : decode cX0_putText 19 = .ok (.getfield 45, 3) := by decide +kernel
theorem dX0_putText_22 : decode cX0_putText 22 = .ok (.iload 4, 2) := by decide +kernel
theorem dX0_putText_24 : decode cX0_putText 24 = .ok (.iload_n 3, 1) := by decide +kernel
theorem dX0_putText_25 : decode cX0_putText 25 = .ok (.iastore, 1) := by decide +kernel
theorem dX0_putText_26 : decode cX0_putText 26 = .ok (.iload 4, 2) := by decide +kernel
theorem dX0_putText_28 : decode cX0_putText 28 = .ok (.iconst 1, 1) := by decide +kernel
theorem dX0_putText_29 : decode cX0_putText 29 = .ok (.iadd, 1) := by decide +kernel
theorem dX0_putText_30 : decode cX0_putText 30 = .ok (.ireturn, 1) := by decide +kernel
set_option maxRecDepth 20000 in
theorem ggX0_findTextByList_X0_standingIn : GoodIn wsX0_findTextByList wsX0_standingIn := goodIn_r _ [6, 7, 8, 9, 10, 11, 5, 12, 13, 14, 15, 16, 17, 18, 19, 20, 34, 35, 36, 37, 38, 39, 40, 41, 42, 43, 44, 45, 46, 47] (by decide +kernel) (by decide +kernel)
set_option maxRecDepth 20000 in
theorem gX0_findTextByList_X0_standingIn : GoodIn wsX0_findTextByList (wsV RX0 153 RX0 yX0_standingIn wsX0_standingIn) := goodIn_app (goodIn_of _ (by decide +kernel)) ggX0_findTextByList_X0_standingIn
set_option maxRecDepth 20000 in
theorem ggX0_findTextByList_X0_layList : GoodIn wsX0_findTextByList wsX0_layList := goodIn_r _ [24, 7, 8, 1, 10, 11, 5, 12, 13, 14, 15, 16, 17, 18, 19, 20, 25, 26, 27, 28, 34, 35, 36, 37, 38, 39, 40, 41, 42, 43, 44, 45, 46, 47] (by decide +kernel) (by decide +kernel)
set_option maxRecDepth 20000 in
theorem gX0_findTextByList_X0_layList : GoodIn wsX0_findTextByList (wsV RX0 164 RX0 yX0_layList wsX0_layList) := goodIn_app (goodIn_of _ (by decide +kernel)) ggX0_findTextByList_X0_layList
set_option maxRecDepth 20000 in
theorem ggX0_findTextByList_X0_isEvent : GoodIn wsX0_findTextByList wsX0_isEvent := goodIn_r _ [28, 7, 34, 35, 36, 37, 38, 39, 40, 41, 42, 43, 44, 45, 46, 47] (by decide +kernel) (by decide +kernel)
set_option maxRecDepth 20000 in
theorem gX0_findTextByList_X0_isEvent : GoodIn wsX0_findTextByList (wsV RX0 131 RX0 yX0_isEvent wsX0_isEvent) := goodIn_app (goodIn_of _ (by decide +kernel)) ggX0_findTextByList_X0_isEvent
set_option maxRecDepth 20000 in
theorem ggX0_findTextByList_X0_putText : GoodIn wsX0_findTextByList wsX0_putText := goodIn_r _ [32, 33, 10, 11, 5, 12, 13, 14, 15, 34, 35, 36, 37, 38, 39, 40, 41, 42, 43, 44, 45, 46, 47] (by decide +kernel) (by decide +kernel)
set_option maxRecDepth 20000 in
theorem gX0_findTextByList_X0_putText : GoodIn wsX0_findTextByList (wsV RX0 160 RX0 yX0_putText wsX0_putText) := goodIn_app (goodIn_of _ (by decide +kernel)) ggX0_findTextByList_X0_putText
theorem dX0_findTextByList_0 : decode cX0_findTextByList 0 = .ok (.aload_n 0, 1) := by decide +kernel
theorem dX0_findTextByList_1 : decode cX0_findTextByList 1 = .ok (.lload_n 1, 1) := by decide +kernel
theorem dX0_findTextByList_2 : decode cX0_findTextByList 2 = .ok (.invokevirtual 153, 3) := by decide +kernel
theorem dX0_findTextByList_5 : decode cX0_findTextByList 5 = .ok (.lstore_n 3, 1) := by decide +kernel
theorem dX0_findTextByList_6 : decode cX0_findTextByList 6 = .ok (.iconst 0, 1) := by decide +kernel
theorem dX0_findTextByList_7 : decode cX0_findTextByList 7 = .ok (.istore 5, 2) := by decide +kernel
theorem dX0_findTextByList_9 : decode cX0_findTextByList 9 = .ok (.aload_n 0, 1) := by decide +kernel
theorem dX0_findTextByList_10 : decode cX0_findTextByList 10 = .ok (.lload_n 1, 1) := by decide +kernel
theorem dX0_findTextByList_11 : decode cX0_findTextByList 11 = .ok (.invokevirtual 164, 3) := by decide +kernel
theorem dX0_findTextByList_14 : decode cX0_findTextByList 14 = .ok (.istore 6, 2) := by decide +kernel
theorem dX0_findTextByList_16 : decode cX0_findTextByList 16 = .ok (.iconst 0, 1) := by decide +kernel
theorem dX0_findTextByList_17 : decode cX0_findTextByList 17 = .ok (.istore 7, 2) := by decide +kernel
theorem dX0_findTextByList_19 : decode cX0_findTextByList 19 = .ok (.iload 7, 2) := by decide +kernel
theorem dX0_findTextByList_21 : decode cX0_findTextByList 21 = .ok (.bipush 60, 2) := by decide +kernel
theorem dX0_findTextByList_23 : decode cX0_findTextByList 23 = .ok (.if_icmp .ge 38, 3) := by decide +kernel
theorem dX0_findTextByList_26 : decode cX0_findTextByList 26 = .ok (.aload_n 0, 1) := by decide +kernel
theorem dX0_findTextByList_27 : decode cX0_findTextByList 27 = .ok (.iload 6, 2) := by decide +kernel
theorem dX0_findTextByList_29 : decode cX0_findTextByList 29 = .ok (.invokevirtual 131, 3) := by decide +kernel
theorem dX0_findTextByList_32 : decode cX0_findTextByList 32 = .ok (.ifCond .eq 29, 3) := by decide +kernel
theorem dX0_findTextByList_35 : decode cX0_findTextByList 35 = .ok (.aload_n 0, 1) := by decide +kernel
theorem dX0_findTextByList_36 : decode cX0_findTextByList 36 = .ok (.lload_n 3, 1) := by decide +kernel
theorem dX0_findTextByList_37 : decode cX0_findTextByList 37 = .ok (.iload 6, 2) := by decide +kernel
theorem dX0_findTextByList_39 : decode cX0_findTextByList 39 = .ok (.iload 5, 2) := by decide +kernel
theorem dX0_findTextByList_41 : decode cX0_findTextByList 41 = .ok (.invokevirtual 160, 3) := by decide +kernel
theorem dX0_findTextByList_44 : decode cX0_findTextByList 44 = .ok (.istore 5, 2) := by decide +kernel
theorem dX0_findTextByList_46 : decode cX0_findTextByList 46 = .ok (.aload_n 0, 1) := by decide +kernel
theorem dX0_findTextByList_47 : decode cX0_findTextByList 47 = .ok (.getfield 51, 3) := by decide +kernel
theorem dX0_findTextByList_50 : decode cX0_findTextByList 50 = .ok (.iload 6, 2) := by decide +kernel
theorem dX0_findTextByList_52 : decode cX0_findTextByList 52 = .ok (.iaload, 1) := by decide +kernel
theorem dX0_findTextByList_53 : decode cX0_findTextByList 53 = .ok (.istore 6, 2) := by decide +kernel
theorem dX0_findTextByList_55 : decode cX0_findTextByList 55 = .ok (.iinc 7 1, 3) := by decide +kernel
theorem dX0_findTextByList_58 : decode cX0_findTextByList 58 = .ok (.goto (-39), 3) := by decide +kernel
theorem dX0_findTextByList_61 : decode cX0_findTextByList 61 = .ok (.iload 5, 2) := by decide +kernel
theorem dX0_findTextByList_63 : decode cX0_findTextByList 63 = .ok (.ireturn, 1) := by decide +kernel
set_option maxRecDepth 20000 in
theorem ggX0_layList_X0_has : GoodIn wsX0_layList wsX0_has := goodIn_r _ [7, 8, 9, 6, 10] (by decide +kernel) (by decide +kernel)
set_option maxRecDepth 20000 in
theorem gX0_layList_X0_has : GoodIn wsX0_layList (va_wsS RX0 101 yX0_has wsX0_has) := goodIn_app (goodIn_of _ (by decide +kernel)) ggX0_layList_X0_has
set_option maxRecDepth 20000 in
theorem ggX0_layList_X0_isInsert : GoodIn wsX0_layList wsX0_isInsert := goodIn_r _ [14, 15, 20, 21, 22, 23, 24, 25, 26, 27, 28, 29, 30, 31, 32, 33] (by decide +kernel) (by decide +kernel)
set_option maxRecDepth 20000 in
theorem gX0_layList_X0_isInsert : GoodIn wsX0_layList (wsV RX0 146 RX0 yX0_isInsert wsX0_isInsert) := goodIn_app (goodIn_of _ (by decide +kernel)) ggX0_layList_X0_isInsert
set_option maxRecDepth 20000 in
theorem ggX0_layList_X0_isEvent : GoodIn wsX0_layList wsX0_isEvent := goodIn_r _ [19, 1, 20, 21, 22, 23, 24, 25, 26, 27, 28, 29, 30, 31, 32, 33] (by decide +kernel) (by decide +kernel)
set_option maxRecDepth 20000 in
theorem gX0_layList_X0_isEvent : GoodIn wsX0_layList (wsV RX0 131 RX0 yX0_isEvent wsX0_isEvent) := goodIn_app (goodIn_of _ (by decide +kernel)) ggX0_layList_X0_isEvent
theorem dX0_layList_0 : decode cX0_layList 0 = .ok (.iconst (-1), 1) := by decide +kernel
theorem dX0_layList_1 : decode cX0_layList 1 = .ok (.istore_n 3, 1) := by decide +kernel
theorem dX0_layList_2 : decode cX0_layList 2 = .ok (.iconst 0, 1) := by decide +kernel
theorem dX0_layList_3 : decode cX0_layList 3 = .ok (.istore 4, 2) := by decide +kernel
theorem dX0_layList_5 : decode cX0_layList 5 = .ok (.iload 4, 2) := by decide +kernel
theorem dX0_layList_7 : decode cX0_layList 7 = .ok (.aload_n 0, 1) := by decide +kernel
theorem dX0_layList_8 : decode cX0_layList 8 = .ok (.getfield 7, 3) := by decide +kernel
theorem dX0_layList_11 : decode cX0_layList 11 = .ok (.if_icmp .ge 82, 3) := by decide +kernel
theorem dX0_layList_14 : decode cX0_layList 14 = .ok (.lload_n 1, 1) := by decide +kernel
theorem dX0_layList_15 : decode cX0_layList 15 = .ok (.iload 4, 2) := by decide +kernel
theorem dX0_layList_17 : decode cX0_layList 17 = .ok (.invokestatic 101, 3) := by decide +kernel
theorem dX0_layList_20 : decode cX0_layList 20 = .ok (.ifCond .eq 67, 3) := by decide +kernel
theorem dX0_layList_23 : decode cX0_layList 23 = .ok (.aload_n 0, 1) := by decide +kernel
theorem dX0_layList_24 : decode cX0_layList 24 = .ok (.iload 4, 2) := by decide +kernel
theorem dX0_layList_26 : decode cX0_layList 26 = .ok (.invokevirtual 146, 3) := by decide +kernel
theorem dX0_layList_29 : decode cX0_layList 29 = .ok (.ifCond .eq 58, 3) := by decide +kernel
theorem dX0_layList_32 : decode cX0_layList 32 = .ok (.aload_n 0, 1) := by decide +kernel
theorem dX0_layList_33 : decode cX0_layList 33 = .ok (.getfield 20, 3) := by decide +kernel
theorem dX0_layList_36 : decode cX0_layList 36 = .ok (.iload 4, 2) := by decide +kernel
theorem dX0_layList_38 : decode cX0_layList 38 = .ok (.iaload, 1) := by decide +kernel
theorem dX0_layList_39 : decode cX0_layList 39 = .ok (.istore 5, 2) := by decide +kernel
theorem dX0_layList_41 : decode cX0_layList 41 = .ok (.aload_n 0, 1) := by decide +kernel
theorem dX0_layList_42 : decode cX0_layList 42 = .ok (.iload 5, 2) := by decide +kernel
theorem dX0_layList_44 : decode cX0_layList 44 = .ok (.invokevirtual 131, 3) := by decide +kernel
theorem dX0_layList_47 : decode cX0_layList 47 = .ok (.ifCond .eq 29, 3) := by decide +kernel
theorem dX0_layList_50 : decode cX0_layList 50 = .ok (.aload_n 0, 1) := by decide +kernel
theorem dX0_layList_51 : decode cX0_layList 51 = .ok (.getfield 51, 3) := by decide +kernel
theorem dX0_layList_54 : decode cX0_layList 54 = .ok (.iload 4, 2) := by decide +kernel
theorem dX0_layList_56 : decode cX0_layList 56 = .ok (.aload_n 0, 1) := by decide +kernel
theorem dX0_layList_57 : decode cX0_layList 57 = .ok (.getfield 51, 3) := by decide +kernel
theorem dX0_layList_60 : decode cX0_layList 60 = .ok (.iload 5, 2) := by decide +kernel
theorem dX0_layList_62 : decode cX0_layList 62 = .ok (.iaload, 1) := by decide +kernel
theorem dX0_layList_63 : decode cX0_layList 63 = .ok (.iastore, 1) := by decide +kernel
theorem dX0_layList_64 : decode cX0_layList 64 = .ok (.aload_n 0, 1) := by decide +kernel
theorem dX0_layList_65 : decode cX0_layList 65 = .ok (.getfield 51, 3) := by decide +kernel
theorem dX0_layList_68 : decode cX0_layList 68 = .ok (.iload 5, 2) := by decide +kernel
theorem dX0_layList_70 : decode cX0_layList 70 = .ok (.iload 4, 2) := by decide +kernel
theorem dX0_layList_72 : decode cX0_layList 72 = .ok (.iastore, 1) := by decide +kernel
theorem dX0_layList_73 : decode cX0_layList 73 = .ok (.goto 14, 3) := by decide +kernel
theorem dX0_layList_76 : decode cX0_layList 76 = .ok (.aload_n 0, 1) := by decide +kernel
theorem dX0_layList_77 : decode cX0_layList 77 = .ok (.getfield 51, 3) := by decide +kernel
theorem dX0_layList_80 : decode cX0_layList 80 = .ok (.iload 4, 2) := by decide +kernel
theorem dX0_layList_82 : decode cX0_layList 82 = .ok (.iload_n 3, 1) := by decide +kernel
theorem dX0_layList_83 : decode cX0_layList 83 = .ok (.iastore, 1) := by decide +kernel
theorem dX0_layList_84 : decode cX0_layList 84 = .ok (.iload 4, 2) := by decide +kernel
theorem dX0_layList_86 : decode cX0_layList 86 = .ok (.istore_n 3, 1) := by decide +kernel
theorem dX0_layList_87 : decode cX0_layList 87 = .ok (.iinc 4 1, 3) := by decide +kernel
theorem dX0_layList_90 : decode cX0_layList 90 = .ok (.goto (-85), 3) := by decide +kernel
theorem dX0_layList_93 : decode cX0_layList 93 = .ok (.iload_n 3, 1) := by decide +kernel
theorem dX0_layList_94 : decode cX0_layList 94 = .ok (.ireturn, 1) := by decide +kernel

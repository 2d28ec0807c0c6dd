set_option maxRecDepth 20000 in
theorem ggX1_power_X1_isSlot : GoodIn wsX1_power wsX1_isSlot := goodIn_r _ [7] (by decide +kernel) (by decide +kernel)
set_option maxRecDepth 20000 in
theorem gX1_power_X1_isSlot : GoodIn wsX1_power (va_wsS RX1 70 yX1_isSlot wsX1_isSlot) := goodIn_app (goodIn_of _ (by decide +kernel)) ggX1_power_X1_isSlot
set_option maxRecDepth 20000 in
theorem ggX1_power_X1_no : GoodIn wsX1_power wsX1_no := goodIn_r _ [11, 12, 47, 48, 49, 50, 51, 52, 53, 54, 55, 56, 57, 58] (by decide +kernel) (by decide +kernel)
set_option maxRecDepth 20000 in
theorem gX1_power_X1_no : GoodIn wsX1_power (wsV RX1 74 RX1 yX1_no wsX1_no) := goodIn_app (goodIn_of _ (by decide +kernel)) ggX1_power_X1_no
set_option maxRecDepth 20000 in
theorem ggX1_power_X1_isBase : GoodIn wsX1_power wsX1_isBase := goodIn_r _ [15, 16, 17, 6, 18] (by decide +kernel) (by decide +kernel)
set_option maxRecDepth 20000 in
theorem gX1_power_X1_isBase : GoodIn wsX1_power (va_wsS RX1 78 yX1_isBase wsX1_isBase) := goodIn_app (goodIn_of _ (by decide +kernel)) ggX1_power_X1_isBase
set_option maxRecDepth 20000 in
theorem ggX1_power_X1_isExponent : GoodIn wsX1_power wsX1_isExponent := goodIn_r _ [21, 16, 17, 6, 18] (by decide +kernel) (by decide +kernel)
set_option maxRecDepth 20000 in
theorem gX1_power_X1_isExponent : GoodIn wsX1_power (va_wsS RX1 88 yX1_isExponent wsX1_isExponent) := goodIn_app (goodIn_of _ (by decide +kernel)) ggX1_power_X1_isExponent
set_option maxRecDepth 20000 in
theorem ggX1_power_X1_isTold_ : GoodIn wsX1_power wsX1_isTold_ := goodIn_ca (goodIn_r _ [25, 26, 27, 6, 28, 29, 30, 31, 32, 33, 1, 2, 3, 34, 47, 48, 49, 50, 51, 52, 53, 54, 55, 56, 57, 58] (by decide +kernel) (by decide +kernel)) (goodIn_sub (fun _ h => List.mem_cons_of_mem _ (List.mem_append_left _ (List.mem_append_right _ h))) (by decide +kernel))
set_option maxRecDepth 20000 in
theorem gX1_power_X1_isTold_ : GoodIn wsX1_power (wsV RX1 81 RX1 yX1_isTold_ wsX1_isTold_) := goodIn_app (goodIn_of _ (by decide +kernel)) ggX1_power_X1_isTold_
set_option maxRecDepth 20000 in
theorem ggX1_power_X1_become : GoodIn wsX1_power wsX1_become := goodIn_ca (goodIn_r _ [38, 39, 40, 41, 42, 43, 44, 45, 46, 47, 48, 49, 50, 51, 52, 53, 54, 55, 56, 57, 58] (by decide +kernel) (by decide +kernel)) (goodIn_sub (fun _ h => List.mem_cons_of_mem _ (List.mem_append_right _ h)) (by decide +kernel))
set_option maxRecDepth 20000 in
theorem gX1_power_X1_become : GoodIn wsX1_power (wsV RX1 84 RX1 yX1_become wsX1_become) := goodIn_app (goodIn_of _ (by decide +kernel)) ggX1_power_X1_become
theorem dX1_power_0 : decode cX1_power 0 = .ok (.aload_n 0, 1) := by decide +kernel
theorem dX1_power_1 : decode cX1_power 1 = .ok (.iload_n 1, 1) := by decide +kernel
theorem dX1_power_2 : decode cX1_power 2 = .ok (.invokestatic 70, 3) := by decide +kernel
theorem dX1_power_5 : decode cX1_power 5 = .ok (.iconst 1, 1) := by decide +kernel
theorem dX1_power_6 : decode cX1_power 6 = .ok (.invokevirtual 74, 3) := by decide +kernel
theorem dX1_power_9 : decode cX1_power 9 = .ok (.ifCond .ne 44, 3) := by decide +kernel
theorem dX1_power_12 : decode cX1_power 12 = .ok (.aload_n 0, 1) := by decide +kernel
theorem dX1_power_13 : decode cX1_power 13 = .ok (.iload_n 2, 1) := by decide +kernel
theorem dX1_power_14 : decode cX1_power 14 = .ok (.invokestatic 78, 3) := by decide +kernel
theorem dX1_power_17 : decode cX1_power 17 = .ok (.ifCond .eq 14, 3) := by decide +kernel
theorem dX1_power_20 : decode cX1_power 20 = .ok (.iload_n 3, 1) := by decide +kernel
theorem dX1_power_21 : decode cX1_power 21 = .ok (.invokestatic 88, 3) := by decide +kernel
theorem dX1_power_24 : decode cX1_power 24 = .ok (.ifCond .eq 7, 3) := by decide +kernel
theorem dX1_power_27 : decode cX1_power 27 = .ok (.iconst 1, 1) := by decide +kernel
theorem dX1_power_28 : decode cX1_power 28 = .ok (.goto 4, 3) := by decide +kernel
theorem dX1_power_31 : decode cX1_power 31 = .ok (.iconst 0, 1) := by decide +kernel
theorem dX1_power_32 : decode cX1_power 32 = .ok (.iconst 2, 1) := by decide +kernel
theorem dX1_power_33 : decode cX1_power 33 = .ok (.invokevirtual 74, 3) := by decide +kernel
theorem dX1_power_36 : decode cX1_power 36 = .ok (.ifCond .ne 17, 3) := by decide +kernel
theorem dX1_power_39 : decode cX1_power 39 = .ok (.aload_n 0, 1) := by decide +kernel
theorem dX1_power_40 : decode cX1_power 40 = .ok (.aload_n 0, 1) := by decide +kernel
theorem dX1_power_41 : decode cX1_power 41 = .ok (.iload_n 2, 1) := by decide +kernel
theorem dX1_power_42 : decode cX1_power 42 = .ok (.iload_n 3, 1) := by decide +kernel
theorem dX1_power_43 : decode cX1_power 43 = .ok (.invokevirtual 81, 3) := by decide +kernel
theorem dX1_power_46 : decode cX1_power 46 = .ok (.iconst 3, 1) := by decide +kernel
theorem dX1_power_47 : decode cX1_power 47 = .ok (.invokevirtual 74, 3) := by decide +kernel
theorem dX1_power_50 : decode cX1_power 50 = .ok (.ifCond .eq 5, 3) := by decide +kernel
theorem dX1_power_53 : decode cX1_power 53 = .ok (.iconst 0, 1) := by decide +kernel
theorem dX1_power_54 : decode cX1_power 54 = .ok (.ireturn, 1) := by decide +kernel
theorem dX1_power_55 : decode cX1_power 55 = .ok (.aload_n 0, 1) := by decide +kernel
theorem dX1_power_56 : decode cX1_power 56 = .ok (.iload_n 1, 1) := by decide +kernel
theorem dX1_power_57 : decode cX1_power 57 = .ok (.aload_n 0, 1) := by decide +kernel
theorem dX1_power_58 : decode cX1_power 58 = .ok (.getfield 51, 3) := by decide +kernel
theorem dX1_power_61 : decode cX1_power 61 = .ok (.aload_n 0, 1) := by decide +kernel
theorem dX1_power_62 : decode cX1_power 62 = .ok (.getfield 54, 3) := by decide +kernel
theorem dX1_power_65 : decode cX1_power 65 = .ok (.aload_n 0, 1) := by decide +kernel
theorem dX1_power_66 : decode cX1_power 66 = .ok (.getfield 58, 3) := by decide +kernel
theorem dX1_power_69 : decode cX1_power 69 = .ok (.invokevirtual 84, 3) := by decide +kernel
theorem dX1_power_72 : decode cX1_power 72 = .ok (.ireturn, 1) := by decide +kernel
set_option maxRecDepth 20000 in
theorem ggX1_twoTo_X1_isSlot : GoodIn wsX1_twoTo wsX1_isSlot := goodIn_r _ [4] (by decide +kernel) (by decide +kernel)
set_option maxRecDepth 20000 in
theorem gX1_twoTo_X1_isSlot : GoodIn wsX1_twoTo (va_wsS RX1 70 yX1_isSlot wsX1_isSlot) := goodIn_app (goodIn_of _ (by decide +kernel)) ggX1_twoTo_X1_isSlot
set_option maxRecDepth 20000 in
theorem ggX1_twoTo_X1_no : GoodIn wsX1_twoTo wsX1_no := goodIn_r _ [8, 9, 25, 26, 27, 28, 29, 30, 31, 32, 33, 34, 35, 36] (by decide +kernel) (by decide +kernel)
set_option maxRecDepth 20000 in
theorem gX1_twoTo_X1_no : GoodIn wsX1_twoTo (wsV RX1 74 RX1 yX1_no wsX1_no) := goodIn_app (goodIn_of _ (by decide +kernel)) ggX1_twoTo_X1_no
set_option maxRecDepth 20000 in
theorem ggX1_twoTo_X1_isFrom : GoodIn wsX1_twoTo wsX1_isFrom := goodIn_r _ [12] (by decide +kernel) (by decide +kernel)
set_option maxRecDepth 20000 in
theorem gX1_twoTo_X1_isFrom : GoodIn wsX1_twoTo (va_wsS RX1 39 yX1_isFrom wsX1_isFrom) := goodIn_app (goodIn_of _ (by decide +kernel)) ggX1_twoTo_X1_isFrom
set_option maxRecDepth 20000 in
theorem ggX1_twoTo_X1_become : GoodIn wsX1_twoTo wsX1_become := goodIn_ca (goodIn_r _ [16, 17, 18, 19, 20, 21, 22, 23, 24, 25, 26, 27, 28, 29, 30, 31, 32, 33, 34, 35, 36] (by decide +kernel) (by decide +kernel)) (goodIn_sub (fun _ h => List.mem_cons_of_mem _ (List.mem_append_right _ h)) (by decide +kernel))
set_option maxRecDepth 20000 in
theorem gX1_twoTo_X1_become : GoodIn wsX1_twoTo (wsV RX1 84 RX1 yX1_become wsX1_become) := goodIn_app (goodIn_of _ (by decide +kernel)) ggX1_twoTo_X1_become
theorem dX1_twoTo_0 : decode cX1_twoTo 0 = .ok (.aload_n 0, 1) := by decide +kernel
theorem dX1_twoTo_1 : decode cX1_twoTo 1 = .ok (.iload_n 1, 1) := by decide +kernel
theorem dX1_twoTo_2 : decode cX1_twoTo 2 = .ok (.invokestatic 70, 3) := by decide +kernel
theorem dX1_twoTo_5 : decode cX1_twoTo 5 = .ok (.iconst 1, 1) := by decide +kernel
theorem dX1_twoTo_6 : decode cX1_twoTo 6 = .ok (.invokevirtual 74, 3) := by decide +kernel
theorem dX1_twoTo_9 : decode cX1_twoTo 9 = .ok (.ifCond .ne 21, 3) := by decide +kernel
theorem dX1_twoTo_12 : decode cX1_twoTo 12 = .ok (.aload_n 0, 1) := by decide +kernel
theorem dX1_twoTo_13 : decode cX1_twoTo 13 = .ok (.iload_n 2, 1) := by decide +kernel
theorem dX1_twoTo_14 : decode cX1_twoTo 14 = .ok (.sipush (-1000), 3) := by decide +kernel
theorem dX1_twoTo_17 : decode cX1_twoTo 17 = .ok (.sipush 1000, 3) := by decide +kernel
theorem dX1_twoTo_20 : decode cX1_twoTo 20 = .ok (.invokestatic 39, 3) := by decide +kernel
theorem dX1_twoTo_23 : decode cX1_twoTo 23 = .ok (.iconst 2, 1) := by decide +kernel
theorem dX1_twoTo_24 : decode cX1_twoTo 24 = .ok (.invokevirtual 74, 3) := by decide +kernel
theorem dX1_twoTo_27 : decode cX1_twoTo 27 = .ok (.ifCond .eq 5, 3) := by decide +kernel
theorem dX1_twoTo_30 : decode cX1_twoTo 30 = .ok (.iconst 0, 1) := by decide +kernel
theorem dX1_twoTo_31 : decode cX1_twoTo 31 = .ok (.ireturn, 1) := by decide +kernel
theorem dX1_twoTo_32 : decode cX1_twoTo 32 = .ok (.aload_n 0, 1) := by decide +kernel
theorem dX1_twoTo_33 : decode cX1_twoTo 33 = .ok (.iload_n 1, 1) := by decide +kernel
theorem dX1_twoTo_34 : decode cX1_twoTo 34 = .ok (.iconst 1, 1) := by decide +kernel
theorem dX1_twoTo_35 : decode cX1_twoTo 35 = .ok (.lconst 1, 1) := by decide +kernel
theorem dX1_twoTo_36 : decode cX1_twoTo 36 = .ok (.iload_n 2, 1) := by decide +kernel
theorem dX1_twoTo_37 : decode cX1_twoTo 37 = .ok (.invokevirtual 84, 3) := by decide +kernel
theorem dX1_twoTo_40 : decode cX1_twoTo 40 = .ok (.ireturn, 1) := by decide +kernel
set_option maxRecDepth 20000 in
theorem ggX1_raise_X1_isSlot : GoodIn wsX1_raise wsX1_isSlot := goodIn_r _ [10] (by decide +kernel) (by decide +kernel)
set_option maxRecDepth 20000 in
theorem gX1_raise_X1_isSlot : GoodIn wsX1_raise (va_wsS RX1 70 yX1_isSlot wsX1_isSlot) := goodIn_app (goodIn_of _ (by decide +kernel)) ggX1_raise_X1_isSlot
set_option maxRecDepth 20000 in
theorem ggX1_raise_X1_no : GoodIn wsX1_raise wsX1_no := goodIn_r _ [14, 15, 33, 34, 35, 36, 37, 38, 39, 40, 41, 42, 43, 44] (by decide +kernel) (by decide +kernel)
set_option maxRecDepth 20000 in
theorem gX1_raise_X1_no : GoodIn wsX1_raise (wsV RX1 74 RX1 yX1_no wsX1_no) := goodIn_app (goodIn_of _ (by decide +kernel)) ggX1_raise_X1_no
set_option maxRecDepth 20000 in
theorem ggX1_raise_X1_isFrom : GoodIn wsX1_raise wsX1_isFrom := goodIn_r _ [18] (by decide +kernel) (by decide +kernel)
set_option maxRecDepth 20000 in
theorem gX1_raise_X1_isFrom : GoodIn wsX1_raise (va_wsS RX1 39 yX1_isFrom wsX1_isFrom) := goodIn_app (goodIn_of _ (by decide +kernel)) ggX1_raise_X1_isFrom
set_option maxRecDepth 20000 in
theorem ggX1_raise_X1_isTold : GoodIn wsX1_raise wsX1_isTold := goodIn_ca (goodIn_r _ [22, 4, 5, 6, 23, 33, 34, 35, 36, 37, 38, 39, 40, 41, 42, 43, 44] (by decide +kernel) (by decide +kernel)) (goodIn_sub (fun _ h => List.mem_cons_of_mem _ (List.mem_append_right _ h)) (by decide +kernel))
set_option maxRecDepth 20000 in
theorem gX1_raise_X1_isTold : GoodIn wsX1_raise (wsV RX1 66 RX1 yX1_isTold wsX1_isTold) := goodIn_app (goodIn_of _ (by decide +kernel)) ggX1_raise_X1_isTold
set_option maxRecDepth 20000 in
theorem ggX1_raise_X1_become : GoodIn wsX1_raise wsX1_become := goodIn_ca (goodIn_r _ [27, 28, 29, 30, 31, 32, 2, 3, 1, 33, 34, 35, 36, 37, 38, 39, 40, 41, 42, 43, 44] (by decide +kernel) (by decide +kernel)) (goodIn_sub (fun _ h => List.mem_cons_of_mem _ (List.mem_append_left _ (List.mem_append_right _ h))) (by decide +kernel))
set_option maxRecDepth 20000 in
theorem gX1_raise_X1_become : GoodIn wsX1_raise (wsV RX1 84 RX1 yX1_become wsX1_become) := goodIn_app (goodIn_of _ (by decide +kernel)) ggX1_raise_X1_become
theorem dX1_raise_0 : decode cX1_raise 0 = .ok (.aload_n 0, 1) := by decide +kernel
theorem dX1_raise_1 : decode cX1_raise 1 = .ok (.iload_n 1, 1) := by decide +kernel
theorem dX1_raise_2 : decode cX1_raise 2 = .ok (.invokestatic 70, 3) := by decide +kernel
theorem dX1_raise_5 : decode cX1_raise 5 = .ok (.ifCond .eq 14, 3) := by decide +kernel
theorem dX1_raise_8 : decode cX1_raise 8 = .ok (.iload_n 3, 1) := by decide +kernel
theorem dX1_raise_9 : decode cX1_raise 9 = .ok (.invokestatic 70, 3) := by decide +kernel
theorem dX1_raise_12 : decode cX1_raise 12 = .ok (.ifCond .eq 7, 3) := by decide +kernel
theorem dX1_raise_15 : decode cX1_raise 15 = .ok (.iconst 1, 1) := by decide +kernel
theorem dX1_raise_16 : decode cX1_raise 16 = .ok (.goto 4, 3) := by decide +kernel
theorem dX1_raise_19 : decode cX1_raise 19 = .ok (.iconst 0, 1) := by decide +kernel
theorem dX1_raise_20 : decode cX1_raise 20 = .ok (.iconst 1, 1) := by decide +kernel
theorem dX1_raise_21 : decode cX1_raise 21 = .ok (.invokevirtual 74, 3) := by decide +kernel
theorem dX1_raise_24 : decode cX1_raise 24 = .ok (.ifCond .ne 41, 3) := by decide +kernel
theorem dX1_raise_27 : decode cX1_raise 27 = .ok (.aload_n 0, 1) := by decide +kernel
theorem dX1_raise_28 : decode cX1_raise 28 = .ok (.iload_n 2, 1) := by decide +kernel
theorem dX1_raise_29 : decode cX1_raise 29 = .ok (.bipush (-64), 2) := by decide +kernel
theorem dX1_raise_31 : decode cX1_raise 31 = .ok (.bipush 64, 2) := by decide +kernel
theorem dX1_raise_33 : decode cX1_raise 33 = .ok (.invokestatic 39, 3) := by decide +kernel
theorem dX1_raise_36 : decode cX1_raise 36 = .ok (.iconst 2, 1) := by decide +kernel
theorem dX1_raise_37 : decode cX1_raise 37 = .ok (.invokevirtual 74, 3) := by decide +kernel
theorem dX1_raise_40 : decode cX1_raise 40 = .ok (.ifCond .ne 25, 3) := by decide +kernel
theorem dX1_raise_43 : decode cX1_raise 43 = .ok (.aload_n 0, 1) := by decide +kernel
theorem dX1_raise_44 : decode cX1_raise 44 = .ok (.aload_n 0, 1) := by decide +kernel
theorem dX1_raise_45 : decode cX1_raise 45 = .ok (.getfield 17, 3) := by decide +kernel
theorem dX1_raise_48 : decode cX1_raise 48 = .ok (.iload_n 1, 1) := by decide +kernel
theorem dX1_raise_49 : decode cX1_raise 49 = .ok (.iaload, 1) := by decide +kernel
theorem dX1_raise_50 : decode cX1_raise 50 = .ok (.ifCond .lt 7, 3) := by decide +kernel
theorem dX1_raise_53 : decode cX1_raise 53 = .ok (.iconst 1, 1) := by decide +kernel
theorem dX1_raise_54 : decode cX1_raise 54 = .ok (.goto 4, 3) := by decide +kernel
theorem dX1_raise_57 : decode cX1_raise 57 = .ok (.iconst 0, 1) := by decide +kernel
theorem dX1_raise_58 : decode cX1_raise 58 = .ok (.iconst 3, 1) := by decide +kernel
theorem dX1_raise_59 : decode cX1_raise 59 = .ok (.invokevirtual 74, 3) := by decide +kernel
theorem dX1_raise_62 : decode cX1_raise 62 = .ok (.ifCond .eq 5, 3) := by decide +kernel
theorem dX1_raise_65 : decode cX1_raise 65 = .ok (.iconst 0, 1) := by decide +kernel
theorem dX1_raise_66 : decode cX1_raise 66 = .ok (.ireturn, 1) := by decide +kernel
theorem dX1_raise_67 : decode cX1_raise 67 = .ok (.aload_n 0, 1) := by decide +kernel
theorem dX1_raise_68 : decode cX1_raise 68 = .ok (.aload_n 0, 1) := by decide +kernel
theorem dX1_raise_69 : decode cX1_raise 69 = .ok (.getfield 9, 3) := by decide +kernel
theorem dX1_raise_72 : decode cX1_raise 72 = .ok (.iload_n 1, 1) := by decide +kernel
theorem dX1_raise_73 : decode cX1_raise 73 = .ok (.iaload, 1) := by decide +kernel
theorem dX1_raise_74 : decode cX1_raise 74 = .ok (.ifCond .ne 7, 3) := by decide +kernel
theorem dX1_raise_77 : decode cX1_raise 77 = .ok (.iload_n 2, 1) := by decide +kernel
theorem dX1_raise_78 : decode cX1_raise 78 = .ok (.ifCond .lt 7, 3) := by decide +kernel
theorem dX1_raise_81 : decode cX1_raise 81 = .ok (.iconst 1, 1) := by decide +kernel
theorem dX1_raise_82 : decode cX1_raise 82 = .ok (.goto 4, 3) := by decide +kernel
theorem dX1_raise_85 : decode cX1_raise 85 = .ok (.iconst 0, 1) := by decide +kernel
theorem dX1_raise_86 : decode cX1_raise 86 = .ok (.iconst 4, 1) := by decide +kernel
theorem dX1_raise_87 : decode cX1_raise 87 = .ok (.invokevirtual 74, 3) := by decide +kernel
theorem dX1_raise_90 : decode cX1_raise 90 = .ok (.ifCond .ne 34, 3) := by decide +kernel
theorem dX1_raise_93 : decode cX1_raise 93 = .ok (.aload_n 0, 1) := by decide +kernel
theorem dX1_raise_94 : decode cX1_raise 94 = .ok (.aload_n 0, 1) := by decide +kernel
theorem dX1_raise_95 : decode cX1_raise 95 = .ok (.aload_n 0, 1) := by decide +kernel
theorem dX1_raise_96 : decode cX1_raise 96 = .ok (.getfield 9, 3) := by decide +kernel
theorem dX1_raise_99 : decode cX1_raise 99 = .ok (.iload_n 1, 1) := by decide +kernel
theorem dX1_raise_100 : decode cX1_raise 100 = .ok (.iaload, 1) := by decide +kernel
theorem dX1_raise_101 : decode cX1_raise 101 = .ok (.aload_n 0, 1) := by decide +kernel
theorem dX1_raise_102 : decode cX1_raise 102 = .ok (.getfield 13, 3) := by decide +kernel
theorem dX1_raise_105 : decode cX1_raise 105 = .ok (.iload_n 1, 1) := by decide +kernel
theorem dX1_raise_106 : decode cX1_raise 106 = .ok (.laload, 1) := by decide +kernel
theorem dX1_raise_107 : decode cX1_raise 107 = .ok (.aload_n 0, 1) := by decide +kernel
theorem dX1_raise_108 : decode cX1_raise 108 = .ok (.getfield 17, 3) := by decide +kernel
theorem dX1_raise_111 : decode cX1_raise 111 = .ok (.iload_n 1, 1) := by decide +kernel
theorem dX1_raise_112 : decode cX1_raise 112 = .ok (.iaload, 1) := by decide +kernel
theorem dX1_raise_113 : decode cX1_raise 113 = .ok (.iload_n 2, 1) := by decide +kernel
theorem dX1_raise_114 : decode cX1_raise 114 = .ok (.invokevirtual 66, 3) := by decide +kernel
theorem dX1_raise_117 : decode cX1_raise 117 = .ok (.iconst 5, 1) := by decide +kernel
theorem dX1_raise_118 : decode cX1_raise 118 = .ok (.invokevirtual 74, 3) := by decide +kernel
theorem dX1_raise_121 : decode cX1_raise 121 = .ok (.ifCond .eq 5, 3) := by decide +kernel
theorem dX1_raise_124 : decode cX1_raise 124 = .ok (.iconst 0, 1) := by decide +kernel
theorem dX1_raise_125 : decode cX1_raise 125 = .ok (.ireturn, 1) := by decide +kernel
theorem dX1_raise_126 : decode cX1_raise 126 = .ok (.aload_n 0, 1) := by decide +kernel
theorem dX1_raise_127 : decode cX1_raise 127 = .ok (.iload_n 3, 1) := by decide +kernel
theorem dX1_raise_128 : decode cX1_raise 128 = .ok (.aload_n 0, 1) := by decide +kernel
theorem dX1_raise_129 : decode cX1_raise 129 = .ok (.getfield 51, 3) := by decide +kernel
theorem dX1_raise_132 : decode cX1_raise 132 = .ok (.aload_n 0, 1) := by decide +kernel
theorem dX1_raise_133 : decode cX1_raise 133 = .ok (.getfield 54, 3) := by decide +kernel
theorem dX1_raise_136 : decode cX1_raise 136 = .ok (.aload_n 0, 1) := by decide +kernel
theorem dX1_raise_137 : decode cX1_raise 137 = .ok (.getfield 58, 3) := by decide +kernel
theorem dX1_raise_140 : decode cX1_raise 140 = .ok (.invokevirtual 84, 3) := by decide +kernel
theorem dX1_raise_143 : decode cX1_raise 143 = .ok (.ireturn, 1) := by decide +kernel
set_option maxRecDepth 20000 in
theorem ggX1_copy_X1_isSlot : GoodIn wsX1_copy wsX1_isSlot := goodIn_r _ [7] (by decide +kernel) (by decide +kernel)
set_option maxRecDepth 20000 in
theorem gX1_copy_X1_isSlot : GoodIn wsX1_copy (va_wsS RX1 70 yX1_isSlot wsX1_isSlot) := goodIn_app (goodIn_of _ (by decide +kernel)) ggX1_copy_X1_isSlot
set_option maxRecDepth 20000 in
theorem ggX1_copy_X1_no : GoodIn wsX1_copy wsX1_no := goodIn_r _ [11, 12, 22, 23, 24, 25, 26, 27, 28, 29, 30, 31, 32, 33] (by decide +kernel) (by decide +kernel)
set_option maxRecDepth 20000 in
theorem gX1_copy_X1_no : GoodIn wsX1_copy (wsV RX1 74 RX1 yX1_no wsX1_no) := goodIn_app (goodIn_of _ (by decide +kernel)) ggX1_copy_X1_no
set_option maxRecDepth 20000 in
theorem ggX1_copy_X1_become : GoodIn wsX1_copy wsX1_become := goodIn_ca (goodIn_r _ [16, 17, 18, 19, 20, 21, 1, 2, 3, 22, 23, 24, 25, 26, 27, 28, 29, 30, 31, 32, 33] (by decide +kernel) (by decide +kernel)) (goodIn_sub (fun _ h => List.mem_cons_of_mem _ (List.mem_append_right _ h)) (by decide +kernel))
set_option maxRecDepth 20000 in
theorem gX1_copy_X1_become : GoodIn wsX1_copy (wsV RX1 84 RX1 yX1_become wsX1_become) := goodIn_app (goodIn_of _ (by decide +kernel)) ggX1_copy_X1_become
theorem dX1_copy_0 : decode cX1_copy 0 = .ok (.aload_n 0, 1) := by decide +kernel
theorem dX1_copy_1 : decode cX1_copy 1 = .ok (.iload_n 1, 1) := by decide +kernel
theorem dX1_copy_2 : decode cX1_copy 2 = .ok (.invokestatic 70, 3) := by decide +kernel
theorem dX1_copy_5 : decode cX1_copy 5 = .ok (.ifCond .eq 14, 3) := by decide +kernel
theorem dX1_copy_8 : decode cX1_copy 8 = .ok (.iload_n 2, 1) := by decide +kernel
theorem dX1_copy_9 : decode cX1_copy 9 = .ok (.invokestatic 70, 3) := by decide +kernel
theorem dX1_copy_12 : decode cX1_copy 12 = .ok (.ifCond .eq 7, 3) := by decide +kernel
theorem dX1_copy_15 : decode cX1_copy 15 = .ok (.iconst 1, 1) := by decide +kernel
theorem dX1_copy_16 : decode cX1_copy 16 = .ok (.goto 4, 3) := by decide +kernel
theorem dX1_copy_19 : decode cX1_copy 19 = .ok (.iconst 0, 1) := by decide +kernel
theorem dX1_copy_20 : decode cX1_copy 20 = .ok (.iconst 1, 1) := by decide +kernel
theorem dX1_copy_21 : decode cX1_copy 21 = .ok (.invokevirtual 74, 3) := by decide +kernel
theorem dX1_copy_24 : decode cX1_copy 24 = .ok (.ifCond .eq 5, 3) := by decide +kernel
theorem dX1_copy_27 : decode cX1_copy 27 = .ok (.iconst 0, 1) := by decide +kernel
theorem dX1_copy_28 : decode cX1_copy 28 = .ok (.ireturn, 1) := by decide +kernel
theorem dX1_copy_29 : decode cX1_copy 29 = .ok (.aload_n 0, 1) := by decide +kernel
theorem dX1_copy_30 : decode cX1_copy 30 = .ok (.iload_n 2, 1) := by decide +kernel
theorem dX1_copy_31 : decode cX1_copy 31 = .ok (.aload_n 0, 1) := by decide +kernel
theorem dX1_copy_32 : decode cX1_copy 32 = .ok (.getfield 9, 3) := by decide +kernel
theorem dX1_copy_35 : decode cX1_copy 35 = .ok (.iload_n 1, 1) := by decide +kernel
theorem dX1_copy_36 : decode cX1_copy 36 = .ok (.iaload, 1) := by decide +kernel
theorem dX1_copy_37 : decode cX1_copy 37 = .ok (.aload_n 0, 1) := by decide +kernel
theorem dX1_copy_38 : decode cX1_copy 38 = .ok (.getfield 13, 3) := by decide +kernel
theorem dX1_copy_41 : decode cX1_copy 41 = .ok (.iload_n 1, 1) := by decide +kernel
theorem dX1_copy_42 : decode cX1_copy 42 = .ok (.laload, 1) := by decide +kernel
theorem dX1_copy_43 : decode cX1_copy 43 = .ok (.aload_n 0, 1) := by decide +kernel
theorem dX1_copy_44 : decode cX1_copy 44 = .ok (.getfield 17, 3) := by decide +kernel
theorem dX1_copy_47 : decode cX1_copy 47 = .ok (.iload_n 1, 1) := by decide +kernel
theorem dX1_copy_48 : decode cX1_copy 48 = .ok (.iaload, 1) := by decide +kernel
theorem dX1_copy_49 : decode cX1_copy 49 = .ok (.invokevirtual 84, 3) := by decide +kernel
theorem dX1_copy_52 : decode cX1_copy 52 = .ok (.ireturn, 1) := by decide +kernel
set_option maxRecDepth 20000 in
theorem ggX1_undo_X1_no : GoodIn wsX1_undo wsX1_no := goodIn_r _ [13, 14, 15, 16, 17, 18, 19, 20, 21, 22, 23, 24, 25, 26] (by decide +kernel) (by decide +kernel)
set_option maxRecDepth 20000 in
theorem gX1_undo_X1_no : GoodIn wsX1_undo (wsV RX1 74 RX1 yX1_no wsX1_no) := goodIn_app (goodIn_of _ (by decide +kernel)) ggX1_undo_X1_no
theorem dX1_undo_0 : decode cX1_undo 0 = .ok (.aload_n 0, 1) := by decide +kernel
theorem dX1_undo_1 : decode cX1_undo 1 = .ok (.aload_n 0, 1) := by decide +kernel
theorem dX1_undo_2 : decode cX1_undo 2 = .ok (.getfield 32, 3) := by decide +kernel
theorem dX1_undo_5 : decode cX1_undo 5 = .ok (.ifCond .le 7, 3) := by decide +kernel
theorem dX1_undo_8 : decode cX1_undo 8 = .ok (.iconst 1, 1) := by decide +kernel
theorem dX1_undo_9 : decode cX1_undo 9 = .ok (.goto 4, 3) := by decide +kernel
theorem dX1_undo_12 : decode cX1_undo 12 = .ok (.iconst 0, 1) := by decide +kernel
theorem dX1_undo_13 : decode cX1_undo 13 = .ok (.iconst 1, 1) := by decide +kernel
theorem dX1_undo_14 : decode cX1_undo 14 = .ok (.invokevirtual 74, 3) := by decide +kernel
theorem dX1_undo_17 : decode cX1_undo 17 = .ok (.ifCond .eq 5, 3) := by decide +kernel
theorem dX1_undo_20 : decode cX1_undo 20 = .ok (.iconst 0, 1) := by decide +kernel
theorem dX1_undo_21 : decode cX1_undo 21 = .ok (.ireturn, 1) := by decide +kernel
theorem dX1_undo_22 : decode cX1_undo 22 = .ok (.aload_n 0, 1) := by decide +kernel
theorem dX1_undo_23 : decode cX1_undo 23 = .ok (.dup, 1) := by decide +kernel
theorem dX1_undo_24 : decode cX1_undo 24 = .ok (.getfield 32, 3) := by decide +kernel
theorem dX1_undo_27 : decode cX1_undo 27 = .ok (.iconst 1, 1) := by decide +kernel
theorem dX1_undo_28 : decode cX1_undo 28 = .ok (.isub, 1) := by decide +kernel
theorem dX1_undo_29 : decode cX1_undo 29 = .ok (.putfield 32, 3) := by decide +kernel
theorem dX1_undo_32 : decode cX1_undo 32 = .ok (.aload_n 0, 1) := by decide +kernel
theorem dX1_undo_33 : decode cX1_undo 33 = .ok (.getfield 20, 3) := by decide +kernel
theorem dX1_undo_36 : decode cX1_undo 36 = .ok (.aload_n 0, 1) := by decide +kernel
theorem dX1_undo_37 : decode cX1_undo 37 = .ok (.getfield 32, 3) := by decide +kernel
theorem dX1_undo_40 : decode cX1_undo 40 = .ok (.iaload, 1) := by decide +kernel
theorem dX1_undo_41 : decode cX1_undo 41 = .ok (.istore_n 1, 1) := by decide +kernel
theorem dX1_undo_42 : decode cX1_undo 42 = .ok (.aload_n 0, 1) := by decide +kernel
theorem dX1_undo_43 : decode cX1_undo 43 = .ok (.getfield 9, 3) := by decide +kernel
theorem dX1_undo_46 : decode cX1_undo 46 = .ok (.iload_n 1, 1) := by decide +kernel
theorem dX1_undo_47 : decode cX1_undo 47 = .ok (.aload_n 0, 1) := by decide +kernel
theorem dX1_undo_48 : decode cX1_undo 48 = .ok (.getfield 23, 3) := by decide +kernel
theorem dX1_undo_51 : decode cX1_undo 51 = .ok (.aload_n 0, 1) := by decide +kernel
theorem dX1_undo_52 : decode cX1_undo 52 = .ok (.getfield 32, 3) := by decide +kernel
theorem dX1_undo_55 : decode cX1_undo 55 = .ok (.iaload, 1) := by decide +kernel
theorem dX1_undo_56 : decode cX1_undo 56 = .ok (.iastore, 1) := by decide +kernel
theorem dX1_undo_57 : decode cX1_undo 57 = .ok (.aload_n 0, 1) := by decide +kernel
theorem dX1_undo_58 : decode cX1_undo 58 = .ok (.getfield 13, 3) := by decide +kernel
theorem dX1_undo_61 : decode cX1_undo 61 = .ok (.iload_n 1, 1) := by decide +kernel
theorem dX1_undo_62 : decode cX1_undo 62 = .ok (.aload_n 0, 1) := by decide +kernel
theorem dX1_undo_63 : decode cX1_undo 63 = .ok (.getfield 26, 3) := by decide +kernel
theorem dX1_undo_66 : decode cX1_undo 66 = .ok (.aload_n 0, 1) := by decide +kernel
theorem dX1_undo_67 : decode cX1_undo 67 = .ok (.getfield 32, 3) := by decide +kernel
theorem dX1_undo_70 : decode cX1_undo 70 = .ok (.laload, 1) := by decide +kernel
theorem dX1_undo_71 : decode cX1_undo 71 = .ok (.lastore, 1) := by decide +kernel
theorem dX1_undo_72 : decode cX1_undo 72 = .ok (.aload_n 0, 1) := by decide +kernel
theorem dX1_undo_73 : decode cX1_undo 73 = .ok (.getfield 17, 3) := by decide +kernel
theorem dX1_undo_76 : decode cX1_undo 76 = .ok (.iload_n 1, 1) := by decide +kernel
theorem dX1_undo_77 : decode cX1_undo 77 = .ok (.aload_n 0, 1) := by decide +kernel
theorem dX1_undo_78 : decode cX1_undo 78 = .ok (.getfield 29, 3) := by decide +kernel
theorem dX1_undo_81 : decode cX1_undo 81 = .ok (.aload_n 0, 1) := by decide +kernel
theorem dX1_undo_82 : decode cX1_undo 82 = .ok (.getfield 32, 3) := by decide +kernel
theorem dX1_undo_85 : decode cX1_undo 85 = .ok (.iaload, 1) := by decide +kernel
theorem dX1_undo_86 : decode cX1_undo 86 = .ok (.iastore, 1) := by decide +kernel
theorem dX1_undo_87 : decode cX1_undo 87 = .ok (.iload_n 1, 1) := by decide +kernel
theorem dX1_undo_88 : decode cX1_undo 88 = .ok (.ireturn, 1) := by decide +kernel
theorem dX1_kept_0 : decode cX1_kept 0 = .ok (.aload_n 0, 1) := by decide +kernel
theorem dX1_kept_1 : decode cX1_kept 1 = .ok (.iconst 0, 1) := by decide +kernel
theorem dX1_kept_2 : decode cX1_kept 2 = .ok (.putfield 36, 3) := by decide +kernel
theorem dX1_kept_5 : decode cX1_kept 5 = .ok (.aload_n 0, 1) := by decide +kernel
theorem dX1_kept_6 : decode cX1_kept 6 = .ok (.getfield 32, 3) := by decide +kernel
theorem dX1_kept_9 : decode cX1_kept 9 = .ok (.ireturn, 1) := by decide +kernel
set_option maxRecDepth 20000 in
theorem ggX1_sign_X1_isSlot : GoodIn wsX1_sign wsX1_isSlot := goodIn_r _ [5] (by decide +kernel) (by decide +kernel)
set_option maxRecDepth 20000 in
theorem gX1_sign_X1_isSlot : GoodIn wsX1_sign (va_wsS RX1 70 yX1_isSlot wsX1_isSlot) := goodIn_app (goodIn_of _ (by decide +kernel)) ggX1_sign_X1_isSlot
set_option maxRecDepth 20000 in
theorem ggX1_sign_X1_no : GoodIn wsX1_sign wsX1_no := goodIn_r _ [9, 10, 11, 12, 13, 14, 15, 16, 17, 18, 19, 20, 21, 22] (by decide +kernel) (by decide +kernel)
set_option maxRecDepth 20000 in
theorem gX1_sign_X1_no : GoodIn wsX1_sign (wsV RX1 74 RX1 yX1_no wsX1_no) := goodIn_app (goodIn_of _ (by decide +kernel)) ggX1_sign_X1_no
theorem dX1_sign_0 : decode cX1_sign 0 = .ok (.aload_n 0, 1) := by decide +kernel
theorem dX1_sign_1 : decode cX1_sign 1 = .ok (.iload_n 1, 1) := by decide +kernel
theorem dX1_sign_2 : decode cX1_sign 2 = .ok (.invokestatic 70, 3) := by decide +kernel
theorem dX1_sign_5 : decode cX1_sign 5 = .ok (.iconst 1, 1) := by decide +kernel
theorem dX1_sign_6 : decode cX1_sign 6 = .ok (.invokevirtual 74, 3) := by decide +kernel
theorem dX1_sign_9 : decode cX1_sign 9 = .ok (.ifCond .eq 7, 3) := by decide +kernel
theorem dX1_sign_12 : decode cX1_sign 12 = .ok (.iconst 0, 1) := by decide +kernel
theorem dX1_sign_13 : decode cX1_sign 13 = .ok (.goto 9, 3) := by decide +kernel
theorem dX1_sign_16 : decode cX1_sign 16 = .ok (.aload_n 0, 1) := by decide +kernel
theorem dX1_sign_17 : decode cX1_sign 17 = .ok (.getfield 9, 3) := by decide +kernel
theorem dX1_sign_20 : decode cX1_sign 20 = .ok (.iload_n 1, 1) := by decide +kernel
theorem dX1_sign_21 : decode cX1_sign 21 = .ok (.iaload, 1) := by decide +kernel
theorem dX1_sign_22 : decode cX1_sign 22 = .ok (.ireturn, 1) := by decide +kernel
set_option maxRecDepth 20000 in
theorem ggX1_odd_X1_isSlot : GoodIn wsX1_odd wsX1_isSlot := goodIn_r _ [5] (by decide +kernel) (by decide +kernel)
set_option maxRecDepth 20000 in
theorem gX1_odd_X1_isSlot : GoodIn wsX1_odd (va_wsS RX1 70 yX1_isSlot wsX1_isSlot) := goodIn_app (goodIn_of _ (by decide +kernel)) ggX1_odd_X1_isSlot
set_option maxRecDepth 20000 in
theorem ggX1_odd_X1_no : GoodIn wsX1_odd wsX1_no := goodIn_r _ [9, 10, 11, 12, 13, 14, 15, 16, 17, 18, 19, 20, 21, 22] (by decide +kernel) (by decide +kernel)
set_option maxRecDepth 20000 in
theorem gX1_odd_X1_no : GoodIn wsX1_odd (wsV RX1 74 RX1 yX1_no wsX1_no) := goodIn_app (goodIn_of _ (by decide +kernel)) ggX1_odd_X1_no
theorem dX1_odd_0 : decode cX1_odd 0 = .ok (.aload_n 0, 1) := by decide +kernel
theorem dX1_odd_1 : decode cX1_odd 1 = .ok (.iload_n 1, 1) := by decide +kernel
theorem dX1_odd_2 : decode cX1_odd 2 = .ok (.invokestatic 70, 3) := by decide +kernel
theorem dX1_odd_5 : decode cX1_odd 5 = .ok (.iconst 1, 1) := by decide +kernel
theorem dX1_odd_6 : decode cX1_odd 6 = .ok (.invokevirtual 74, 3) := by decide +kernel
theorem dX1_odd_9 : decode cX1_odd 9 = .ok (.ifCond .eq 7, 3) := by decide +kernel
theorem dX1_odd_12 : decode cX1_odd 12 = .ok (.lconst 0, 1) := by decide +kernel
theorem dX1_odd_13 : decode cX1_odd 13 = .ok (.goto 9, 3) := by decide +kernel
theorem dX1_odd_16 : decode cX1_odd 16 = .ok (.aload_n 0, 1) := by decide +kernel
theorem dX1_odd_17 : decode cX1_odd 17 = .ok (.getfield 13, 3) := by decide +kernel
theorem dX1_odd_20 : decode cX1_odd 20 = .ok (.iload_n 1, 1) := by decide +kernel
theorem dX1_odd_21 : decode cX1_odd 21 = .ok (.laload, 1) := by decide +kernel
theorem dX1_odd_22 : decode cX1_odd 22 = .ok (.lreturn, 1) := by decide +kernel
set_option maxRecDepth 20000 in
theorem ggX1_shift_X1_isSlot : GoodIn wsX1_shift wsX1_isSlot := goodIn_r _ [5] (by decide +kernel) (by decide +kernel)
set_option maxRecDepth 20000 in
theorem gX1_shift_X1_isSlot : GoodIn wsX1_shift (va_wsS RX1 70 yX1_isSlot wsX1_isSlot) := goodIn_app (goodIn_of _ (by decide +kernel)) ggX1_shift_X1_isSlot
set_option maxRecDepth 20000 in
theorem ggX1_shift_X1_no : GoodIn wsX1_shift wsX1_no := goodIn_r _ [9, 10, 11, 12, 13, 14, 15, 16, 17, 18, 19, 20, 21, 22] (by decide +kernel) (by decide +kernel)
set_option maxRecDepth 20000 in
theorem gX1_shift_X1_no : GoodIn wsX1_shift (wsV RX1 74 RX1 yX1_no wsX1_no) := goodIn_app (goodIn_of _ (by decide +kernel)) ggX1_shift_X1_no
theorem dX1_shift_0 : decode cX1_shift 0 = .ok (.aload_n 0, 1) := by decide +kernel
theorem dX1_shift_1 : decode cX1_shift 1 = .ok (.iload_n 1, 1) := by decide +kernel
theorem dX1_shift_2 : decode cX1_shift 2 = .ok (.invokestatic 70, 3) := by decide +kernel
theorem dX1_shift_5 : decode cX1_shift 5 = .ok (.iconst 1, 1) := by decide +kernel
theorem dX1_shift_6 : decode cX1_shift 6 = .ok (.invokevirtual 74, 3) := by decide +kernel
theorem dX1_shift_9 : decode cX1_shift 9 = .ok (.ifCond .eq 7, 3) := by decide +kernel
theorem dX1_shift_12 : decode cX1_shift 12 = .ok (.iconst 0, 1) := by decide +kernel
theorem dX1_shift_13 : decode cX1_shift 13 = .ok (.goto 9, 3) := by decide +kernel
theorem dX1_shift_16 : decode cX1_shift 16 = .ok (.aload_n 0, 1) := by decide +kernel
theorem dX1_shift_17 : decode cX1_shift 17 = .ok (.getfield 17, 3) := by decide +kernel
theorem dX1_shift_20 : decode cX1_shift 20 = .ok (.iload_n 1, 1) := by decide +kernel
theorem dX1_shift_21 : decode cX1_shift 21 = .ok (.iaload, 1) := by decide +kernel
theorem dX1_shift_22 : decode cX1_shift 22 = .ok (.ireturn, 1) := by decide +kernel
set_option maxRecDepth 20000 in
theorem ggX1_bits_X1_isSlot : GoodIn wsX1_bits wsX1_isSlot := goodIn_r _ [8] (by decide +kernel) (by decide +kernel)
set_option maxRecDepth 20000 in
theorem gX1_bits_X1_isSlot : GoodIn wsX1_bits (va_wsS RX1 70 yX1_isSlot wsX1_isSlot) := goodIn_app (goodIn_of _ (by decide +kernel)) ggX1_bits_X1_isSlot
set_option maxRecDepth 20000 in
theorem ggX1_bits_X1_no : GoodIn wsX1_bits wsX1_no := goodIn_r _ [12, 13, 22, 23, 24, 25, 26, 27, 28, 29, 30, 31, 32, 33] (by decide +kernel) (by decide +kernel)
set_option maxRecDepth 20000 in
theorem gX1_bits_X1_no : GoodIn wsX1_bits (wsV RX1 74 RX1 yX1_no wsX1_no) := goodIn_app (goodIn_of _ (by decide +kernel)) ggX1_bits_X1_no
set_option maxRecDepth 20000 in
theorem ggX1_bits_X1_bitsOf : GoodIn wsX1_bits wsX1_bitsOf := goodIn_r _ [16, 17, 18, 19, 7, 20, 21] (by decide +kernel) (by decide +kernel)
set_option maxRecDepth 20000 in
theorem gX1_bits_X1_bitsOf : GoodIn wsX1_bits (va_wsS RX1 91 yX1_bitsOf wsX1_bitsOf) := goodIn_app (goodIn_of _ (by decide +kernel)) ggX1_bits_X1_bitsOf
theorem dX1_bits_0 : decode cX1_bits 0 = .ok (.aload_n 0, 1) := by decide +kernel
theorem dX1_bits_1 : decode cX1_bits 1 = .ok (.iload_n 1, 1) := by decide +kernel
theorem dX1_bits_2 : decode cX1_bits 2 = .ok (.invokestatic 70, 3) := by decide +kernel
theorem dX1_bits_5 : decode cX1_bits 5 = .ok (.iconst 1, 1) := by decide +kernel
theorem dX1_bits_6 : decode cX1_bits 6 = .ok (.invokevirtual 74, 3) := by decide +kernel
theorem dX1_bits_9 : decode cX1_bits 9 = .ok (.ifCond .eq 5, 3) := by decide +kernel
theorem dX1_bits_12 : decode cX1_bits 12 = .ok (.lconst 0, 1) := by decide +kernel
theorem dX1_bits_13 : decode cX1_bits 13 = .ok (.lreturn, 1) := by decide +kernel
theorem dX1_bits_14 : decode cX1_bits 14 = .ok (.aload_n 0, 1) := by decide +kernel
theorem dX1_bits_15 : decode cX1_bits 15 = .ok (.getfield 13, 3) := by decide +kernel
theorem dX1_bits_18 : decode cX1_bits 18 = .ok (.iload_n 1, 1) := by decide +kernel
theorem dX1_bits_19 : decode cX1_bits 19 = .ok (.laload, 1) := by decide +kernel
theorem dX1_bits_20 : decode cX1_bits 20 = .ok (.aload_n 0, 1) := by decide +kernel
theorem dX1_bits_21 : decode cX1_bits 21 = .ok (.getfield 17, 3) := by decide +kernel
theorem dX1_bits_24 : decode cX1_bits 24 = .ok (.iload_n 1, 1) := by decide +kernel
theorem dX1_bits_25 : decode cX1_bits 25 = .ok (.iaload, 1) := by decide +kernel
theorem dX1_bits_26 : decode cX1_bits 26 = .ok (.invokestatic 91, 3) := by decide +kernel
theorem dX1_bits_29 : decode cX1_bits 29 = .ok (.lstore_n 2, 1) := by decide +kernel
theorem dX1_bits_30 : decode cX1_bits 30 = .ok (.aload_n 0, 1) := by decide +kernel
theorem dX1_bits_31 : decode cX1_bits 31 = .ok (.getfield 9, 3) := by decide +kernel
theorem dX1_bits_34 : decode cX1_bits 34 = .ok (.iload_n 1, 1) := by decide +kernel
theorem dX1_bits_35 : decode cX1_bits 35 = .ok (.iaload, 1) := by decide +kernel
theorem dX1_bits_36 : decode cX1_bits 36 = .ok (.ifCond .ge 11, 3) := by decide +kernel
theorem dX1_bits_39 : decode cX1_bits 39 = .ok (.lload_n 2, 1) := by decide +kernel
theorem dX1_bits_40 : decode cX1_bits 40 = .ok (.ldc2_w 95, 3) := by decide +kernel
theorem dX1_bits_43 : decode cX1_bits 43 = .ok (.lor, 1) := by decide +kernel
theorem dX1_bits_44 : decode cX1_bits 44 = .ok (.goto 4, 3) := by decide +kernel
theorem dX1_bits_47 : decode cX1_bits 47 = .ok (.lload_n 2, 1) := by decide +kernel
theorem dX1_bits_48 : decode cX1_bits 48 = .ok (.lreturn, 1) := by decide +kernel
set_option maxRecDepth 20000 in
theorem ggX1_isWhole_X1_isSlot : GoodIn wsX1_isWhole wsX1_isSlot := goodIn_r _ [5] (by decide +kernel) (by decide +kernel)
set_option maxRecDepth 20000 in
theorem gX1_isWhole_X1_isSlot : GoodIn wsX1_isWhole (va_wsS RX1 70 yX1_isSlot wsX1_isSlot) := goodIn_app (goodIn_of _ (by decide +kernel)) ggX1_isWhole_X1_isSlot
set_option maxRecDepth 20000 in
theorem ggX1_isWhole_X1_no : GoodIn wsX1_isWhole wsX1_no := goodIn_r _ [9, 10, 11, 12, 13, 14, 15, 16, 17, 18, 19, 20, 21, 22] (by decide +kernel) (by decide +kernel)
set_option maxRecDepth 20000 in
theorem gX1_isWhole_X1_no : GoodIn wsX1_isWhole (wsV RX1 74 RX1 yX1_no wsX1_no) := goodIn_app (goodIn_of _ (by decide +kernel)) ggX1_isWhole_X1_no
theorem dX1_isWhole_0 : decode cX1_isWhole 0 = .ok (.aload_n 0, 1) := by decide +kernel
theorem dX1_isWhole_1 : decode cX1_isWhole 1 = .ok (.iload_n 1, 1) := by decide +kernel
theorem dX1_isWhole_2 : decode cX1_isWhole 2 = .ok (.invokestatic 70, 3) := by decide +kernel
theorem dX1_isWhole_5 : decode cX1_isWhole 5 = .ok (.iconst 1, 1) := by decide +kernel
theorem dX1_isWhole_6 : decode cX1_isWhole 6 = .ok (.invokevirtual 74, 3) := by decide +kernel
theorem dX1_isWhole_9 : decode cX1_isWhole 9 = .ok (.ifCond .ne 16, 3) := by decide +kernel
theorem dX1_isWhole_12 : decode cX1_isWhole 12 = .ok (.aload_n 0, 1) := by decide +kernel
theorem dX1_isWhole_13 : decode cX1_isWhole 13 = .ok (.getfield 17, 3) := by decide +kernel
theorem dX1_isWhole_16 : decode cX1_isWhole 16 = .ok (.iload_n 1, 1) := by decide +kernel
theorem dX1_isWhole_17 : decode cX1_isWhole 17 = .ok (.iaload, 1) := by decide +kernel
theorem dX1_isWhole_18 : decode cX1_isWhole 18 = .ok (.ifCond .lt 7, 3) := by decide +kernel
theorem dX1_isWhole_21 : decode cX1_isWhole 21 = .ok (.iconst 1, 1) := by decide +kernel
theorem dX1_isWhole_22 : decode cX1_isWhole 22 = .ok (.goto 4, 3) := by decide +kernel
theorem dX1_isWhole_25 : decode cX1_isWhole 25 = .ok (.iconst 0, 1) := by decide +kernel
theorem dX1_isWhole_26 : decode cX1_isWhole 26 = .ok (.ireturn, 1) := by decide +kernel
set_option maxRecDepth 20000 in
theorem ggX1_whole_X1_isSlot : GoodIn wsX1_whole wsX1_isSlot := goodIn_r _ [5] (by decide +kernel) (by decide +kernel)
set_option maxRecDepth 20000 in
theorem gX1_whole_X1_isSlot : GoodIn wsX1_whole (va_wsS RX1 70 yX1_isSlot wsX1_isSlot) := goodIn_app (goodIn_of _ (by decide +kernel)) ggX1_whole_X1_isSlot
set_option maxRecDepth 20000 in
theorem ggX1_whole_X1_no : GoodIn wsX1_whole wsX1_no := goodIn_r _ [9, 10, 25, 26, 27, 28, 29, 30, 31, 32, 33, 34, 35, 36] (by decide +kernel) (by decide +kernel)
set_option maxRecDepth 20000 in
theorem gX1_whole_X1_no : GoodIn wsX1_whole (wsV RX1 74 RX1 yX1_no wsX1_no) := goodIn_app (goodIn_of _ (by decide +kernel)) ggX1_whole_X1_no
set_option maxRecDepth 20000 in
theorem ggX1_whole_X1_isNear : GoodIn wsX1_whole wsX1_isNear := goodIn_ca (goodIn_r _ [14, 15, 16, 17, 18, 4, 19, 20, 25, 26, 27, 28, 29, 30, 31, 32, 33, 34, 35, 36] (by decide +kernel) (by decide +kernel)) (goodIn_sub (fun _ h => List.mem_cons_of_mem _ (List.mem_append_right _ h)) (by decide +kernel))
set_option maxRecDepth 20000 in
theorem gX1_whole_X1_isNear : GoodIn wsX1_whole (wsV RX1 97 RX1 yX1_isNear wsX1_isNear) := goodIn_app (goodIn_of _ (by decide +kernel)) ggX1_whole_X1_isNear
set_option maxRecDepth 20000 in
theorem ggX1_whole_X1_sizeOf : GoodIn wsX1_whole wsX1_sizeOf := goodIn_ca (goodIn_r _ [24, 16, 15, 25, 26, 27, 28, 29, 30, 31, 32, 33, 34, 35, 36] (by decide +kernel) (by decide +kernel)) (goodIn_sub (fun _ h => List.mem_cons_of_mem _ (List.mem_append_right _ h)) (by decide +kernel))
set_option maxRecDepth 20000 in
theorem gX1_whole_X1_sizeOf : GoodIn wsX1_whole (wsV RX1 100 RX1 yX1_sizeOf wsX1_sizeOf) := goodIn_app (goodIn_of _ (by decide +kernel)) ggX1_whole_X1_sizeOf
theorem dX1_whole_0 : decode cX1_whole 0 = .ok (.aload_n 0, 1) := by decide +kernel
theorem dX1_whole_1 : decode cX1_whole 1 = .ok (.iload_n 1, 1) := by decide +kernel
theorem dX1_whole_2 : decode cX1_whole 2 = .ok (.invokestatic 70, 3) := by decide +kernel
theorem dX1_whole_5 : decode cX1_whole 5 = .ok (.iconst 1, 1) := by decide +kernel
theorem dX1_whole_6 : decode cX1_whole 6 = .ok (.invokevirtual 74, 3) := by decide +kernel
theorem dX1_whole_9 : decode cX1_whole 9 = .ok (.ifCond .ne 16, 3) := by decide +kernel
theorem dX1_whole_12 : decode cX1_whole 12 = .ok (.aload_n 0, 1) := by decide +kernel
theorem dX1_whole_13 : decode cX1_whole 13 = .ok (.aload_n 0, 1) := by decide +kernel
theorem dX1_whole_14 : decode cX1_whole 14 = .ok (.iload_n 1, 1) := by decide +kernel
theorem dX1_whole_15 : decode cX1_whole 15 = .ok (.invokevirtual 97, 3) := by decide +kernel
theorem dX1_whole_18 : decode cX1_whole 18 = .ok (.iconst 2, 1) := by decide +kernel
theorem dX1_whole_19 : decode cX1_whole 19 = .ok (.invokevirtual 74, 3) := by decide +kernel
theorem dX1_whole_22 : decode cX1_whole 22 = .ok (.ifCond .eq 7, 3) := by decide +kernel
theorem dX1_whole_25 : decode cX1_whole 25 = .ok (.lconst 0, 1) := by decide +kernel
theorem dX1_whole_26 : decode cX1_whole 26 = .ok (.goto 16, 3) := by decide +kernel
theorem dX1_whole_29 : decode cX1_whole 29 = .ok (.aload_n 0, 1) := by decide +kernel
theorem dX1_whole_30 : decode cX1_whole 30 = .ok (.getfield 9, 3) := by decide +kernel
theorem dX1_whole_33 : decode cX1_whole 33 = .ok (.iload_n 1, 1) := by decide +kernel
theorem dX1_whole_34 : decode cX1_whole 34 = .ok (.iaload, 1) := by decide +kernel
theorem dX1_whole_35 : decode cX1_whole 35 = .ok (.i2l, 1) := by decide +kernel
theorem dX1_whole_36 : decode cX1_whole 36 = .ok (.aload_n 0, 1) := by decide +kernel
theorem dX1_whole_37 : decode cX1_whole 37 = .ok (.iload_n 1, 1) := by decide +kernel
theorem dX1_whole_38 : decode cX1_whole 38 = .ok (.invokevirtual 100, 3) := by decide +kernel
theorem dX1_whole_41 : decode cX1_whole 41 = .ok (.lmul, 1) := by decide +kernel
theorem dX1_whole_42 : decode cX1_whole 42 = .ok (.lreturn, 1) := by decide +kernel
set_option maxRecDepth 20000 in
theorem ggX1_sizes_X1_lengthOf : GoodIn wsX1_sizes wsX1_lengthOf := goodIn_r _ [6, 7] (by decide +kernel) (by decide +kernel)
set_option maxRecDepth 20000 in
theorem gX1_sizes_X1_lengthOf : GoodIn wsX1_sizes (va_wsS RX1 45 yX1_lengthOf wsX1_lengthOf) := goodIn_app (goodIn_of _ (by decide +kernel)) ggX1_sizes_X1_lengthOf
theorem dX1_sizes_0 : decode cX1_sizes 0 = .ok (.aload_n 0, 1) := by decide +kernel
theorem dX1_sizes_1 : decode cX1_sizes 1 = .ok (.getfield 13, 3) := by decide +kernel
theorem dX1_sizes_4 : decode cX1_sizes 4 = .ok (.iload_n 1, 1) := by decide +kernel
theorem dX1_sizes_5 : decode cX1_sizes 5 = .ok (.laload, 1) := by decide +kernel
theorem dX1_sizes_6 : decode cX1_sizes 6 = .ok (.invokestatic 45, 3) := by decide +kernel
theorem dX1_sizes_9 : decode cX1_sizes 9 = .ok (.istore_n 3, 1) := by decide +kernel
theorem dX1_sizes_10 : decode cX1_sizes 10 = .ok (.aload_n 0, 1) := by decide +kernel
theorem dX1_sizes_11 : decode cX1_sizes 11 = .ok (.getfield 13, 3) := by decide +kernel
theorem dX1_sizes_14 : decode cX1_sizes 14 = .ok (.iload_n 2, 1) := by decide +kernel
theorem dX1_sizes_15 : decode cX1_sizes 15 = .ok (.laload, 1) := by decide +kernel
theorem dX1_sizes_16 : decode cX1_sizes 16 = .ok (.invokestatic 45, 3) := by decide +kernel
theorem dX1_sizes_19 : decode cX1_sizes 19 = .ok (.istore 4, 2) := by decide +kernel
theorem dX1_sizes_21 : decode cX1_sizes 21 = .ok (.iload_n 3, 1) := by decide +kernel
theorem dX1_sizes_22 : decode cX1_sizes 22 = .ok (.aload_n 0, 1) := by decide +kernel
theorem dX1_sizes_23 : decode cX1_sizes 23 = .ok (.getfield 17, 3) := by decide +kernel
theorem dX1_sizes_26 : decode cX1_sizes 26 = .ok (.iload_n 1, 1) := by decide +kernel
theorem dX1_sizes_27 : decode cX1_sizes 27 = .ok (.iaload, 1) := by decide +kernel
theorem dX1_sizes_28 : decode cX1_sizes 28 = .ok (.iadd, 1) := by decide +kernel
theorem dX1_sizes_29 : decode cX1_sizes 29 = .ok (.iload 4, 2) := by decide +kernel
theorem dX1_sizes_31 : decode cX1_sizes 31 = .ok (.aload_n 0, 1) := by decide +kernel
theorem dX1_sizes_32 : decode cX1_sizes 32 = .ok (.getfield 17, 3) := by decide +kernel
theorem dX1_sizes_35 : decode cX1_sizes 35 = .ok (.iload_n 2, 1) := by decide +kernel
theorem dX1_sizes_36 : decode cX1_sizes 36 = .ok (.iaload, 1) := by decide +kernel
theorem dX1_sizes_37 : decode cX1_sizes 37 = .ok (.iadd, 1) := by decide +kernel
theorem dX1_sizes_38 : decode cX1_sizes 38 = .ok (.if_icmp .eq 29, 3) := by decide +kernel
theorem dX1_sizes_41 : decode cX1_sizes 41 = .ok (.iload_n 3, 1) := by decide +kernel
theorem dX1_sizes_42 : decode cX1_sizes 42 = .ok (.aload_n 0, 1) := by decide +kernel
theorem dX1_sizes_43 : decode cX1_sizes 43 = .ok (.getfield 17, 3) := by decide +kernel
theorem dX1_sizes_46 : decode cX1_sizes 46 = .ok (.iload_n 1, 1) := by decide +kernel
theorem dX1_sizes_47 : decode cX1_sizes 47 = .ok (.iaload, 1) := by decide +kernel
theorem dX1_sizes_48 : decode cX1_sizes 48 = .ok (.iadd, 1) := by decide +kernel
theorem dX1_sizes_49 : decode cX1_sizes 49 = .ok (.iload 4, 2) := by decide +kernel
theorem dX1_sizes_51 : decode cX1_sizes 51 = .ok (.aload_n 0, 1) := by decide +kernel
theorem dX1_sizes_52 : decode cX1_sizes 52 = .ok (.getfield 17, 3) := by decide +kernel
theorem dX1_sizes_55 : decode cX1_sizes 55 = .ok (.iload_n 2, 1) := by decide +kernel
theorem dX1_sizes_56 : decode cX1_sizes 56 = .ok (.iaload, 1) := by decide +kernel
theorem dX1_sizes_57 : decode cX1_sizes 57 = .ok (.iadd, 1) := by decide +kernel
theorem dX1_sizes_58 : decode cX1_sizes 58 = .ok (.if_icmp .le 7, 3) := by decide +kernel
theorem dX1_sizes_61 : decode cX1_sizes 61 = .ok (.iconst 1, 1) := by decide +kernel
theorem dX1_sizes_62 : decode cX1_sizes 62 = .ok (.goto 4, 3) := by decide +kernel
theorem dX1_sizes_65 : decode cX1_sizes 65 = .ok (.iconst (-1), 1) := by decide +kernel
theorem dX1_sizes_66 : decode cX1_sizes 66 = .ok (.ireturn, 1) := by decide +kernel
theorem dX1_sizes_67 : decode cX1_sizes 67 = .ok (.aload_n 0, 1) := by decide +kernel
theorem dX1_sizes_68 : decode cX1_sizes 68 = .ok (.getfield 13, 3) := by decide +kernel
theorem dX1_sizes_71 : decode cX1_sizes 71 = .ok (.iload_n 1, 1) := by decide +kernel
theorem dX1_sizes_72 : decode cX1_sizes 72 = .ok (.laload, 1) := by decide +kernel
theorem dX1_sizes_73 : decode cX1_sizes 73 = .ok (.bipush 53, 2) := by decide +kernel
theorem dX1_sizes_75 : decode cX1_sizes 75 = .ok (.iload_n 3, 1) := by decide +kernel
theorem dX1_sizes_76 : decode cX1_sizes 76 = .ok (.isub, 1) := by decide +kernel
theorem dX1_sizes_77 : decode cX1_sizes 77 = .ok (.lshl, 1) := by decide +kernel
theorem dX1_sizes_78 : decode cX1_sizes 78 = .ok (.lstore 5, 2) := by decide +kernel
theorem dX1_sizes_80 : decode cX1_sizes 80 = .ok (.aload_n 0, 1) := by decide +kernel
theorem dX1_sizes_81 : decode cX1_sizes 81 = .ok (.getfield 13, 3) := by decide +kernel
theorem dX1_sizes_84 : decode cX1_sizes 84 = .ok (.iload_n 2, 1) := by decide +kernel
theorem dX1_sizes_85 : decode cX1_sizes 85 = .ok (.laload, 1) := by decide +kernel
theorem dX1_sizes_86 : decode cX1_sizes 86 = .ok (.bipush 53, 2) := by decide +kernel
theorem dX1_sizes_88 : decode cX1_sizes 88 = .ok (.iload 4, 2) := by decide +kernel
theorem dX1_sizes_90 : decode cX1_sizes 90 = .ok (.isub, 1) := by decide +kernel
theorem dX1_sizes_91 : decode cX1_sizes 91 = .ok (.lshl, 1) := by decide +kernel
theorem dX1_sizes_92 : decode cX1_sizes 92 = .ok (.lstore 7, 2) := by decide +kernel
theorem dX1_sizes_94 : decode cX1_sizes 94 = .ok (.lload 5, 2) := by decide +kernel
theorem dX1_sizes_96 : decode cX1_sizes 96 = .ok (.lload 7, 2) := by decide +kernel
theorem dX1_sizes_98 : decode cX1_sizes 98 = .ok (.lcmp, 1) := by decide +kernel
theorem dX1_sizes_99 : decode cX1_sizes 99 = .ok (.ifCond .le 7, 3) := by decide +kernel
theorem dX1_sizes_102 : decode cX1_sizes 102 = .ok (.iconst 1, 1) := by decide +kernel
theorem dX1_sizes_103 : decode cX1_sizes 103 = .ok (.goto 16, 3) := by decide +kernel
theorem dX1_sizes_106 : decode cX1_sizes 106 = .ok (.lload 5, 2) := by decide +kernel
theorem dX1_sizes_108 : decode cX1_sizes 108 = .ok (.lload 7, 2) := by decide +kernel
theorem dX1_sizes_110 : decode cX1_sizes 110 = .ok (.lcmp, 1) := by decide +kernel
theorem dX1_sizes_111 : decode cX1_sizes 111 = .ok (.ifCond .ge 7, 3) := by decide +kernel
theorem dX1_sizes_114 : decode cX1_sizes 114 = .ok (.iconst (-1), 1) := by decide +kernel
theorem dX1_sizes_115 : decode cX1_sizes 115 = .ok (.goto 4, 3) := by decide +kernel
theorem dX1_sizes_118 : decode cX1_sizes 118 = .ok (.iconst 0, 1) := by decide +kernel
theorem dX1_sizes_119 : decode cX1_sizes 119 = .ok (.ireturn, 1) := by decide +kernel
set_option maxRecDepth 20000 in
theorem ggX1_order_X1_sizes : GoodIn wsX1_order wsX1_sizes := goodIn_ca (goodIn_r _ [6, 7, 8, 9, 10, 5, 11, 12, 13, 14, 15, 16, 17, 18, 19, 20, 21, 22, 23, 24] (by decide +kernel) (by decide +kernel)) (goodIn_sub (fun _ h => List.mem_cons_of_mem _ (List.mem_append_right _ h)) (by decide +kernel))
set_option maxRecDepth 20000 in
theorem gX1_order_X1_sizes : GoodIn wsX1_order (wsV RX1 104 RX1 yX1_sizes wsX1_sizes) := goodIn_app (goodIn_of _ (by decide +kernel)) ggX1_order_X1_sizes
theorem dX1_order_0 : decode cX1_order 0 = .ok (.aload_n 0, 1) := by decide +kernel
theorem dX1_order_1 : decode cX1_order 1 = .ok (.getfield 9, 3) := by decide +kernel
theorem dX1_order_4 : decode cX1_order 4 = .ok (.iload_n 1, 1) := by decide +kernel
theorem dX1_order_5 : decode cX1_order 5 = .ok (.iaload, 1) := by decide +kernel
theorem dX1_order_6 : decode cX1_order 6 = .ok (.aload_n 0, 1) := by decide +kernel
theorem dX1_order_7 : decode cX1_order 7 = .ok (.getfield 9, 3) := by decide +kernel
theorem dX1_order_10 : decode cX1_order 10 = .ok (.iload_n 2, 1) := by decide +kernel
theorem dX1_order_11 : decode cX1_order 11 = .ok (.iaload, 1) := by decide +kernel
theorem dX1_order_12 : decode cX1_order 12 = .ok (.if_icmp .eq 24, 3) := by decide +kernel
theorem dX1_order_15 : decode cX1_order 15 = .ok (.aload_n 0, 1) := by decide +kernel
theorem dX1_order_16 : decode cX1_order 16 = .ok (.getfield 9, 3) := by decide +kernel
theorem dX1_order_19 : decode cX1_order 19 = .ok (.iload_n 1, 1) := by decide +kernel
theorem dX1_order_20 : decode cX1_order 20 = .ok (.iaload, 1) := by decide +kernel
theorem dX1_order_21 : decode cX1_order 21 = .ok (.aload_n 0, 1) := by decide +kernel
theorem dX1_order_22 : decode cX1_order 22 = .ok (.getfield 9, 3) := by decide +kernel
theorem dX1_order_25 : decode cX1_order 25 = .ok (.iload_n 2, 1) := by decide +kernel
theorem dX1_order_26 : decode cX1_order 26 = .ok (.iaload, 1) := by decide +kernel
theorem dX1_order_27 : decode cX1_order 27 = .ok (.if_icmp .le 7, 3) := by decide +kernel
theorem dX1_order_30 : decode cX1_order 30 = .ok (.iconst 1, 1) := by decide +kernel
theorem dX1_order_31 : decode cX1_order 31 = .ok (.goto 4, 3) := by decide +kernel
theorem dX1_order_34 : decode cX1_order 34 = .ok (.iconst (-1), 1) := by decide +kernel
theorem dX1_order_35 : decode cX1_order 35 = .ok (.ireturn, 1) := by decide +kernel
theorem dX1_order_36 : decode cX1_order 36 = .ok (.aload_n 0, 1) := by decide +kernel
theorem dX1_order_37 : decode cX1_order 37 = .ok (.getfield 9, 3) := by decide +kernel
theorem dX1_order_40 : decode cX1_order 40 = .ok (.iload_n 1, 1) := by decide +kernel
theorem dX1_order_41 : decode cX1_order 41 = .ok (.iaload, 1) := by decide +kernel
theorem dX1_order_42 : decode cX1_order 42 = .ok (.ifCond .ne 7, 3) := by decide +kernel
theorem dX1_order_45 : decode cX1_order 45 = .ok (.iconst 0, 1) := by decide +kernel
theorem dX1_order_46 : decode cX1_order 46 = .ok (.goto 16, 3) := by decide +kernel
theorem dX1_order_49 : decode cX1_order 49 = .ok (.aload_n 0, 1) := by decide +kernel
theorem dX1_order_50 : decode cX1_order 50 = .ok (.getfield 9, 3) := by decide +kernel
theorem dX1_order_53 : decode cX1_order 53 = .ok (.iload_n 1, 1) := by decide +kernel
theorem dX1_order_54 : decode cX1_order 54 = .ok (.iaload, 1) := by decide +kernel
theorem dX1_order_55 : decode cX1_order 55 = .ok (.aload_n 0, 1) := by decide +kernel
theorem dX1_order_56 : decode cX1_order 56 = .ok (.iload_n 1, 1) := by decide +kernel
theorem dX1_order_57 : decode cX1_order 57 = .ok (.iload_n 2, 1) := by decide +kernel
theorem dX1_order_58 : decode cX1_order 58 = .ok (.invokevirtual 104, 3) := by decide +kernel
theorem dX1_order_61 : decode cX1_order 61 = .ok (.imul, 1) := by decide +kernel
theorem dX1_order_62 : decode cX1_order 62 = .ok (.ireturn, 1) := by decide +kernel
set_option maxRecDepth 20000 in
theorem ggX1_compare_X1_isSlot : GoodIn wsX1_compare wsX1_isSlot := goodIn_r _ [4] (by decide +kernel) (by decide +kernel)
set_option maxRecDepth 20000 in
theorem gX1_compare_X1_isSlot : GoodIn wsX1_compare (va_wsS RX1 70 yX1_isSlot wsX1_isSlot) := goodIn_app (goodIn_of _ (by decide +kernel)) ggX1_compare_X1_isSlot
set_option maxRecDepth 20000 in
theorem ggX1_compare_X1_no : GoodIn wsX1_compare wsX1_no := goodIn_r _ [8, 9, 25, 26, 27, 28, 29, 30, 31, 32, 33, 34, 35, 36] (by decide +kernel) (by decide +kernel)
set_option maxRecDepth 20000 in
theorem gX1_compare_X1_no : GoodIn wsX1_compare (wsV RX1 74 RX1 yX1_no wsX1_no) := goodIn_app (goodIn_of _ (by decide +kernel)) ggX1_compare_X1_no
set_option maxRecDepth 20000 in
theorem ggX1_compare_X1_order : GoodIn wsX1_compare wsX1_order := goodIn_ca (goodIn_r _ [13, 14, 15, 16, 17, 3, 18, 19, 20, 21, 22, 23, 24, 25, 26, 27, 28, 29, 30, 31, 32, 33, 34, 35, 36] (by decide +kernel) (by decide +kernel)) (goodIn_sub (fun _ h => List.mem_cons_of_mem _ (List.mem_append_right _ h)) (by decide +kernel))
set_option maxRecDepth 20000 in
theorem gX1_compare_X1_order : GoodIn wsX1_compare (wsV RX1 108 RX1 yX1_order wsX1_order) := goodIn_app (goodIn_of _ (by decide +kernel)) ggX1_compare_X1_order
theorem dX1_compare_0 : decode cX1_compare 0 = .ok (.aload_n 0, 1) := by decide +kernel
theorem dX1_compare_1 : decode cX1_compare 1 = .ok (.iload_n 1, 1) := by decide +kernel
theorem dX1_compare_2 : decode cX1_compare 2 = .ok (.invokestatic 70, 3) := by decide +kernel
theorem dX1_compare_5 : decode cX1_compare 5 = .ok (.ifCond .eq 14, 3) := by decide +kernel
theorem dX1_compare_8 : decode cX1_compare 8 = .ok (.iload_n 2, 1) := by decide +kernel
theorem dX1_compare_9 : decode cX1_compare 9 = .ok (.invokestatic 70, 3) := by decide +kernel
theorem dX1_compare_12 : decode cX1_compare 12 = .ok (.ifCond .eq 7, 3) := by decide +kernel
theorem dX1_compare_15 : decode cX1_compare 15 = .ok (.iconst 1, 1) := by decide +kernel
theorem dX1_compare_16 : decode cX1_compare 16 = .ok (.goto 4, 3) := by decide +kernel
theorem dX1_compare_19 : decode cX1_compare 19 = .ok (.iconst 0, 1) := by decide +kernel
theorem dX1_compare_20 : decode cX1_compare 20 = .ok (.iconst 1, 1) := by decide +kernel
theorem dX1_compare_21 : decode cX1_compare 21 = .ok (.invokevirtual 74, 3) := by decide +kernel
theorem dX1_compare_24 : decode cX1_compare 24 = .ok (.ifCond .eq 7, 3) := by decide +kernel
theorem dX1_compare_27 : decode cX1_compare 27 = .ok (.iconst 0, 1) := by decide +kernel
theorem dX1_compare_28 : decode cX1_compare 28 = .ok (.goto 9, 3) := by decide +kernel
theorem dX1_compare_31 : decode cX1_compare 31 = .ok (.aload_n 0, 1) := by decide +kernel
theorem dX1_compare_32 : decode cX1_compare 32 = .ok (.iload_n 1, 1) := by decide +kernel
theorem dX1_compare_33 : decode cX1_compare 33 = .ok (.iload_n 2, 1) := by decide +kernel
theorem dX1_compare_34 : decode cX1_compare 34 = .ok (.invokevirtual 108, 3) := by decide +kernel
theorem dX1_compare_37 : decode cX1_compare 37 = .ok (.ireturn, 1) := by decide +kernel
set_option maxRecDepth 20000 in
theorem ggX1_rank_X1_isSlot : GoodIn wsX1_rank wsX1_isSlot := goodIn_r _ [4] (by decide +kernel) (by decide +kernel)
set_option maxRecDepth 20000 in
theorem gX1_rank_X1_isSlot : GoodIn wsX1_rank (va_wsS RX1 70 yX1_isSlot wsX1_isSlot) := goodIn_app (goodIn_of _ (by decide +kernel)) ggX1_rank_X1_isSlot
set_option maxRecDepth 20000 in
theorem ggX1_rank_X1_no : GoodIn wsX1_rank wsX1_no := goodIn_r _ [8, 9, 25, 26, 27, 28, 29, 30, 31, 32, 33, 34, 35, 36] (by decide +kernel) (by decide +kernel)
set_option maxRecDepth 20000 in
theorem gX1_rank_X1_no : GoodIn wsX1_rank (wsV RX1 74 RX1 yX1_no wsX1_no) := goodIn_app (goodIn_of _ (by decide +kernel)) ggX1_rank_X1_no
set_option maxRecDepth 20000 in
theorem ggX1_rank_X1_order : GoodIn wsX1_rank wsX1_order := goodIn_ca (goodIn_r _ [13, 14, 15, 16, 17, 3, 18, 19, 20, 21, 22, 23, 24, 25, 26, 27, 28, 29, 30, 31, 32, 33, 34, 35, 36] (by decide +kernel) (by decide +kernel)) (goodIn_sub (fun _ h => List.mem_cons_of_mem _ (List.mem_append_right _ h)) (by decide +kernel))
set_option maxRecDepth 20000 in
theorem gX1_rank_X1_order : GoodIn wsX1_rank (wsV RX1 108 RX1 yX1_order wsX1_order) := goodIn_app (goodIn_of _ (by decide +kernel)) ggX1_rank_X1_order
theorem dX1_rank_0 : decode cX1_rank 0 = .ok (.aload_n 0, 1) := by decide +kernel
theorem dX1_rank_1 : decode cX1_rank 1 = .ok (.iload_n 1, 1) := by decide +kernel
theorem dX1_rank_2 : decode cX1_rank 2 = .ok (.invokestatic 70, 3) := by decide +kernel
theorem dX1_rank_5 : decode cX1_rank 5 = .ok (.iconst 1, 1) := by decide +kernel
theorem dX1_rank_6 : decode cX1_rank 6 = .ok (.invokevirtual 74, 3) := by decide +kernel
theorem dX1_rank_9 : decode cX1_rank 9 = .ok (.ifCond .eq 5, 3) := by decide +kernel
theorem dX1_rank_12 : decode cX1_rank 12 = .ok (.iconst 0, 1) := by decide +kernel
theorem dX1_rank_13 : decode cX1_rank 13 = .ok (.ireturn, 1) := by decide +kernel
theorem dX1_rank_14 : decode cX1_rank 14 = .ok (.iconst 0, 1) := by decide +kernel
theorem dX1_rank_15 : decode cX1_rank 15 = .ok (.istore_n 2, 1) := by decide +kernel
theorem dX1_rank_16 : decode cX1_rank 16 = .ok (.iconst 0, 1) := by decide +kernel
theorem dX1_rank_17 : decode cX1_rank 17 = .ok (.istore_n 3, 1) := by decide +kernel
theorem dX1_rank_18 : decode cX1_rank 18 = .ok (.iload_n 3, 1) := by decide +kernel
theorem dX1_rank_19 : decode cX1_rank 19 = .ok (.bipush 8, 2) := by decide +kernel
theorem dX1_rank_21 : decode cX1_rank 21 = .ok (.if_icmp .ge 21, 3) := by decide +kernel
theorem dX1_rank_24 : decode cX1_rank 24 = .ok (.aload_n 0, 1) := by decide +kernel
theorem dX1_rank_25 : decode cX1_rank 25 = .ok (.iload_n 3, 1) := by decide +kernel
theorem dX1_rank_26 : decode cX1_rank 26 = .ok (.iload_n 1, 1) := by decide +kernel
theorem dX1_rank_27 : decode cX1_rank 27 = .ok (.invokevirtual 108, 3) := by decide +kernel
theorem dX1_rank_30 : decode cX1_rank 30 = .ok (.ifCond .ge 6, 3) := by decide +kernel
theorem dX1_rank_33 : decode cX1_rank 33 = .ok (.iinc 2 1, 3) := by decide +kernel
theorem dX1_rank_36 : decode cX1_rank 36 = .ok (.iinc 3 1, 3) := by decide +kernel
theorem dX1_rank_39 : decode cX1_rank 39 = .ok (.goto (-21), 3) := by decide +kernel
theorem dX1_rank_42 : decode cX1_rank 42 = .ok (.iload_n 2, 1) := by decide +kernel
theorem dX1_rank_43 : decode cX1_rank 43 = .ok (.ireturn, 1) := by decide +kernel
set_option maxRecDepth 20000 in
theorem ggX1_at_X1_isSlot : GoodIn wsX1_at wsX1_isSlot := goodIn_r _ [4] (by decide +kernel) (by decide +kernel)
set_option maxRecDepth 20000 in
theorem gX1_at_X1_isSlot : GoodIn wsX1_at (va_wsS RX1 70 yX1_isSlot wsX1_isSlot) := goodIn_app (goodIn_of _ (by decide +kernel)) ggX1_at_X1_isSlot
set_option maxRecDepth 20000 in
theorem ggX1_at_X1_no : GoodIn wsX1_at wsX1_no := goodIn_r _ [8, 9, 25, 26, 27, 28, 29, 30, 31, 32, 33, 34, 35, 36] (by decide +kernel) (by decide +kernel)
set_option maxRecDepth 20000 in
theorem gX1_at_X1_no : GoodIn wsX1_at (wsV RX1 74 RX1 yX1_no wsX1_no) := goodIn_app (goodIn_of _ (by decide +kernel)) ggX1_at_X1_no
set_option maxRecDepth 20000 in
theorem ggX1_at_X1_order : GoodIn wsX1_at wsX1_order := goodIn_ca (goodIn_r _ [13, 14, 15, 16, 17, 3, 18, 19, 20, 21, 22, 23, 24, 25, 26, 27, 28, 29, 30, 31, 32, 33, 34, 35, 36] (by decide +kernel) (by decide +kernel)) (goodIn_sub (fun _ h => List.mem_cons_of_mem _ (List.mem_append_right _ h)) (by decide +kernel))
set_option maxRecDepth 20000 in
theorem gX1_at_X1_order : GoodIn wsX1_at (wsV RX1 108 RX1 yX1_order wsX1_order) := goodIn_app (goodIn_of _ (by decide +kernel)) ggX1_at_X1_order
theorem dX1_at_0 : decode cX1_at 0 = .ok (.aload_n 0, 1) := by decide +kernel
theorem dX1_at_1 : decode cX1_at 1 = .ok (.iload_n 1, 1) := by decide +kernel
theorem dX1_at_2 : decode cX1_at 2 = .ok (.invokestatic 70, 3) := by decide +kernel
theorem dX1_at_5 : decode cX1_at 5 = .ok (.iconst 1, 1) := by decide +kernel
theorem dX1_at_6 : decode cX1_at 6 = .ok (.invokevirtual 74, 3) := by decide +kernel
theorem dX1_at_9 : decode cX1_at 9 = .ok (.ifCond .eq 5, 3) := by decide +kernel
theorem dX1_at_12 : decode cX1_at 12 = .ok (.iconst 0, 1) := by decide +kernel
theorem dX1_at_13 : decode cX1_at 13 = .ok (.ireturn, 1) := by decide +kernel
theorem dX1_at_14 : decode cX1_at 14 = .ok (.iconst 0, 1) := by decide +kernel
theorem dX1_at_15 : decode cX1_at 15 = .ok (.istore_n 2, 1) := by decide +kernel
theorem dX1_at_16 : decode cX1_at 16 = .ok (.iload_n 2, 1) := by decide +kernel
theorem dX1_at_17 : decode cX1_at 17 = .ok (.bipush 8, 2) := by decide +kernel
theorem dX1_at_19 : decode cX1_at 19 = .ok (.if_icmp .ge 62, 3) := by decide +kernel
theorem dX1_at_22 : decode cX1_at 22 = .ok (.iconst 0, 1) := by decide +kernel
theorem dX1_at_23 : decode cX1_at 23 = .ok (.istore_n 3, 1) := by decide +kernel
theorem dX1_at_24 : decode cX1_at 24 = .ok (.iconst 0, 1) := by decide +kernel
theorem dX1_at_25 : decode cX1_at 25 = .ok (.istore 4, 2) := by decide +kernel
theorem dX1_at_27 : decode cX1_at 27 = .ok (.iload 4, 2) := by decide +kernel
theorem dX1_at_29 : decode cX1_at 29 = .ok (.bipush 8, 2) := by decide +kernel
theorem dX1_at_31 : decode cX1_at 31 = .ok (.if_icmp .ge 37, 3) := by decide +kernel
theorem dX1_at_34 : decode cX1_at 34 = .ok (.aload_n 0, 1) := by decide +kernel
theorem dX1_at_35 : decode cX1_at 35 = .ok (.iload 4, 2) := by decide +kernel
theorem dX1_at_37 : decode cX1_at 37 = .ok (.iload_n 2, 1) := by decide +kernel
theorem dX1_at_38 : decode cX1_at 38 = .ok (.invokevirtual 108, 3) := by decide +kernel
theorem dX1_at_41 : decode cX1_at 41 = .ok (.istore 5, 2) := by decide +kernel
theorem dX1_at_43 : decode cX1_at 43 = .ok (.iload 5, 2) := by decide +kernel
theorem dX1_at_45 : decode cX1_at 45 = .ok (.ifCond .lt 14, 3) := by decide +kernel
theorem dX1_at_48 : decode cX1_at 48 = .ok (.iload 5, 2) := by decide +kernel
theorem dX1_at_50 : decode cX1_at 50 = .ok (.ifCond .ne 12, 3) := by decide +kernel
theorem dX1_at_53 : decode cX1_at 53 = .ok (.iload 4, 2) := by decide +kernel
theorem dX1_at_55 : decode cX1_at 55 = .ok (.iload_n 2, 1) := by decide +kernel
theorem dX1_at_56 : decode cX1_at 56 = .ok (.if_icmp .ge 6, 3) := by decide +kernel
theorem dX1_at_59 : decode cX1_at 59 = .ok (.iinc 3 1, 3) := by decide +kernel
theorem dX1_at_62 : decode cX1_at 62 = .ok (.iinc 4 1, 3) := by decide +kernel
theorem dX1_at_65 : decode cX1_at 65 = .ok (.goto (-38), 3) := by decide +kernel
theorem dX1_at_68 : decode cX1_at 68 = .ok (.iload_n 3, 1) := by decide +kernel
theorem dX1_at_69 : decode cX1_at 69 = .ok (.iload_n 1, 1) := by decide +kernel
theorem dX1_at_70 : decode cX1_at 70 = .ok (.if_icmp .ne 5, 3) := by decide +kernel
theorem dX1_at_73 : decode cX1_at 73 = .ok (.iload_n 2, 1) := by decide +kernel
theorem dX1_at_74 : decode cX1_at 74 = .ok (.ireturn, 1) := by decide +kernel
theorem dX1_at_75 : decode cX1_at 75 = .ok (.iinc 2 1, 3) := by decide +kernel
theorem dX1_at_78 : decode cX1_at 78 = .ok (.goto (-62), 3) := by decide +kernel
theorem dX1_at_81 : decode cX1_at 81 = .ok (.iconst (-1), 1) := by decide +kernel
theorem dX1_at_82 : decode cX1_at 82 = .ok (.ireturn, 1) := by decide +kernel
set_option maxRecDepth 20000 in
theorem ggX1_lacks_X1_isSlot : GoodIn wsX1_lacks wsX1_isSlot := goodIn_r _ [4] (by decide +kernel) (by decide +kernel)
set_option maxRecDepth 20000 in
theorem gX1_lacks_X1_isSlot : GoodIn wsX1_lacks (va_wsS RX1 70 yX1_isSlot wsX1_isSlot) := goodIn_app (goodIn_of _ (by decide +kernel)) ggX1_lacks_X1_isSlot
set_option maxRecDepth 20000 in
theorem ggX1_lacks_X1_no : GoodIn wsX1_lacks wsX1_no := goodIn_r _ [8, 9, 23, 24, 25, 26, 27, 28, 29, 30, 31, 32, 33, 34] (by decide +kernel) (by decide +kernel)
set_option maxRecDepth 20000 in
theorem gX1_lacks_X1_no : GoodIn wsX1_lacks (wsV RX1 74 RX1 yX1_no wsX1_no) := goodIn_app (goodIn_of _ (by decide +kernel)) ggX1_lacks_X1_no
set_option maxRecDepth 20000 in
theorem ggX1_lacks_X1_isFrom : GoodIn wsX1_lacks wsX1_isFrom := goodIn_r _ [12] (by decide +kernel) (by decide +kernel)
set_option maxRecDepth 20000 in
theorem gX1_lacks_X1_isFrom : GoodIn wsX1_lacks (va_wsS RX1 39 yX1_isFrom wsX1_isFrom) := goodIn_app (goodIn_of _ (by decide +kernel)) ggX1_lacks_X1_isFrom
set_option maxRecDepth 20000 in
theorem ggX1_lacks_X1_isNear : GoodIn wsX1_lacks wsX1_isNear := goodIn_ca (goodIn_r _ [16, 17, 18, 19, 20, 3, 21, 22, 23, 24, 25, 26, 27, 28, 29, 30, 31, 32, 33, 34] (by decide +kernel) (by decide +kernel)) (goodIn_sub (fun _ h => List.mem_cons_of_mem _ (List.mem_append_right _ h)) (by decide +kernel))
set_option maxRecDepth 20000 in
theorem gX1_lacks_X1_isNear : GoodIn wsX1_lacks (wsV RX1 97 RX1 yX1_isNear wsX1_isNear) := goodIn_app (goodIn_of _ (by decide +kernel)) ggX1_lacks_X1_isNear
theorem dX1_lacks_0 : decode cX1_lacks 0 = .ok (.aload_n 0, 1) := by decide +kernel
theorem dX1_lacks_1 : decode cX1_lacks 1 = .ok (.iload_n 2, 1) := by decide +kernel
theorem dX1_lacks_2 : decode cX1_lacks 2 = .ok (.invokestatic 70, 3) := by decide +kernel
theorem dX1_lacks_5 : decode cX1_lacks 5 = .ok (.iconst 1, 1) := by decide +kernel
theorem dX1_lacks_6 : decode cX1_lacks 6 = .ok (.invokevirtual 74, 3) := by decide +kernel
theorem dX1_lacks_9 : decode cX1_lacks 9 = .ok (.ifCond .ne 43, 3) := by decide +kernel
theorem dX1_lacks_12 : decode cX1_lacks 12 = .ok (.aload_n 0, 1) := by decide +kernel
theorem dX1_lacks_13 : decode cX1_lacks 13 = .ok (.iload_n 1, 1) := by decide +kernel
theorem dX1_lacks_14 : decode cX1_lacks 14 = .ok (.iconst 2, 1) := by decide +kernel
theorem dX1_lacks_15 : decode cX1_lacks 15 = .ok (.bipush 64, 2) := by decide +kernel
theorem dX1_lacks_17 : decode cX1_lacks 17 = .ok (.invokestatic 39, 3) := by decide +kernel
theorem dX1_lacks_20 : decode cX1_lacks 20 = .ok (.ifCond .eq 11, 3) := by decide +kernel
theorem dX1_lacks_23 : decode cX1_lacks 23 = .ok (.iload_n 3, 1) := by decide +kernel
theorem dX1_lacks_24 : decode cX1_lacks 24 = .ok (.ifCond .lt 7, 3) := by decide +kernel
theorem dX1_lacks_27 : decode cX1_lacks 27 = .ok (.iconst 1, 1) := by decide +kernel
theorem dX1_lacks_28 : decode cX1_lacks 28 = .ok (.goto 4, 3) := by decide +kernel
theorem dX1_lacks_31 : decode cX1_lacks 31 = .ok (.iconst 0, 1) := by decide +kernel
theorem dX1_lacks_32 : decode cX1_lacks 32 = .ok (.iconst 2, 1) := by decide +kernel
theorem dX1_lacks_33 : decode cX1_lacks 33 = .ok (.invokevirtual 74, 3) := by decide +kernel
theorem dX1_lacks_36 : decode cX1_lacks 36 = .ok (.ifCond .ne 16, 3) := by decide +kernel
theorem dX1_lacks_39 : decode cX1_lacks 39 = .ok (.aload_n 0, 1) := by decide +kernel
theorem dX1_lacks_40 : decode cX1_lacks 40 = .ok (.aload_n 0, 1) := by decide +kernel
theorem dX1_lacks_41 : decode cX1_lacks 41 = .ok (.iload_n 2, 1) := by decide +kernel
theorem dX1_lacks_42 : decode cX1_lacks 42 = .ok (.invokevirtual 97, 3) := by decide +kernel
theorem dX1_lacks_45 : decode cX1_lacks 45 = .ok (.iconst 3, 1) := by decide +kernel
theorem dX1_lacks_46 : decode cX1_lacks 46 = .ok (.invokevirtual 74, 3) := by decide +kernel
theorem dX1_lacks_49 : decode cX1_lacks 49 = .ok (.ifCond .eq 7, 3) := by decide +kernel
theorem dX1_lacks_52 : decode cX1_lacks 52 = .ok (.iconst 1, 1) := by decide +kernel
theorem dX1_lacks_53 : decode cX1_lacks 53 = .ok (.goto 4, 3) := by decide +kernel
theorem dX1_lacks_56 : decode cX1_lacks 56 = .ok (.iconst 0, 1) := by decide +kernel
theorem dX1_lacks_57 : decode cX1_lacks 57 = .ok (.ireturn, 1) := by decide +kernel
set_option maxRecDepth 20000 in
theorem ggX1_log_X1_lacks : GoodIn wsX1_log wsX1_lacks := goodIn_ca (goodIn_r _ [6, 7, 8, 5, 9, 10, 11, 12, 13, 14, 15, 16, 17, 18, 19, 20, 21, 22, 23, 24, 25, 26, 27, 32, 33, 34, 35, 36, 37, 38, 39, 40, 41, 42, 43] (by decide +kernel) (by decide +kernel)) (goodIn_sub (fun _ h => List.mem_cons_of_mem _ (List.mem_append_left _ (List.mem_append_right _ h))) (by decide +kernel))
set_option maxRecDepth 20000 in
theorem gX1_log_X1_lacks : GoodIn wsX1_log (wsV RX1 111 RX1 yX1_lacks wsX1_lacks) := goodIn_app (goodIn_of _ (by decide +kernel)) ggX1_log_X1_lacks
set_option maxRecDepth 20000 in
theorem ggX1_log_X1_no : GoodIn wsX1_log wsX1_no := goodIn_r _ [13, 14, 32, 33, 34, 35, 36, 37, 38, 39, 40, 41, 42, 43] (by decide +kernel) (by decide +kernel)
set_option maxRecDepth 20000 in
theorem gX1_log_X1_no : GoodIn wsX1_log (wsV RX1 74 RX1 yX1_no wsX1_no) := goodIn_app (goodIn_of _ (by decide +kernel)) ggX1_log_X1_no
set_option maxRecDepth 20000 in
theorem ggX1_log_X1_sizeOf : GoodIn wsX1_log wsX1_sizeOf := goodIn_ca (goodIn_r _ [31, 23, 22, 32, 33, 34, 35, 36, 37, 38, 39, 40, 41, 42, 43] (by decide +kernel) (by decide +kernel)) (goodIn_sub (fun _ h => List.mem_cons_of_mem _ (List.mem_append_left _ (List.mem_append_right _ h))) (by decide +kernel))
set_option maxRecDepth 20000 in
theorem gX1_log_X1_sizeOf : GoodIn wsX1_log (wsV RX1 100 RX1 yX1_sizeOf wsX1_sizeOf) := goodIn_app (goodIn_of _ (by decide +kernel)) ggX1_log_X1_sizeOf
theorem dX1_log_0 : decode cX1_log 0 = .ok (.aload_n 0, 1) := by decide +kernel
theorem dX1_log_1 : decode cX1_log 1 = .ok (.iload_n 1, 1) := by decide +kernel
theorem dX1_log_2 : decode cX1_log 2 = .ok (.iload_n 2, 1) := by decide +kernel
theorem dX1_log_3 : decode cX1_log 3 = .ok (.iconst 0, 1) := by decide +kernel
theorem dX1_log_4 : decode cX1_log 4 = .ok (.invokevirtual 111, 3) := by decide +kernel
theorem dX1_log_7 : decode cX1_log 7 = .ok (.ifCond .ne 25, 3) := by decide +kernel
theorem dX1_log_10 : decode cX1_log 10 = .ok (.aload_n 0, 1) := by decide +kernel
theorem dX1_log_11 : decode cX1_log 11 = .ok (.aload_n 0, 1) := by decide +kernel
theorem dX1_log_12 : decode cX1_log 12 = .ok (.getfield 9, 3) := by decide +kernel
theorem dX1_log_15 : decode cX1_log 15 = .ok (.iload_n 2, 1) := by decide +kernel
theorem dX1_log_16 : decode cX1_log 16 = .ok (.iaload, 1) := by decide +kernel
theorem dX1_log_17 : decode cX1_log 17 = .ok (.ifCond .le 7, 3) := by decide +kernel
theorem dX1_log_20 : decode cX1_log 20 = .ok (.iconst 1, 1) := by decide +kernel
theorem dX1_log_21 : decode cX1_log 21 = .ok (.goto 4, 3) := by decide +kernel
theorem dX1_log_24 : decode cX1_log 24 = .ok (.iconst 0, 1) := by decide +kernel
theorem dX1_log_25 : decode cX1_log 25 = .ok (.iconst 4, 1) := by decide +kernel
theorem dX1_log_26 : decode cX1_log 26 = .ok (.invokevirtual 74, 3) := by decide +kernel
theorem dX1_log_29 : decode cX1_log 29 = .ok (.ifCond .eq 5, 3) := by decide +kernel
theorem dX1_log_32 : decode cX1_log 32 = .ok (.iconst 0, 1) := by decide +kernel
theorem dX1_log_33 : decode cX1_log 33 = .ok (.ireturn, 1) := by decide +kernel
theorem dX1_log_34 : decode cX1_log 34 = .ok (.iconst 0, 1) := by decide +kernel
theorem dX1_log_35 : decode cX1_log 35 = .ok (.istore_n 3, 1) := by decide +kernel
theorem dX1_log_36 : decode cX1_log 36 = .ok (.aload_n 0, 1) := by decide +kernel
theorem dX1_log_37 : decode cX1_log 37 = .ok (.iload_n 2, 1) := by decide +kernel
theorem dX1_log_38 : decode cX1_log 38 = .ok (.invokevirtual 100, 3) := by decide +kernel
theorem dX1_log_41 : decode cX1_log 41 = .ok (.lstore 4, 2) := by decide +kernel
theorem dX1_log_43 : decode cX1_log 43 = .ok (.lload 4, 2) := by decide +kernel
theorem dX1_log_45 : decode cX1_log 45 = .ok (.iload_n 1, 1) := by decide +kernel
theorem dX1_log_46 : decode cX1_log 46 = .ok (.i2l, 1) := by decide +kernel
theorem dX1_log_47 : decode cX1_log 47 = .ok (.lcmp, 1) := by decide +kernel
theorem dX1_log_48 : decode cX1_log 48 = .ok (.ifCond .lt 16, 3) := by decide +kernel
theorem dX1_log_51 : decode cX1_log 51 = .ok (.iinc 3 1, 3) := by decide +kernel
theorem dX1_log_54 : decode cX1_log 54 = .ok (.lload 4, 2) := by decide +kernel
theorem dX1_log_56 : decode cX1_log 56 = .ok (.iload_n 1, 1) := by decide +kernel
theorem dX1_log_57 : decode cX1_log 57 = .ok (.i2l, 1) := by decide +kernel
theorem dX1_log_58 : decode cX1_log 58 = .ok (.ldiv, 1) := by decide +kernel
theorem dX1_log_59 : decode cX1_log 59 = .ok (.lstore 4, 2) := by decide +kernel
theorem dX1_log_61 : decode cX1_log 61 = .ok (.goto (-18), 3) := by decide +kernel
theorem dX1_log_64 : decode cX1_log 64 = .ok (.iload_n 3, 1) := by decide +kernel
theorem dX1_log_65 : decode cX1_log 65 = .ok (.ireturn, 1) := by decide +kernel
set_option maxRecDepth 20000 in
theorem ggX1_digits_X1_lacks : GoodIn wsX1_digits wsX1_lacks := goodIn_ca (goodIn_r _ [5, 6, 7, 4, 8, 9, 10, 11, 12, 13, 14, 15, 16, 17, 18, 19, 20, 21, 22, 23, 24, 25, 26, 31, 32, 33, 34, 35, 36, 37, 38, 39, 40, 41, 42] (by decide +kernel) (by decide +kernel)) (goodIn_sub (fun _ h => List.mem_cons_of_mem _ (List.mem_append_right _ h)) (by decide +kernel))
set_option maxRecDepth 20000 in
theorem gX1_digits_X1_lacks : GoodIn wsX1_digits (wsV RX1 111 RX1 yX1_lacks wsX1_lacks) := goodIn_app (goodIn_of _ (by decide +kernel)) ggX1_digits_X1_lacks
set_option maxRecDepth 20000 in
theorem ggX1_digits_X1_sizeOf : GoodIn wsX1_digits wsX1_sizeOf := goodIn_ca (goodIn_r _ [30, 22, 21, 31, 32, 33, 34, 35, 36, 37, 38, 39, 40, 41, 42] (by decide +kernel) (by decide +kernel)) (goodIn_sub (fun _ h => List.mem_cons_of_mem _ (List.mem_append_right _ h)) (by decide +kernel))
set_option maxRecDepth 20000 in
theorem gX1_digits_X1_sizeOf : GoodIn wsX1_digits (wsV RX1 100 RX1 yX1_sizeOf wsX1_sizeOf) := goodIn_app (goodIn_of _ (by decide +kernel)) ggX1_digits_X1_sizeOf
theorem dX1_digits_0 : decode cX1_digits 0 = .ok (.aload_n 0, 1) := by decide +kernel
theorem dX1_digits_1 : decode cX1_digits 1 = .ok (.iload_n 1, 1) := by decide +kernel
theorem dX1_digits_2 : decode cX1_digits 2 = .ok (.iload_n 2, 1) := by decide +kernel
theorem dX1_digits_3 : decode cX1_digits 3 = .ok (.iconst 0, 1) := by decide +kernel
theorem dX1_digits_4 : decode cX1_digits 4 = .ok (.invokevirtual 111, 3) := by decide +kernel
theorem dX1_digits_7 : decode cX1_digits 7 = .ok (.ifCond .eq 5, 3) := by decide +kernel
theorem dX1_digits_10 : decode cX1_digits 10 = .ok (.iconst 0, 1) := by decide +kernel
theorem dX1_digits_11 : decode cX1_digits 11 = .ok (.ireturn, 1) := by decide +kernel
theorem dX1_digits_12 : decode cX1_digits 12 = .ok (.iconst 1, 1) := by decide +kernel
theorem dX1_digits_13 : decode cX1_digits 13 = .ok (.istore_n 3, 1) := by decide +kernel
theorem dX1_digits_14 : decode cX1_digits 14 = .ok (.aload_n 0, 1) := by decide +kernel
theorem dX1_digits_15 : decode cX1_digits 15 = .ok (.iload_n 2, 1) := by decide +kernel
theorem dX1_digits_16 : decode cX1_digits 16 = .ok (.invokevirtual 100, 3) := by decide +kernel
theorem dX1_digits_19 : decode cX1_digits 19 = .ok (.iload_n 1, 1) := by decide +kernel
theorem dX1_digits_20 : decode cX1_digits 20 = .ok (.i2l, 1) := by decide +kernel
theorem dX1_digits_21 : decode cX1_digits 21 = .ok (.ldiv, 1) := by decide +kernel
theorem dX1_digits_22 : decode cX1_digits 22 = .ok (.lstore 4, 2) := by decide +kernel
theorem dX1_digits_24 : decode cX1_digits 24 = .ok (.lload 4, 2) := by decide +kernel
theorem dX1_digits_26 : decode cX1_digits 26 = .ok (.lconst 0, 1) := by decide +kernel
theorem dX1_digits_27 : decode cX1_digits 27 = .ok (.lcmp, 1) := by decide +kernel
theorem dX1_digits_28 : decode cX1_digits 28 = .ok (.ifCond .le 16, 3) := by decide +kernel
theorem dX1_digits_31 : decode cX1_digits 31 = .ok (.iinc 3 1, 3) := by decide +kernel
theorem dX1_digits_34 : decode cX1_digits 34 = .ok (.lload 4, 2) := by decide +kernel
theorem dX1_digits_36 : decode cX1_digits 36 = .ok (.iload_n 1, 1) := by decide +kernel
theorem dX1_digits_37 : decode cX1_digits 37 = .ok (.i2l, 1) := by decide +kernel
theorem dX1_digits_38 : decode cX1_digits 38 = .ok (.ldiv, 1) := by decide +kernel
theorem dX1_digits_39 : decode cX1_digits 39 = .ok (.lstore 4, 2) := by decide +kernel
theorem dX1_digits_41 : decode cX1_digits 41 = .ok (.goto (-17), 3) := by decide +kernel
theorem dX1_digits_44 : decode cX1_digits 44 = .ok (.iload_n 3, 1) := by decide +kernel
theorem dX1_digits_45 : decode cX1_digits 45 = .ok (.ireturn, 1) := by decide +kernel
set_option maxRecDepth 20000 in
theorem ggX1_digit_X1_lacks : GoodIn wsX1_digit wsX1_lacks := goodIn_ca (goodIn_r _ [5, 6, 7, 4, 8, 9, 10, 11, 12, 13, 14, 15, 16, 17, 18, 19, 20, 21, 22, 23, 24, 25, 26, 31, 32, 33, 34, 35, 36, 37, 38, 39, 40, 41, 42] (by decide +kernel) (by decide +kernel)) (goodIn_sub (fun _ h => List.mem_cons_of_mem _ (List.mem_append_right _ h)) (by decide +kernel))
set_option maxRecDepth 20000 in
theorem gX1_digit_X1_lacks : GoodIn wsX1_digit (wsV RX1 111 RX1 yX1_lacks wsX1_lacks) := goodIn_app (goodIn_of _ (by decide +kernel)) ggX1_digit_X1_lacks
set_option maxRecDepth 20000 in
theorem ggX1_digit_X1_sizeOf : GoodIn wsX1_digit wsX1_sizeOf := goodIn_ca (goodIn_r _ [30, 22, 21, 31, 32, 33, 34, 35, 36, 37, 38, 39, 40, 41, 42] (by decide +kernel) (by decide +kernel)) (goodIn_sub (fun _ h => List.mem_cons_of_mem _ (List.mem_append_right _ h)) (by decide +kernel))
set_option maxRecDepth 20000 in
theorem gX1_digit_X1_sizeOf : GoodIn wsX1_digit (wsV RX1 100 RX1 yX1_sizeOf wsX1_sizeOf) := goodIn_app (goodIn_of _ (by decide +kernel)) ggX1_digit_X1_sizeOf
theorem dX1_digit_0 : decode cX1_digit 0 = .ok (.aload_n 0, 1) := by decide +kernel
theorem dX1_digit_1 : decode cX1_digit 1 = .ok (.iload_n 1, 1) := by decide +kernel
theorem dX1_digit_2 : decode cX1_digit 2 = .ok (.iload_n 2, 1) := by decide +kernel
theorem dX1_digit_3 : decode cX1_digit 3 = .ok (.iload_n 3, 1) := by decide +kernel
theorem dX1_digit_4 : decode cX1_digit 4 = .ok (.invokevirtual 111, 3) := by decide +kernel
theorem dX1_digit_7 : decode cX1_digit 7 = .ok (.ifCond .eq 5, 3) := by decide +kernel
theorem dX1_digit_10 : decode cX1_digit 10 = .ok (.iconst 0, 1) := by decide +kernel
theorem dX1_digit_11 : decode cX1_digit 11 = .ok (.ireturn, 1) := by decide +kernel
theorem dX1_digit_12 : decode cX1_digit 12 = .ok (.aload_n 0, 1) := by decide +kernel
theorem dX1_digit_13 : decode cX1_digit 13 = .ok (.iload_n 2, 1) := by decide +kernel
theorem dX1_digit_14 : decode cX1_digit 14 = .ok (.invokevirtual 100, 3) := by decide +kernel
theorem dX1_digit_17 : decode cX1_digit 17 = .ok (.lstore 4, 2) := by decide +kernel
theorem dX1_digit_19 : decode cX1_digit 19 = .ok (.iconst 0, 1) := by decide +kernel
theorem dX1_digit_20 : decode cX1_digit 20 = .ok (.istore 6, 2) := by decide +kernel
theorem dX1_digit_22 : decode cX1_digit 22 = .ok (.iload 6, 2) := by decide +kernel
theorem dX1_digit_24 : decode cX1_digit 24 = .ok (.iload_n 3, 1) := by decide +kernel
theorem dX1_digit_25 : decode cX1_digit 25 = .ok (.if_icmp .ge 23, 3) := by decide +kernel
theorem dX1_digit_28 : decode cX1_digit 28 = .ok (.lload 4, 2) := by decide +kernel
theorem dX1_digit_30 : decode cX1_digit 30 = .ok (.lconst 0, 1) := by decide +kernel
theorem dX1_digit_31 : decode cX1_digit 31 = .ok (.lcmp, 1) := by decide +kernel
theorem dX1_digit_32 : decode cX1_digit 32 = .ok (.ifCond .le 16, 3) := by decide +kernel
theorem dX1_digit_35 : decode cX1_digit 35 = .ok (.lload 4, 2) := by decide +kernel
theorem dX1_digit_37 : decode cX1_digit 37 = .ok (.iload_n 1, 1) := by decide +kernel
theorem dX1_digit_38 : decode cX1_digit 38 = .ok (.i2l, 1) := by decide +kernel
theorem dX1_digit_39 : decode cX1_digit 39 = .ok (.ldiv, 1) := by decide +kernel
theorem dX1_digit_40 : decode cX1_digit 40 = .ok (.lstore 4, 2) := by decide +kernel
theorem dX1_digit_42 : decode cX1_digit 42 = .ok (.iinc 6 1, 3) := by decide +kernel
theorem dX1_digit_45 : decode cX1_digit 45 = .ok (.goto (-23), 3) := by decide +kernel
theorem dX1_digit_48 : decode cX1_digit 48 = .ok (.lload 4, 2) := by decide +kernel
theorem dX1_digit_50 : decode cX1_digit 50 = .ok (.iload_n 1, 1) := by decide +kernel
theorem dX1_digit_51 : decode cX1_digit 51 = .ok (.i2l, 1) := by decide +kernel
theorem dX1_digit_52 : decode cX1_digit 52 = .ok (.lrem, 1) := by decide +kernel
theorem dX1_digit_53 : decode cX1_digit 53 = .ok (.l2i, 1) := by decide +kernel
theorem dX1_digit_54 : decode cX1_digit 54 = .ok (.ireturn, 1) := by decide +kernel
set_option maxRecDepth 20000 in
theorem ggX1_root_X1_isSlot : GoodIn wsX1_root wsX1_isSlot := goodIn_r _ [5] (by decide +kernel) (by decide +kernel)
set_option maxRecDepth 20000 in
theorem gX1_root_X1_isSlot : GoodIn wsX1_root (va_wsS RX1 70 yX1_isSlot wsX1_isSlot) := goodIn_app (goodIn_of _ (by decide +kernel)) ggX1_root_X1_isSlot
set_option maxRecDepth 20000 in
theorem ggX1_root_X1_no : GoodIn wsX1_root wsX1_no := goodIn_r _ [9, 10, 28, 29, 30, 31, 32, 33, 34, 35, 36, 37, 38, 39] (by decide +kernel) (by decide +kernel)
set_option maxRecDepth 20000 in
theorem gX1_root_X1_no : GoodIn wsX1_root (wsV RX1 74 RX1 yX1_no wsX1_no) := goodIn_app (goodIn_of _ (by decide +kernel)) ggX1_root_X1_no
set_option maxRecDepth 20000 in
theorem ggX1_root_X1_isFrom : GoodIn wsX1_root wsX1_isFrom := goodIn_r _ [13] (by decide +kernel) (by decide +kernel)
set_option maxRecDepth 20000 in
theorem gX1_root_X1_isFrom : GoodIn wsX1_root (va_wsS RX1 39 yX1_isFrom wsX1_isFrom) := goodIn_app (goodIn_of _ (by decide +kernel)) ggX1_root_X1_isFrom
set_option maxRecDepth 20000 in
theorem ggX1_root_X1_isNear : GoodIn wsX1_root wsX1_isNear := goodIn_ca (goodIn_r _ [17, 18, 19, 20, 21, 4, 22, 23, 28, 29, 30, 31, 32, 33, 34, 35, 36, 37, 38, 39] (by decide +kernel) (by decide +kernel)) (goodIn_sub (fun _ h => List.mem_cons_of_mem _ (List.mem_append_right _ h)) (by decide +kernel))
set_option maxRecDepth 20000 in
theorem gX1_root_X1_isNear : GoodIn wsX1_root (wsV RX1 97 RX1 yX1_isNear wsX1_isNear) := goodIn_app (goodIn_of _ (by decide +kernel)) ggX1_root_X1_isNear
set_option maxRecDepth 20000 in
theorem ggX1_root_X1_sizeOf : GoodIn wsX1_root wsX1_sizeOf := goodIn_ca (goodIn_r _ [27, 19, 18, 28, 29, 30, 31, 32, 33, 34, 35, 36, 37, 38, 39] (by decide +kernel) (by decide +kernel)) (goodIn_sub (fun _ h => List.mem_cons_of_mem _ (List.mem_append_right _ h)) (by decide +kernel))
set_option maxRecDepth 20000 in
theorem gX1_root_X1_sizeOf : GoodIn wsX1_root (wsV RX1 100 RX1 yX1_sizeOf wsX1_sizeOf) := goodIn_app (goodIn_of _ (by decide +kernel)) ggX1_root_X1_sizeOf
theorem dX1_root_0 : decode cX1_root 0 = .ok (.aload_n 0, 1) := by decide +kernel
theorem dX1_root_1 : decode cX1_root 1 = .ok (.iload_n 2, 1) := by decide +kernel
theorem dX1_root_2 : decode cX1_root 2 = .ok (.invokestatic 70, 3) := by decide +kernel
theorem dX1_root_5 : decode cX1_root 5 = .ok (.iconst 1, 1) := by decide +kernel
theorem dX1_root_6 : decode cX1_root 6 = .ok (.invokevirtual 74, 3) := by decide +kernel
theorem dX1_root_9 : decode cX1_root 9 = .ok (.ifCond .ne 53, 3) := by decide +kernel
theorem dX1_root_12 : decode cX1_root 12 = .ok (.aload_n 0, 1) := by decide +kernel
theorem dX1_root_13 : decode cX1_root 13 = .ok (.iload_n 1, 1) := by decide +kernel
theorem dX1_root_14 : decode cX1_root 14 = .ok (.iconst 1, 1) := by decide +kernel
theorem dX1_root_15 : decode cX1_root 15 = .ok (.bipush 53, 2) := by decide +kernel
theorem dX1_root_17 : decode cX1_root 17 = .ok (.invokestatic 39, 3) := by decide +kernel
theorem dX1_root_20 : decode cX1_root 20 = .ok (.iconst 2, 1) := by decide +kernel
theorem dX1_root_21 : decode cX1_root 21 = .ok (.invokevirtual 74, 3) := by decide +kernel
theorem dX1_root_24 : decode cX1_root 24 = .ok (.ifCond .ne 38, 3) := by decide +kernel
theorem dX1_root_27 : decode cX1_root 27 = .ok (.aload_n 0, 1) := by decide +kernel
theorem dX1_root_28 : decode cX1_root 28 = .ok (.aload_n 0, 1) := by decide +kernel
theorem dX1_root_29 : decode cX1_root 29 = .ok (.iload_n 2, 1) := by decide +kernel
theorem dX1_root_30 : decode cX1_root 30 = .ok (.invokevirtual 97, 3) := by decide +kernel
theorem dX1_root_33 : decode cX1_root 33 = .ok (.iconst 3, 1) := by decide +kernel
theorem dX1_root_34 : decode cX1_root 34 = .ok (.invokevirtual 74, 3) := by decide +kernel
theorem dX1_root_37 : decode cX1_root 37 = .ok (.ifCond .ne 25, 3) := by decide +kernel
theorem dX1_root_40 : decode cX1_root 40 = .ok (.aload_n 0, 1) := by decide +kernel
theorem dX1_root_41 : decode cX1_root 41 = .ok (.aload_n 0, 1) := by decide +kernel
theorem dX1_root_42 : decode cX1_root 42 = .ok (.getfield 9, 3) := by decide +kernel
theorem dX1_root_45 : decode cX1_root 45 = .ok (.iload_n 2, 1) := by decide +kernel
theorem dX1_root_46 : decode cX1_root 46 = .ok (.iaload, 1) := by decide +kernel
theorem dX1_root_47 : decode cX1_root 47 = .ok (.ifCond .lt 7, 3) := by decide +kernel
theorem dX1_root_50 : decode cX1_root 50 = .ok (.iconst 1, 1) := by decide +kernel
theorem dX1_root_51 : decode cX1_root 51 = .ok (.goto 4, 3) := by decide +kernel
theorem dX1_root_54 : decode cX1_root 54 = .ok (.iconst 0, 1) := by decide +kernel
theorem dX1_root_55 : decode cX1_root 55 = .ok (.iconst 4, 1) := by decide +kernel
theorem dX1_root_56 : decode cX1_root 56 = .ok (.invokevirtual 74, 3) := by decide +kernel
theorem dX1_root_59 : decode cX1_root 59 = .ok (.ifCond .eq 5, 3) := by decide +kernel
theorem dX1_root_62 : decode cX1_root 62 = .ok (.iconst 0, 1) := by decide +kernel
theorem dX1_root_63 : decode cX1_root 63 = .ok (.ireturn, 1) := by decide +kernel
theorem dX1_root_64 : decode cX1_root 64 = .ok (.aload_n 0, 1) := by decide +kernel
theorem dX1_root_65 : decode cX1_root 65 = .ok (.iload_n 2, 1) := by decide +kernel
theorem dX1_root_66 : decode cX1_root 66 = .ok (.invokevirtual 100, 3) := by decide +kernel
theorem dX1_root_69 : decode cX1_root 69 = .ok (.lstore_n 3, 1) := by decide +kernel
theorem dX1_root_70 : decode cX1_root 70 = .ok (.iconst 0, 1) := by decide +kernel
theorem dX1_root_71 : decode cX1_root 71 = .ok (.istore 5, 2) := by decide +kernel
theorem dX1_root_73 : decode cX1_root 73 = .ok (.iconst 1, 1) := by decide +kernel
theorem dX1_root_74 : decode cX1_root 74 = .ok (.istore 6, 2) := by decide +kernel
theorem dX1_root_76 : decode cX1_root 76 = .ok (.iload 6, 2) := by decide +kernel
theorem dX1_root_78 : decode cX1_root 78 = .ok (.bipush 64, 2) := by decide +kernel
theorem dX1_root_80 : decode cX1_root 80 = .ok (.if_icmp .gt 53, 3) := by decide +kernel
theorem dX1_root_83 : decode cX1_root 83 = .ok (.lconst 1, 1) := by decide +kernel
theorem dX1_root_84 : decode cX1_root 84 = .ok (.lstore 7, 2) := by decide +kernel
theorem dX1_root_86 : decode cX1_root 86 = .ok (.iconst 0, 1) := by decide +kernel
theorem dX1_root_87 : decode cX1_root 87 = .ok (.istore 9, 2) := by decide +kernel
theorem dX1_root_89 : decode cX1_root 89 = .ok (.iload 9, 2) := by decide +kernel
theorem dX1_root_91 : decode cX1_root 91 = .ok (.iload_n 1, 1) := by decide +kernel
theorem dX1_root_92 : decode cX1_root 92 = .ok (.if_icmp .ge 24, 3) := by decide +kernel
theorem dX1_root_95 : decode cX1_root 95 = .ok (.lload 7, 2) := by decide +kernel
theorem dX1_root_97 : decode cX1_root 97 = .ok (.lload_n 3, 1) := by decide +kernel
theorem dX1_root_98 : decode cX1_root 98 = .ok (.lcmp, 1) := by decide +kernel
theorem dX1_root_99 : decode cX1_root 99 = .ok (.ifCond .gt 17, 3) := by decide +kernel
theorem dX1_root_102 : decode cX1_root 102 = .ok (.lload 7, 2) := by decide +kernel
theorem dX1_root_104 : decode cX1_root 104 = .ok (.iload 6, 2) := by decide +kernel
theorem dX1_root_106 : decode cX1_root 106 = .ok (.i2l, 1) := by decide +kernel
theorem dX1_root_107 : decode cX1_root 107 = .ok (.lmul, 1) := by decide +kernel
theorem dX1_root_108 : decode cX1_root 108 = .ok (.lstore 7, 2) := by decide +kernel
theorem dX1_root_110 : decode cX1_root 110 = .ok (.iinc 9 1, 3) := by decide +kernel
theorem dX1_root_113 : decode cX1_root 113 = .ok (.goto (-24), 3) := by decide +kernel
theorem dX1_root_116 : decode cX1_root 116 = .ok (.lload 7, 2) := by decide +kernel
theorem dX1_root_118 : decode cX1_root 118 = .ok (.lload_n 3, 1) := by decide +kernel
theorem dX1_root_119 : decode cX1_root 119 = .ok (.lcmp, 1) := by decide +kernel
theorem dX1_root_120 : decode cX1_root 120 = .ok (.ifCond .gt 7, 3) := by decide +kernel
theorem dX1_root_123 : decode cX1_root 123 = .ok (.iload 6, 2) := by decide +kernel
theorem dX1_root_125 : decode cX1_root 125 = .ok (.istore 5, 2) := by decide +kernel
theorem dX1_root_127 : decode cX1_root 127 = .ok (.iinc 6 1, 3) := by decide +kernel
theorem dX1_root_130 : decode cX1_root 130 = .ok (.goto (-54), 3) := by decide +kernel
theorem dX1_root_133 : decode cX1_root 133 = .ok (.iload 5, 2) := by decide +kernel
theorem dX1_root_135 : decode cX1_root 135 = .ok (.ireturn, 1) := by decide +kernel
set_option maxRecDepth 20000 in
theorem ggX1_isToldNear_X1_isTold_ : GoodIn wsX1_isToldNear wsX1_isTold_ := goodIn_ca (goodIn_r _ [5, 6, 7, 4, 8, 9, 10, 11, 12, 13, 14, 15, 16, 17, 25, 26, 27, 28, 29, 30, 31, 32, 33, 34, 35, 36] (by decide +kernel) (by decide +kernel)) (goodIn_sub (fun _ h => List.mem_cons_of_mem _ (List.mem_append_right _ h)) (by decide +kernel))
set_option maxRecDepth 20000 in
theorem gX1_isToldNear_X1_isTold_ : GoodIn wsX1_isToldNear (wsV RX1 81 RX1 yX1_isTold_ wsX1_isTold_) := goodIn_app (goodIn_of _ (by decide +kernel)) ggX1_isToldNear_X1_isTold_
set_option maxRecDepth 20000 in
theorem ggX1_isToldNear_X1_isPowerNear : GoodIn wsX1_isToldNear wsX1_isPowerNear := goodIn_r _ [21, 16, 15, 22, 23, 4, 24, 9, 25, 26, 27, 28, 29, 30, 31, 32, 33, 34, 35, 36] (by decide +kernel) (by decide +kernel)
set_option maxRecDepth 20000 in
theorem gX1_isToldNear_X1_isPowerNear : GoodIn wsX1_isToldNear (wsV RX1 114 RX1 yX1_isPowerNear wsX1_isPowerNear) := goodIn_app (goodIn_of _ (by decide +kernel)) ggX1_isToldNear_X1_isPowerNear
theorem dX1_isToldNear_0 : decode cX1_isToldNear 0 = .ok (.aload_n 0, 1) := by decide +kernel
theorem dX1_isToldNear_1 : decode cX1_isToldNear 1 = .ok (.iload_n 1, 1) := by decide +kernel
theorem dX1_isToldNear_2 : decode cX1_isToldNear 2 = .ok (.iload_n 2, 1) := by decide +kernel
theorem dX1_isToldNear_3 : decode cX1_isToldNear 3 = .ok (.invokevirtual 81, 3) := by decide +kernel
theorem dX1_isToldNear_6 : decode cX1_isToldNear 6 = .ok (.ifCond .eq 14, 3) := by decide +kernel
theorem dX1_isToldNear_9 : decode cX1_isToldNear 9 = .ok (.aload_n 0, 1) := by decide +kernel
theorem dX1_isToldNear_10 : decode cX1_isToldNear 10 = .ok (.invokevirtual 114, 3) := by decide +kernel
theorem dX1_isToldNear_13 : decode cX1_isToldNear 13 = .ok (.ifCond .eq 7, 3) := by decide +kernel
theorem dX1_isToldNear_16 : decode cX1_isToldNear 16 = .ok (.iconst 1, 1) := by decide +kernel
theorem dX1_isToldNear_17 : decode cX1_isToldNear 17 = .ok (.goto 4, 3) := by decide +kernel
theorem dX1_isToldNear_20 : decode cX1_isToldNear 20 = .ok (.iconst 0, 1) := by decide +kernel
theorem dX1_isToldNear_21 : decode cX1_isToldNear 21 = .ok (.ireturn, 1) := by decide +kernel
set_option maxRecDepth 20000 in
theorem ggX1_sum_X1_isBase : GoodIn wsX1_sum wsX1_isBase := goodIn_r _ [4, 5, 6, 3, 7] (by decide +kernel) (by decide +kernel)
set_option maxRecDepth 20000 in
theorem gX1_sum_X1_isBase : GoodIn wsX1_sum (va_wsS RX1 78 yX1_isBase wsX1_isBase) := goodIn_app (goodIn_of _ (by decide +kernel)) ggX1_sum_X1_isBase
set_option maxRecDepth 20000 in
theorem ggX1_sum_X1_isExponent : GoodIn wsX1_sum wsX1_isExponent := goodIn_r _ [10, 5, 6, 3, 7] (by decide +kernel) (by decide +kernel)
set_option maxRecDepth 20000 in
theorem gX1_sum_X1_isExponent : GoodIn wsX1_sum (va_wsS RX1 88 yX1_isExponent wsX1_isExponent) := goodIn_app (goodIn_of _ (by decide +kernel)) ggX1_sum_X1_isExponent
set_option maxRecDepth 20000 in
theorem ggX1_sum_X1_no : GoodIn wsX1_sum wsX1_no := goodIn_r _ [14, 15, 43, 44, 45, 46, 47, 48, 49, 50, 51, 52, 53, 54] (by decide +kernel) (by decide +kernel)
set_option maxRecDepth 20000 in
theorem gX1_sum_X1_no : GoodIn wsX1_sum (wsV RX1 74 RX1 yX1_no wsX1_no) := goodIn_app (goodIn_of _ (by decide +kernel)) ggX1_sum_X1_no
set_option maxRecDepth 20000 in
theorem ggX1_sum_X1_isToldNear : GoodIn wsX1_sum wsX1_isToldNear := goodIn_ca (goodIn_r _ [19, 20, 21, 22, 3, 23, 24, 25, 26, 27, 28, 29, 30, 31, 32, 33, 34, 35, 36, 37, 38, 39, 40, 41, 42, 43, 44, 45, 46, 47, 48, 49, 50, 51, 52, 53, 54] (by decide +kernel) (by decide +kernel)) (goodIn_sub (fun _ h => List.mem_cons_of_mem _ (List.mem_append_right _ h)) (by decide +kernel))
set_option maxRecDepth 20000 in
theorem gX1_sum_X1_isToldNear : GoodIn wsX1_sum (wsV RX1 118 RX1 yX1_isToldNear wsX1_isToldNear) := goodIn_app (goodIn_of _ (by decide +kernel)) ggX1_sum_X1_isToldNear
theorem dX1_sum_0 : decode cX1_sum 0 = .ok (.aload_n 0, 1) := by decide +kernel
theorem dX1_sum_1 : decode cX1_sum 1 = .ok (.iload_n 1, 1) := by decide +kernel
theorem dX1_sum_2 : decode cX1_sum 2 = .ok (.invokestatic 78, 3) := by decide +kernel
theorem dX1_sum_5 : decode cX1_sum 5 = .ok (.ifCond .eq 14, 3) := by decide +kernel
theorem dX1_sum_8 : decode cX1_sum 8 = .ok (.iload_n 2, 1) := by decide +kernel
theorem dX1_sum_9 : decode cX1_sum 9 = .ok (.invokestatic 88, 3) := by decide +kernel
theorem dX1_sum_12 : decode cX1_sum 12 = .ok (.ifCond .eq 7, 3) := by decide +kernel
theorem dX1_sum_15 : decode cX1_sum 15 = .ok (.iconst 1, 1) := by decide +kernel
theorem dX1_sum_16 : decode cX1_sum 16 = .ok (.goto 4, 3) := by decide +kernel
theorem dX1_sum_19 : decode cX1_sum 19 = .ok (.iconst 0, 1) := by decide +kernel
theorem dX1_sum_20 : decode cX1_sum 20 = .ok (.iconst 1, 1) := by decide +kernel
theorem dX1_sum_21 : decode cX1_sum 21 = .ok (.invokevirtual 74, 3) := by decide +kernel
theorem dX1_sum_24 : decode cX1_sum 24 = .ok (.ifCond .ne 17, 3) := by decide +kernel
theorem dX1_sum_27 : decode cX1_sum 27 = .ok (.aload_n 0, 1) := by decide +kernel
theorem dX1_sum_28 : decode cX1_sum 28 = .ok (.aload_n 0, 1) := by decide +kernel
theorem dX1_sum_29 : decode cX1_sum 29 = .ok (.iload_n 1, 1) := by decide +kernel
theorem dX1_sum_30 : decode cX1_sum 30 = .ok (.iload_n 2, 1) := by decide +kernel
theorem dX1_sum_31 : decode cX1_sum 31 = .ok (.invokevirtual 118, 3) := by decide +kernel
theorem dX1_sum_34 : decode cX1_sum 34 = .ok (.iconst 2, 1) := by decide +kernel
theorem dX1_sum_35 : decode cX1_sum 35 = .ok (.invokevirtual 74, 3) := by decide +kernel
theorem dX1_sum_38 : decode cX1_sum 38 = .ok (.ifCond .eq 5, 3) := by decide +kernel
theorem dX1_sum_41 : decode cX1_sum 41 = .ok (.lconst 0, 1) := by decide +kernel
theorem dX1_sum_42 : decode cX1_sum 42 = .ok (.lreturn, 1) := by decide +kernel
theorem dX1_sum_43 : decode cX1_sum 43 = .ok (.lconst 0, 1) := by decide +kernel
theorem dX1_sum_44 : decode cX1_sum 44 = .ok (.lstore_n 3, 1) := by decide +kernel
theorem dX1_sum_45 : decode cX1_sum 45 = .ok (.lconst 1, 1) := by decide +kernel
theorem dX1_sum_46 : decode cX1_sum 46 = .ok (.lstore 5, 2) := by decide +kernel
theorem dX1_sum_48 : decode cX1_sum 48 = .ok (.iconst 0, 1) := by decide +kernel
theorem dX1_sum_49 : decode cX1_sum 49 = .ok (.istore 7, 2) := by decide +kernel
theorem dX1_sum_51 : decode cX1_sum 51 = .ok (.iload 7, 2) := by decide +kernel
theorem dX1_sum_53 : decode cX1_sum 53 = .ok (.iload_n 2, 1) := by decide +kernel
theorem dX1_sum_54 : decode cX1_sum 54 = .ok (.if_icmp .ge 21, 3) := by decide +kernel
theorem dX1_sum_57 : decode cX1_sum 57 = .ok (.lload_n 3, 1) := by decide +kernel
theorem dX1_sum_58 : decode cX1_sum 58 = .ok (.lload 5, 2) := by decide +kernel
theorem dX1_sum_60 : decode cX1_sum 60 = .ok (.ladd, 1) := by decide +kernel
theorem dX1_sum_61 : decode cX1_sum 61 = .ok (.lstore_n 3, 1) := by decide +kernel
theorem dX1_sum_62 : decode cX1_sum 62 = .ok (.lload 5, 2) := by decide +kernel
theorem dX1_sum_64 : decode cX1_sum 64 = .ok (.iload_n 1, 1) := by decide +kernel
theorem dX1_sum_65 : decode cX1_sum 65 = .ok (.i2l, 1) := by decide +kernel
theorem dX1_sum_66 : decode cX1_sum 66 = .ok (.lmul, 1) := by decide +kernel
theorem dX1_sum_67 : decode cX1_sum 67 = .ok (.lstore 5, 2) := by decide +kernel
theorem dX1_sum_69 : decode cX1_sum 69 = .ok (.iinc 7 1, 3) := by decide +kernel
theorem dX1_sum_72 : decode cX1_sum 72 = .ok (.goto (-21), 3) := by decide +kernel
theorem dX1_sum_75 : decode cX1_sum 75 = .ok (.lload_n 3, 1) := by decide +kernel
theorem dX1_sum_76 : decode cX1_sum 76 = .ok (.lreturn, 1) := by decide +kernel
set_option maxRecDepth 20000 in
theorem ggX1_rest_X1_isBase : GoodIn wsX1_rest wsX1_isBase := goodIn_r _ [4, 5, 6, 3, 7] (by decide +kernel) (by decide +kernel)
set_option maxRecDepth 20000 in
theorem gX1_rest_X1_isBase : GoodIn wsX1_rest (va_wsS RX1 78 yX1_isBase wsX1_isBase) := goodIn_app (goodIn_of _ (by decide +kernel)) ggX1_rest_X1_isBase
set_option maxRecDepth 20000 in
theorem ggX1_rest_X1_isExponent : GoodIn wsX1_rest wsX1_isExponent := goodIn_r _ [10, 5, 6, 3, 7] (by decide +kernel) (by decide +kernel)
set_option maxRecDepth 20000 in
theorem gX1_rest_X1_isExponent : GoodIn wsX1_rest (va_wsS RX1 88 yX1_isExponent wsX1_isExponent) := goodIn_app (goodIn_of _ (by decide +kernel)) ggX1_rest_X1_isExponent
set_option maxRecDepth 20000 in
theorem ggX1_rest_X1_isFrom : GoodIn wsX1_rest wsX1_isFrom := goodIn_r _ [7] (by decide +kernel) (by decide +kernel)
set_option maxRecDepth 20000 in
theorem gX1_rest_X1_isFrom : GoodIn wsX1_rest (va_wsS RX1 39 yX1_isFrom wsX1_isFrom) := goodIn_app (goodIn_of _ (by decide +kernel)) ggX1_rest_X1_isFrom
set_option maxRecDepth 20000 in
theorem ggX1_rest_X1_no : GoodIn wsX1_rest wsX1_no := goodIn_r _ [14, 15, 47, 48, 49, 50, 51, 52, 53, 54, 55, 56, 57, 58] (by decide +kernel) (by decide +kernel)
set_option maxRecDepth 20000 in
theorem gX1_rest_X1_no : GoodIn wsX1_rest (wsV RX1 74 RX1 yX1_no wsX1_no) := goodIn_app (goodIn_of _ (by decide +kernel)) ggX1_rest_X1_no
set_option maxRecDepth 20000 in
theorem ggX1_rest_X1_isToldNear : GoodIn wsX1_rest wsX1_isToldNear := goodIn_ca (goodIn_r _ [19, 20, 21, 22, 3, 23, 24, 25, 26, 27, 28, 29, 30, 31, 32, 33, 34, 35, 36, 37, 38, 39, 40, 41, 42, 47, 48, 49, 50, 51, 52, 53, 54, 55, 56, 57, 58] (by decide +kernel) (by decide +kernel)) (goodIn_sub (fun _ h => List.mem_cons_of_mem _ (List.mem_append_right _ h)) (by decide +kernel))
set_option maxRecDepth 20000 in
theorem gX1_rest_X1_isToldNear : GoodIn wsX1_rest (wsV RX1 118 RX1 yX1_isToldNear wsX1_isToldNear) := goodIn_app (goodIn_of _ (by decide +kernel)) ggX1_rest_X1_isToldNear
set_option maxRecDepth 20000 in
theorem ggX1_rest_X1_powerWhole : GoodIn wsX1_rest wsX1_powerWhole := goodIn_r _ [46, 32, 33, 34, 47, 48, 49, 50, 51, 52, 53, 54, 55, 56, 57, 58] (by decide +kernel) (by decide +kernel)
set_option maxRecDepth 20000 in
theorem gX1_rest_X1_powerWhole : GoodIn wsX1_rest (wsV RX1 121 RX1 yX1_powerWhole wsX1_powerWhole) := goodIn_app (goodIn_of _ (by decide +kernel)) ggX1_rest_X1_powerWhole
theorem dX1_rest_0 : decode cX1_rest 0 = .ok (.aload_n 0, 1) := by decide +kernel
theorem dX1_rest_1 : decode cX1_rest 1 = .ok (.iload_n 1, 1) := by decide +kernel
theorem dX1_rest_2 : decode cX1_rest 2 = .ok (.invokestatic 78, 3) := by decide +kernel
theorem dX1_rest_5 : decode cX1_rest 5 = .ok (.ifCond .eq 25, 3) := by decide +kernel
theorem dX1_rest_8 : decode cX1_rest 8 = .ok (.iload_n 2, 1) := by decide +kernel
theorem dX1_rest_9 : decode cX1_rest 9 = .ok (.invokestatic 88, 3) := by decide +kernel
theorem dX1_rest_12 : decode cX1_rest 12 = .ok (.ifCond .eq 18, 3) := by decide +kernel
theorem dX1_rest_15 : decode cX1_rest 15 = .ok (.iload_n 3, 1) := by decide +kernel
theorem dX1_rest_16 : decode cX1_rest 16 = .ok (.iconst 1, 1) := by decide +kernel
theorem dX1_rest_17 : decode cX1_rest 17 = .ok (.sipush 1000, 3) := by decide +kernel
theorem dX1_rest_20 : decode cX1_rest 20 = .ok (.invokestatic 39, 3) := by decide +kernel
theorem dX1_rest_23 : decode cX1_rest 23 = .ok (.ifCond .eq 7, 3) := by decide +kernel
theorem dX1_rest_26 : decode cX1_rest 26 = .ok (.iconst 1, 1) := by decide +kernel
theorem dX1_rest_27 : decode cX1_rest 27 = .ok (.goto 4, 3) := by decide +kernel
theorem dX1_rest_30 : decode cX1_rest 30 = .ok (.iconst 0, 1) := by decide +kernel
theorem dX1_rest_31 : decode cX1_rest 31 = .ok (.iconst 1, 1) := by decide +kernel
theorem dX1_rest_32 : decode cX1_rest 32 = .ok (.invokevirtual 74, 3) := by decide +kernel
theorem dX1_rest_35 : decode cX1_rest 35 = .ok (.ifCond .ne 17, 3) := by decide +kernel
theorem dX1_rest_38 : decode cX1_rest 38 = .ok (.aload_n 0, 1) := by decide +kernel
theorem dX1_rest_39 : decode cX1_rest 39 = .ok (.aload_n 0, 1) := by decide +kernel
theorem dX1_rest_40 : decode cX1_rest 40 = .ok (.iload_n 1, 1) := by decide +kernel
theorem dX1_rest_41 : decode cX1_rest 41 = .ok (.iload_n 2, 1) := by decide +kernel
theorem dX1_rest_42 : decode cX1_rest 42 = .ok (.invokevirtual 118, 3) := by decide +kernel
theorem dX1_rest_45 : decode cX1_rest 45 = .ok (.iconst 2, 1) := by decide +kernel
theorem dX1_rest_46 : decode cX1_rest 46 = .ok (.invokevirtual 74, 3) := by decide +kernel
theorem dX1_rest_49 : decode cX1_rest 49 = .ok (.ifCond .eq 5, 3) := by decide +kernel
theorem dX1_rest_52 : decode cX1_rest 52 = .ok (.iconst 0, 1) := by decide +kernel
theorem dX1_rest_53 : decode cX1_rest 53 = .ok (.ireturn, 1) := by decide +kernel
theorem dX1_rest_54 : decode cX1_rest 54 = .ok (.aload_n 0, 1) := by decide +kernel
theorem dX1_rest_55 : decode cX1_rest 55 = .ok (.invokevirtual 121, 3) := by decide +kernel
theorem dX1_rest_58 : decode cX1_rest 58 = .ok (.iload_n 3, 1) := by decide +kernel
theorem dX1_rest_59 : decode cX1_rest 59 = .ok (.i2l, 1) := by decide +kernel
theorem dX1_rest_60 : decode cX1_rest 60 = .ok (.lrem, 1) := by decide +kernel
theorem dX1_rest_61 : decode cX1_rest 61 = .ok (.lstore 4, 2) := by decide +kernel
theorem dX1_rest_63 : decode cX1_rest 63 = .ok (.lload 4, 2) := by decide +kernel
theorem dX1_rest_65 : decode cX1_rest 65 = .ok (.lconst 0, 1) := by decide +kernel
theorem dX1_rest_66 : decode cX1_rest 66 = .ok (.lcmp, 1) := by decide +kernel
theorem dX1_rest_67 : decode cX1_rest 67 = .ok (.ifCond .ge 11, 3) := by decide +kernel
theorem dX1_rest_70 : decode cX1_rest 70 = .ok (.lload 4, 2) := by decide +kernel
theorem dX1_rest_72 : decode cX1_rest 72 = .ok (.iload_n 3, 1) := by decide +kernel
theorem dX1_rest_73 : decode cX1_rest 73 = .ok (.i2l, 1) := by decide +kernel
theorem dX1_rest_74 : decode cX1_rest 74 = .ok (.ladd, 1) := by decide +kernel
theorem dX1_rest_75 : decode cX1_rest 75 = .ok (.goto 5, 3) := by decide +kernel
theorem dX1_rest_78 : decode cX1_rest 78 = .ok (.lload 4, 2) := by decide +kernel
theorem dX1_rest_80 : decode cX1_rest 80 = .ok (.l2i, 1) := by decide +kernel
theorem dX1_rest_81 : decode cX1_rest 81 = .ok (.ireturn, 1) := by decide +kernel
set_option maxRecDepth 20000 in
theorem ggX1_isFermat_X1_isBase : GoodIn wsX1_isFermat wsX1_isBase := goodIn_r _ [4, 5, 6, 3, 7] (by decide +kernel) (by decide +kernel)
set_option maxRecDepth 20000 in
theorem gX1_isFermat_X1_isBase : GoodIn wsX1_isFermat (va_wsS RX1 78 yX1_isBase wsX1_isBase) := goodIn_app (goodIn_of _ (by decide +kernel)) ggX1_isFermat_X1_isBase
set_option maxRecDepth 20000 in
theorem ggX1_isFermat_X1_isFrom : GoodIn wsX1_isFermat wsX1_isFrom := goodIn_r _ [7] (by decide +kernel) (by decide +kernel)
set_option maxRecDepth 20000 in
theorem gX1_isFermat_X1_isFrom : GoodIn wsX1_isFermat (va_wsS RX1 39 yX1_isFrom wsX1_isFrom) := goodIn_app (goodIn_of _ (by decide +kernel)) ggX1_isFermat_X1_isFrom
set_option maxRecDepth 20000 in
theorem ggX1_isFermat_X1_no : GoodIn wsX1_isFermat wsX1_no := goodIn_r _ [11, 12, 44, 45, 46, 47, 48, 49, 50, 51, 52, 53, 54, 55] (by decide +kernel) (by decide +kernel)
set_option maxRecDepth 20000 in
theorem gX1_isFermat_X1_no : GoodIn wsX1_isFermat (wsV RX1 74 RX1 yX1_no wsX1_no) := goodIn_app (goodIn_of _ (by decide +kernel)) ggX1_isFermat_X1_no
set_option maxRecDepth 20000 in
theorem ggX1_isFermat_X1_isToldNear : GoodIn wsX1_isFermat wsX1_isToldNear := goodIn_ca (goodIn_r _ [16, 17, 18, 19, 3, 20, 21, 22, 23, 24, 25, 26, 27, 28, 29, 30, 31, 32, 33, 34, 35, 36, 37, 38, 39, 44, 45, 46, 47, 48, 49, 50, 51, 52, 53, 54, 55] (by decide +kernel) (by decide +kernel)) (goodIn_sub (fun _ h => List.mem_cons_of_mem _ (List.mem_append_right _ h)) (by decide +kernel))
set_option maxRecDepth 20000 in
theorem gX1_isFermat_X1_isToldNear : GoodIn wsX1_isFermat (wsV RX1 118 RX1 yX1_isToldNear wsX1_isToldNear) := goodIn_app (goodIn_of _ (by decide +kernel)) ggX1_isFermat_X1_isToldNear
set_option maxRecDepth 20000 in
theorem ggX1_isFermat_X1_powerWhole : GoodIn wsX1_isFermat wsX1_powerWhole := goodIn_r _ [43, 29, 30, 31, 44, 45, 46, 47, 48, 49, 50, 51, 52, 53, 54, 55] (by decide +kernel) (by decide +kernel)
set_option maxRecDepth 20000 in
theorem gX1_isFermat_X1_powerWhole : GoodIn wsX1_isFermat (wsV RX1 121 RX1 yX1_powerWhole wsX1_powerWhole) := goodIn_app (goodIn_of _ (by decide +kernel)) ggX1_isFermat_X1_powerWhole
theorem dX1_isFermat_0 : decode cX1_isFermat 0 = .ok (.aload_n 0, 1) := by decide +kernel
theorem dX1_isFermat_1 : decode cX1_isFermat 1 = .ok (.iload_n 1, 1) := by decide +kernel
theorem dX1_isFermat_2 : decode cX1_isFermat 2 = .ok (.invokestatic 78, 3) := by decide +kernel
theorem dX1_isFermat_5 : decode cX1_isFermat 5 = .ok (.ifCond .eq 17, 3) := by decide +kernel
theorem dX1_isFermat_8 : decode cX1_isFermat 8 = .ok (.iload_n 2, 1) := by decide +kernel
theorem dX1_isFermat_9 : decode cX1_isFermat 9 = .ok (.iconst 1, 1) := by decide +kernel
theorem dX1_isFermat_10 : decode cX1_isFermat 10 = .ok (.bipush 64, 2) := by decide +kernel
theorem dX1_isFermat_12 : decode cX1_isFermat 12 = .ok (.invokestatic 39, 3) := by decide +kernel
theorem dX1_isFermat_15 : decode cX1_isFermat 15 = .ok (.ifCond .eq 7, 3) := by decide +kernel
theorem dX1_isFermat_18 : decode cX1_isFermat 18 = .ok (.iconst 1, 1) := by decide +kernel
theorem dX1_isFermat_19 : decode cX1_isFermat 19 = .ok (.goto 4, 3) := by decide +kernel
theorem dX1_isFermat_22 : decode cX1_isFermat 22 = .ok (.iconst 0, 1) := by decide +kernel
theorem dX1_isFermat_23 : decode cX1_isFermat 23 = .ok (.iconst 1, 1) := by decide +kernel
theorem dX1_isFermat_24 : decode cX1_isFermat 24 = .ok (.invokevirtual 74, 3) := by decide +kernel
theorem dX1_isFermat_27 : decode cX1_isFermat 27 = .ok (.ifCond .ne 17, 3) := by decide +kernel
theorem dX1_isFermat_30 : decode cX1_isFermat 30 = .ok (.aload_n 0, 1) := by decide +kernel
theorem dX1_isFermat_31 : decode cX1_isFermat 31 = .ok (.aload_n 0, 1) := by decide +kernel
theorem dX1_isFermat_32 : decode cX1_isFermat 32 = .ok (.iload_n 1, 1) := by decide +kernel
theorem dX1_isFermat_33 : decode cX1_isFermat 33 = .ok (.iload_n 2, 1) := by decide +kernel
theorem dX1_isFermat_34 : decode cX1_isFermat 34 = .ok (.invokevirtual 118, 3) := by decide +kernel
theorem dX1_isFermat_37 : decode cX1_isFermat 37 = .ok (.iconst 2, 1) := by decide +kernel
theorem dX1_isFermat_38 : decode cX1_isFermat 38 = .ok (.invokevirtual 74, 3) := by decide +kernel
theorem dX1_isFermat_41 : decode cX1_isFermat 41 = .ok (.ifCond .eq 5, 3) := by decide +kernel
theorem dX1_isFermat_44 : decode cX1_isFermat 44 = .ok (.iconst 0, 1) := by decide +kernel
theorem dX1_isFermat_45 : decode cX1_isFermat 45 = .ok (.ireturn, 1) := by decide +kernel
theorem dX1_isFermat_46 : decode cX1_isFermat 46 = .ok (.aload_n 0, 1) := by decide +kernel
theorem dX1_isFermat_47 : decode cX1_isFermat 47 = .ok (.invokevirtual 121, 3) := by decide +kernel
theorem dX1_isFermat_50 : decode cX1_isFermat 50 = .ok (.iload_n 1, 1) := by decide +kernel
theorem dX1_isFermat_51 : decode cX1_isFermat 51 = .ok (.i2l, 1) := by decide +kernel
theorem dX1_isFermat_52 : decode cX1_isFermat 52 = .ok (.lsub, 1) := by decide +kernel
theorem dX1_isFermat_53 : decode cX1_isFermat 53 = .ok (.iload_n 2, 1) := by decide +kernel
theorem dX1_isFermat_54 : decode cX1_isFermat 54 = .ok (.i2l, 1) := by decide +kernel
theorem dX1_isFermat_55 : decode cX1_isFermat 55 = .ok (.lrem, 1) := by decide +kernel
theorem dX1_isFermat_56 : decode cX1_isFermat 56 = .ok (.lconst 0, 1) := by decide +kernel
theorem dX1_isFermat_57 : decode cX1_isFermat 57 = .ok (.lcmp, 1) := by decide +kernel
theorem dX1_isFermat_58 : decode cX1_isFermat 58 = .ok (.ifCond .ne 7, 3) := by decide +kernel
theorem dX1_isFermat_61 : decode cX1_isFermat 61 = .ok (.iconst 1, 1) := by decide +kernel
theorem dX1_isFermat_62 : decode cX1_isFermat 62 = .ok (.goto 4, 3) := by decide +kernel
theorem dX1_isFermat_65 : decode cX1_isFermat 65 = .ok (.iconst 0, 1) := by decide +kernel
theorem dX1_isFermat_66 : decode cX1_isFermat 66 = .ok (.ireturn, 1) := by decide +kernel
set_option maxRecDepth 20000 in
theorem ggX1_isChain_X1_isBase : GoodIn wsX1_isChain wsX1_isBase := goodIn_r _ [4, 5, 6, 3, 7] (by decide +kernel) (by decide +kernel)
set_option maxRecDepth 20000 in
theorem gX1_isChain_X1_isBase : GoodIn wsX1_isChain (va_wsS RX1 78 yX1_isBase wsX1_isBase) := goodIn_app (goodIn_of _ (by decide +kernel)) ggX1_isChain_X1_isBase
set_option maxRecDepth 20000 in
theorem ggX1_isChain_X1_isExponent : GoodIn wsX1_isChain wsX1_isExponent := goodIn_r _ [10, 5, 6, 3, 7] (by decide +kernel) (by decide +kernel)
set_option maxRecDepth 20000 in
theorem gX1_isChain_X1_isExponent : GoodIn wsX1_isChain (va_wsS RX1 88 yX1_isExponent wsX1_isExponent) := goodIn_app (goodIn_of _ (by decide +kernel)) ggX1_isChain_X1_isExponent
set_option maxRecDepth 20000 in
theorem ggX1_isChain_X1_no : GoodIn wsX1_isChain wsX1_no := goodIn_r _ [14, 15, 32, 33, 34, 35, 36, 37, 38, 39, 40, 41, 42, 43] (by decide +kernel) (by decide +kernel)
set_option maxRecDepth 20000 in
theorem gX1_isChain_X1_no : GoodIn wsX1_isChain (wsV RX1 74 RX1 yX1_no wsX1_no) := goodIn_app (goodIn_of _ (by decide +kernel)) ggX1_isChain_X1_no
set_option maxRecDepth 20000 in
theorem ggX1_isChain_X1_isTold_ : GoodIn wsX1_isChain wsX1_isTold_ := goodIn_ca (goodIn_r _ [19, 20, 21, 3, 22, 23, 24, 25, 26, 27, 28, 29, 30, 31, 32, 33, 34, 35, 36, 37, 38, 39, 40, 41, 42, 43] (by decide +kernel) (by decide +kernel)) (goodIn_sub (fun _ h => List.mem_cons_of_mem _ (List.mem_append_right _ h)) (by decide +kernel))
set_option maxRecDepth 20000 in
theorem gX1_isChain_X1_isTold_ : GoodIn wsX1_isChain (wsV RX1 81 RX1 yX1_isTold_ wsX1_isTold_) := goodIn_app (goodIn_of _ (by decide +kernel)) ggX1_isChain_X1_isTold_
theorem dX1_isChain_0 : decode cX1_isChain 0 = .ok (.aload_n 0, 1) := by decide +kernel
theorem dX1_isChain_1 : decode cX1_isChain 1 = .ok (.iload_n 1, 1) := by decide +kernel
theorem dX1_isChain_2 : decode cX1_isChain 2 = .ok (.invokestatic 78, 3) := by decide +kernel
theorem dX1_isChain_5 : decode cX1_isChain 5 = .ok (.ifCond .eq 14, 3) := by decide +kernel
theorem dX1_isChain_8 : decode cX1_isChain 8 = .ok (.iload_n 2, 1) := by decide +kernel
theorem dX1_isChain_9 : decode cX1_isChain 9 = .ok (.invokestatic 88, 3) := by decide +kernel
theorem dX1_isChain_12 : decode cX1_isChain 12 = .ok (.ifCond .eq 7, 3) := by decide +kernel
theorem dX1_isChain_15 : decode cX1_isChain 15 = .ok (.iconst 1, 1) := by decide +kernel
theorem dX1_isChain_16 : decode cX1_isChain 16 = .ok (.goto 4, 3) := by decide +kernel
theorem dX1_isChain_19 : decode cX1_isChain 19 = .ok (.iconst 0, 1) := by decide +kernel
theorem dX1_isChain_20 : decode cX1_isChain 20 = .ok (.iconst 1, 1) := by decide +kernel
theorem dX1_isChain_21 : decode cX1_isChain 21 = .ok (.invokevirtual 74, 3) := by decide +kernel
theorem dX1_isChain_24 : decode cX1_isChain 24 = .ok (.ifCond .ne 21, 3) := by decide +kernel
theorem dX1_isChain_27 : decode cX1_isChain 27 = .ok (.aload_n 0, 1) := by decide +kernel
theorem dX1_isChain_28 : decode cX1_isChain 28 = .ok (.aload_n 0, 1) := by decide +kernel
theorem dX1_isChain_29 : decode cX1_isChain 29 = .ok (.iload_n 1, 1) := by decide +kernel
theorem dX1_isChain_30 : decode cX1_isChain 30 = .ok (.iload_n 2, 1) := by decide +kernel
theorem dX1_isChain_31 : decode cX1_isChain 31 = .ok (.invokevirtual 81, 3) := by decide +kernel
theorem dX1_isChain_34 : decode cX1_isChain 34 = .ok (.iconst 2, 1) := by decide +kernel
theorem dX1_isChain_35 : decode cX1_isChain 35 = .ok (.invokevirtual 74, 3) := by decide +kernel
theorem dX1_isChain_38 : decode cX1_isChain 38 = .ok (.ifCond .ne 7, 3) := by decide +kernel
theorem dX1_isChain_41 : decode cX1_isChain 41 = .ok (.iconst 1, 1) := by decide +kernel
theorem dX1_isChain_42 : decode cX1_isChain 42 = .ok (.goto 4, 3) := by decide +kernel
theorem dX1_isChain_45 : decode cX1_isChain 45 = .ok (.iconst 0, 1) := by decide +kernel
theorem dX1_isChain_46 : decode cX1_isChain 46 = .ok (.ireturn, 1) := by decide +kernel
set_option maxRecDepth 20000 in
theorem ggX1_addsUp_X1_isBase : GoodIn wsX1_addsUp wsX1_isBase := goodIn_r _ [4, 5, 6, 3, 7] (by decide +kernel) (by decide +kernel)
set_option maxRecDepth 20000 in
theorem gX1_addsUp_X1_isBase : GoodIn wsX1_addsUp (va_wsS RX1 78 yX1_isBase wsX1_isBase) := goodIn_app (goodIn_of _ (by decide +kernel)) ggX1_addsUp_X1_isBase
set_option maxRecDepth 20000 in
theorem ggX1_addsUp_X1_isExponent : GoodIn wsX1_addsUp wsX1_isExponent := goodIn_r _ [10, 5, 6, 3, 7] (by decide +kernel) (by decide +kernel)
set_option maxRecDepth 20000 in
theorem gX1_addsUp_X1_isExponent : GoodIn wsX1_addsUp (va_wsS RX1 88 yX1_isExponent wsX1_isExponent) := goodIn_app (goodIn_of _ (by decide +kernel)) ggX1_addsUp_X1_isExponent
set_option maxRecDepth 20000 in
theorem ggX1_addsUp_X1_no : GoodIn wsX1_addsUp wsX1_no := goodIn_r _ [14, 15, 32, 33, 34, 35, 36, 37, 38, 39, 40, 41, 42, 43] (by decide +kernel) (by decide +kernel)
set_option maxRecDepth 20000 in
theorem gX1_addsUp_X1_no : GoodIn wsX1_addsUp (wsV RX1 74 RX1 yX1_no wsX1_no) := goodIn_app (goodIn_of _ (by decide +kernel)) ggX1_addsUp_X1_no
set_option maxRecDepth 20000 in
theorem ggX1_addsUp_X1_isTold_ : GoodIn wsX1_addsUp wsX1_isTold_ := goodIn_ca (goodIn_r _ [19, 20, 21, 3, 22, 23, 24, 25, 26, 27, 28, 29, 30, 31, 32, 33, 34, 35, 36, 37, 38, 39, 40, 41, 42, 43] (by decide +kernel) (by decide +kernel)) (goodIn_sub (fun _ h => List.mem_cons_of_mem _ (List.mem_append_right _ h)) (by decide +kernel))
set_option maxRecDepth 20000 in
theorem gX1_addsUp_X1_isTold_ : GoodIn wsX1_addsUp (wsV RX1 81 RX1 yX1_isTold_ wsX1_isTold_) := goodIn_app (goodIn_of _ (by decide +kernel)) ggX1_addsUp_X1_isTold_
theorem dX1_addsUp_0 : decode cX1_addsUp 0 = .ok (.iload_n 1, 1) := by decide +kernel
theorem dX1_addsUp_1 : decode cX1_addsUp 1 = .ok (.invokestatic 78, 3) := by decide +kernel
theorem dX1_addsUp_4 : decode cX1_addsUp 4 = .ok (.ifCond .eq 30, 3) := by decide +kernel
theorem dX1_addsUp_7 : decode cX1_addsUp 7 = .ok (.iload_n 2, 1) := by decide +kernel
theorem dX1_addsUp_8 : decode cX1_addsUp 8 = .ok (.invokestatic 88, 3) := by decide +kernel
theorem dX1_addsUp_11 : decode cX1_addsUp 11 = .ok (.ifCond .eq 23, 3) := by decide +kernel
theorem dX1_addsUp_14 : decode cX1_addsUp 14 = .ok (.iload_n 3, 1) := by decide +kernel
theorem dX1_addsUp_15 : decode cX1_addsUp 15 = .ok (.invokestatic 88, 3) := by decide +kernel
theorem dX1_addsUp_18 : decode cX1_addsUp 18 = .ok (.ifCond .eq 16, 3) := by decide +kernel
theorem dX1_addsUp_21 : decode cX1_addsUp 21 = .ok (.iload_n 2, 1) := by decide +kernel
theorem dX1_addsUp_22 : decode cX1_addsUp 22 = .ok (.iload_n 3, 1) := by decide +kernel
theorem dX1_addsUp_23 : decode cX1_addsUp 23 = .ok (.iadd, 1) := by decide +kernel
theorem dX1_addsUp_24 : decode cX1_addsUp 24 = .ok (.invokestatic 88, 3) := by decide +kernel
theorem dX1_addsUp_27 : decode cX1_addsUp 27 = .ok (.ifCond .eq 7, 3) := by decide +kernel
theorem dX1_addsUp_30 : decode cX1_addsUp 30 = .ok (.iconst 1, 1) := by decide +kernel
theorem dX1_addsUp_31 : decode cX1_addsUp 31 = .ok (.goto 4, 3) := by decide +kernel
theorem dX1_addsUp_34 : decode cX1_addsUp 34 = .ok (.iconst 0, 1) := by decide +kernel
theorem dX1_addsUp_35 : decode cX1_addsUp 35 = .ok (.istore 4, 2) := by decide +kernel
theorem dX1_addsUp_37 : decode cX1_addsUp 37 = .ok (.aload_n 0, 1) := by decide +kernel
theorem dX1_addsUp_38 : decode cX1_addsUp 38 = .ok (.iload 4, 2) := by decide +kernel
theorem dX1_addsUp_40 : decode cX1_addsUp 40 = .ok (.iconst 1, 1) := by decide +kernel
theorem dX1_addsUp_41 : decode cX1_addsUp 41 = .ok (.invokevirtual 74, 3) := by decide +kernel
theorem dX1_addsUp_44 : decode cX1_addsUp 44 = .ok (.ifCond .ne 23, 3) := by decide +kernel
theorem dX1_addsUp_47 : decode cX1_addsUp 47 = .ok (.aload_n 0, 1) := by decide +kernel
theorem dX1_addsUp_48 : decode cX1_addsUp 48 = .ok (.aload_n 0, 1) := by decide +kernel
theorem dX1_addsUp_49 : decode cX1_addsUp 49 = .ok (.iload_n 1, 1) := by decide +kernel
theorem dX1_addsUp_50 : decode cX1_addsUp 50 = .ok (.iload_n 2, 1) := by decide +kernel
theorem dX1_addsUp_51 : decode cX1_addsUp 51 = .ok (.iload_n 3, 1) := by decide +kernel
theorem dX1_addsUp_52 : decode cX1_addsUp 52 = .ok (.iadd, 1) := by decide +kernel
theorem dX1_addsUp_53 : decode cX1_addsUp 53 = .ok (.invokevirtual 81, 3) := by decide +kernel
theorem dX1_addsUp_56 : decode cX1_addsUp 56 = .ok (.iconst 2, 1) := by decide +kernel
theorem dX1_addsUp_57 : decode cX1_addsUp 57 = .ok (.invokevirtual 74, 3) := by decide +kernel
theorem dX1_addsUp_60 : decode cX1_addsUp 60 = .ok (.ifCond .ne 7, 3) := by decide +kernel
theorem dX1_addsUp_63 : decode cX1_addsUp 63 = .ok (.iconst 1, 1) := by decide +kernel
theorem dX1_addsUp_64 : decode cX1_addsUp 64 = .ok (.goto 4, 3) := by decide +kernel
theorem dX1_addsUp_67 : decode cX1_addsUp 67 = .ok (.iconst 0, 1) := by decide +kernel
theorem dX1_addsUp_68 : decode cX1_addsUp 68 = .ok (.ireturn, 1) := by decide +kernel
set_option maxRecDepth 20000 in
theorem ggX1_isNested_X1_isBase : GoodIn wsX1_isNested wsX1_isBase := goodIn_r _ [4, 5, 6, 3, 7] (by decide +kernel) (by decide +kernel)
set_option maxRecDepth 20000 in
theorem gX1_isNested_X1_isBase : GoodIn wsX1_isNested (va_wsS RX1 78 yX1_isBase wsX1_isBase) := goodIn_app (goodIn_of _ (by decide +kernel)) ggX1_isNested_X1_isBase
set_option maxRecDepth 20000 in
theorem ggX1_isNested_X1_isExponent : GoodIn wsX1_isNested wsX1_isExponent := goodIn_r _ [10, 5, 6, 3, 7] (by decide +kernel) (by decide +kernel)
set_option maxRecDepth 20000 in
theorem gX1_isNested_X1_isExponent : GoodIn wsX1_isNested (va_wsS RX1 88 yX1_isExponent wsX1_isExponent) := goodIn_app (goodIn_of _ (by decide +kernel)) ggX1_isNested_X1_isExponent
set_option maxRecDepth 20000 in
theorem ggX1_isNested_X1_no : GoodIn wsX1_isNested wsX1_no := goodIn_r _ [14, 15, 32, 33, 34, 35, 36, 37, 38, 39, 40, 41, 42, 43] (by decide +kernel) (by decide +kernel)
set_option maxRecDepth 20000 in
theorem gX1_isNested_X1_no : GoodIn wsX1_isNested (wsV RX1 74 RX1 yX1_no wsX1_no) := goodIn_app (goodIn_of _ (by decide +kernel)) ggX1_isNested_X1_no
set_option maxRecDepth 20000 in
theorem ggX1_isNested_X1_isTold_ : GoodIn wsX1_isNested wsX1_isTold_ := goodIn_ca (goodIn_r _ [19, 20, 21, 3, 22, 23, 24, 25, 26, 27, 28, 29, 30, 31, 32, 33, 34, 35, 36, 37, 38, 39, 40, 41, 42, 43] (by decide +kernel) (by decide +kernel)) (goodIn_sub (fun _ h => List.mem_cons_of_mem _ (List.mem_append_right _ h)) (by decide +kernel))
set_option maxRecDepth 20000 in
theorem gX1_isNested_X1_isTold_ : GoodIn wsX1_isNested (wsV RX1 81 RX1 yX1_isTold_ wsX1_isTold_) := goodIn_app (goodIn_of _ (by decide +kernel)) ggX1_isNested_X1_isTold_
theorem dX1_isNested_0 : decode cX1_isNested 0 = .ok (.iload_n 1, 1) := by decide +kernel
theorem dX1_isNested_1 : decode cX1_isNested 1 = .ok (.invokestatic 78, 3) := by decide +kernel
theorem dX1_isNested_4 : decode cX1_isNested 4 = .ok (.ifCond .eq 30, 3) := by decide +kernel
theorem dX1_isNested_7 : decode cX1_isNested 7 = .ok (.iload_n 2, 1) := by decide +kernel
theorem dX1_isNested_8 : decode cX1_isNested 8 = .ok (.invokestatic 88, 3) := by decide +kernel
theorem dX1_isNested_11 : decode cX1_isNested 11 = .ok (.ifCond .eq 23, 3) := by decide +kernel
theorem dX1_isNested_14 : decode cX1_isNested 14 = .ok (.iload_n 3, 1) := by decide +kernel
theorem dX1_isNested_15 : decode cX1_isNested 15 = .ok (.invokestatic 88, 3) := by decide +kernel
theorem dX1_isNested_18 : decode cX1_isNested 18 = .ok (.ifCond .eq 16, 3) := by decide +kernel
theorem dX1_isNested_21 : decode cX1_isNested 21 = .ok (.iload_n 2, 1) := by decide +kernel
theorem dX1_isNested_22 : decode cX1_isNested 22 = .ok (.iload_n 3, 1) := by decide +kernel
theorem dX1_isNested_23 : decode cX1_isNested 23 = .ok (.imul, 1) := by decide +kernel
theorem dX1_isNested_24 : decode cX1_isNested 24 = .ok (.invokestatic 88, 3) := by decide +kernel
theorem dX1_isNested_27 : decode cX1_isNested 27 = .ok (.ifCond .eq 7, 3) := by decide +kernel
theorem dX1_isNested_30 : decode cX1_isNested 30 = .ok (.iconst 1, 1) := by decide +kernel
theorem dX1_isNested_31 : decode cX1_isNested 31 = .ok (.goto 4, 3) := by decide +kernel
theorem dX1_isNested_34 : decode cX1_isNested 34 = .ok (.iconst 0, 1) := by decide +kernel
theorem dX1_isNested_35 : decode cX1_isNested 35 = .ok (.istore 4, 2) := by decide +kernel
theorem dX1_isNested_37 : decode cX1_isNested 37 = .ok (.aload_n 0, 1) := by decide +kernel
theorem dX1_isNested_38 : decode cX1_isNested 38 = .ok (.iload 4, 2) := by decide +kernel
theorem dX1_isNested_40 : decode cX1_isNested 40 = .ok (.iconst 1, 1) := by decide +kernel
theorem dX1_isNested_41 : decode cX1_isNested 41 = .ok (.invokevirtual 74, 3) := by decide +kernel
theorem dX1_isNested_44 : decode cX1_isNested 44 = .ok (.ifCond .ne 40, 3) := by decide +kernel
theorem dX1_isNested_47 : decode cX1_isNested 47 = .ok (.aload_n 0, 1) := by decide +kernel
theorem dX1_isNested_48 : decode cX1_isNested 48 = .ok (.aload_n 0, 1) := by decide +kernel
theorem dX1_isNested_49 : decode cX1_isNested 49 = .ok (.iload_n 1, 1) := by decide +kernel
theorem dX1_isNested_50 : decode cX1_isNested 50 = .ok (.iload_n 2, 1) := by decide +kernel
theorem dX1_isNested_51 : decode cX1_isNested 51 = .ok (.invokevirtual 81, 3) := by decide +kernel
theorem dX1_isNested_54 : decode cX1_isNested 54 = .ok (.ifCond .eq 18, 3) := by decide +kernel
theorem dX1_isNested_57 : decode cX1_isNested 57 = .ok (.aload_n 0, 1) := by decide +kernel
theorem dX1_isNested_58 : decode cX1_isNested 58 = .ok (.iload_n 1, 1) := by decide +kernel
theorem dX1_isNested_59 : decode cX1_isNested 59 = .ok (.iload_n 2, 1) := by decide +kernel
theorem dX1_isNested_60 : decode cX1_isNested 60 = .ok (.iload_n 3, 1) := by decide +kernel
theorem dX1_isNested_61 : decode cX1_isNested 61 = .ok (.imul, 1) := by decide +kernel
theorem dX1_isNested_62 : decode cX1_isNested 62 = .ok (.invokevirtual 81, 3) := by decide +kernel
theorem dX1_isNested_65 : decode cX1_isNested 65 = .ok (.ifCond .eq 7, 3) := by decide +kernel
theorem dX1_isNested_68 : decode cX1_isNested 68 = .ok (.iconst 1, 1) := by decide +kernel
theorem dX1_isNested_69 : decode cX1_isNested 69 = .ok (.goto 4, 3) := by decide +kernel
theorem dX1_isNested_72 : decode cX1_isNested 72 = .ok (.iconst 0, 1) := by decide +kernel
theorem dX1_isNested_73 : decode cX1_isNested 73 = .ok (.iconst 2, 1) := by decide +kernel
theorem dX1_isNested_74 : decode cX1_isNested 74 = .ok (.invokevirtual 74, 3) := by decide +kernel
theorem dX1_isNested_77 : decode cX1_isNested 77 = .ok (.ifCond .ne 7, 3) := by decide +kernel
theorem dX1_isNested_80 : decode cX1_isNested 80 = .ok (.iconst 1, 1) := by decide +kernel
theorem dX1_isNested_81 : decode cX1_isNested 81 = .ok (.goto 4, 3) := by decide +kernel
theorem dX1_isNested_84 : decode cX1_isNested 84 = .ok (.iconst 0, 1) := by decide +kernel
theorem dX1_isNested_85 : decode cX1_isNested 85 = .ok (.ireturn, 1) := by decide +kernel
theorem dX1_rootOf_0 : decode cX1_rootOf 0 = .ok (.lconst 0, 1) := by decide +kernel
theorem dX1_rootOf_1 : decode cX1_rootOf 1 = .ok (.lstore_n 2, 1) := by decide +kernel
theorem dX1_rootOf_2 : decode cX1_rootOf 2 = .ok (.bipush 30, 2) := by decide +kernel
theorem dX1_rootOf_4 : decode cX1_rootOf 4 = .ok (.istore 4, 2) := by decide +kernel
theorem dX1_rootOf_6 : decode cX1_rootOf 6 = .ok (.iload 4, 2) := by decide +kernel
theorem dX1_rootOf_8 : decode cX1_rootOf 8 = .ok (.ifCond .lt 30, 3) := by decide +kernel
theorem dX1_rootOf_11 : decode cX1_rootOf 11 = .ok (.lload_n 2, 1) := by decide +kernel
theorem dX1_rootOf_12 : decode cX1_rootOf 12 = .ok (.lconst 1, 1) := by decide +kernel
theorem dX1_rootOf_13 : decode cX1_rootOf 13 = .ok (.iload 4, 2) := by decide +kernel
theorem dX1_rootOf_15 : decode cX1_rootOf 15 = .ok (.lshl, 1) := by decide +kernel
theorem dX1_rootOf_16 : decode cX1_rootOf 16 = .ok (.lor, 1) := by decide +kernel
theorem dX1_rootOf_17 : decode cX1_rootOf 17 = .ok (.lstore 5, 2) := by decide +kernel
theorem dX1_rootOf_19 : decode cX1_rootOf 19 = .ok (.lload 5, 2) := by decide +kernel
theorem dX1_rootOf_21 : decode cX1_rootOf 21 = .ok (.lload 5, 2) := by decide +kernel
theorem dX1_rootOf_23 : decode cX1_rootOf 23 = .ok (.lmul, 1) := by decide +kernel
theorem dX1_rootOf_24 : decode cX1_rootOf 24 = .ok (.lload_n 0, 1) := by decide +kernel
theorem dX1_rootOf_25 : decode cX1_rootOf 25 = .ok (.lcmp, 1) := by decide +kernel
theorem dX1_rootOf_26 : decode cX1_rootOf 26 = .ok (.ifCond .gt 6, 3) := by decide +kernel
theorem dX1_rootOf_29 : decode cX1_rootOf 29 = .ok (.lload 5, 2) := by decide +kernel
theorem dX1_rootOf_31 : decode cX1_rootOf 31 = .ok (.lstore_n 2, 1) := by decide +kernel
theorem dX1_rootOf_32 : decode cX1_rootOf 32 = .ok (.iinc 4 (-1), 3) := by decide +kernel
theorem dX1_rootOf_35 : decode cX1_rootOf 35 = .ok (.goto (-29), 3) := by decide +kernel
theorem dX1_rootOf_38 : decode cX1_rootOf 38 = .ok (.lload_n 2, 1) := by decide +kernel
theorem dX1_rootOf_39 : decode cX1_rootOf 39 = .ok (.lreturn, 1) := by decide +kernel
set_option maxRecDepth 20000 in
theorem ggX1_nearestRoot_X1_rootOf : GoodIn wsX1_nearestRoot wsX1_rootOf := goodIn_r _ [6] (by decide +kernel) (by decide +kernel)
set_option maxRecDepth 20000 in
theorem gX1_nearestRoot_X1_rootOf : GoodIn wsX1_nearestRoot (va_wsS RX1 125 yX1_rootOf wsX1_rootOf) := goodIn_app (goodIn_of _ (by decide +kernel)) ggX1_nearestRoot_X1_rootOf
set_option maxRecDepth 20000 in
theorem ggX1_nearestRoot_X1_lengthOf : GoodIn wsX1_nearestRoot wsX1_lengthOf := goodIn_r _ [9, 2] (by decide +kernel) (by decide +kernel)
set_option maxRecDepth 20000 in
theorem gX1_nearestRoot_X1_lengthOf : GoodIn wsX1_nearestRoot (va_wsS RX1 45 yX1_lengthOf wsX1_lengthOf) := goodIn_app (goodIn_of _ (by decide +kernel)) ggX1_nearestRoot_X1_lengthOf
set_option maxRecDepth 20000 in
theorem ggX1_nearestRoot_X1_bitsOf : GoodIn wsX1_nearestRoot wsX1_bitsOf := goodIn_r _ [12, 13, 7, 8, 5, 9, 2] (by decide +kernel) (by decide +kernel)
set_option maxRecDepth 20000 in
theorem gX1_nearestRoot_X1_bitsOf : GoodIn wsX1_nearestRoot (va_wsS RX1 91 yX1_bitsOf wsX1_bitsOf) := goodIn_app (goodIn_of _ (by decide +kernel)) ggX1_nearestRoot_X1_bitsOf
theorem dX1_nearestRoot_0 : decode cX1_nearestRoot 0 = .ok (.iload_n 0, 1) := by decide +kernel
theorem dX1_nearestRoot_1 : decode cX1_nearestRoot 1 = .ok (.ifCond .ne 5, 3) := by decide +kernel
theorem dX1_nearestRoot_4 : decode cX1_nearestRoot 4 = .ok (.lconst 0, 1) := by decide +kernel
theorem dX1_nearestRoot_5 : decode cX1_nearestRoot 5 = .ok (.lreturn, 1) := by decide +kernel
theorem dX1_nearestRoot_6 : decode cX1_nearestRoot 6 = .ok (.iload_n 0, 1) := by decide +kernel
theorem dX1_nearestRoot_7 : decode cX1_nearestRoot 7 = .ok (.i2l, 1) := by decide +kernel
theorem dX1_nearestRoot_8 : decode cX1_nearestRoot 8 = .ok (.invokestatic 125, 3) := by decide +kernel
theorem dX1_nearestRoot_11 : decode cX1_nearestRoot 11 = .ok (.lstore_n 1, 1) := by decide +kernel
theorem dX1_nearestRoot_12 : decode cX1_nearestRoot 12 = .ok (.iload_n 0, 1) := by decide +kernel
theorem dX1_nearestRoot_13 : decode cX1_nearestRoot 13 = .ok (.i2l, 1) := by decide +kernel
theorem dX1_nearestRoot_14 : decode cX1_nearestRoot 14 = .ok (.lload_n 1, 1) := by decide +kernel
theorem dX1_nearestRoot_15 : decode cX1_nearestRoot 15 = .ok (.lload_n 1, 1) := by decide +kernel
theorem dX1_nearestRoot_16 : decode cX1_nearestRoot 16 = .ok (.lmul, 1) := by decide +kernel
theorem dX1_nearestRoot_17 : decode cX1_nearestRoot 17 = .ok (.lsub, 1) := by decide +kernel
theorem dX1_nearestRoot_18 : decode cX1_nearestRoot 18 = .ok (.lstore_n 3, 1) := by decide +kernel
theorem dX1_nearestRoot_19 : decode cX1_nearestRoot 19 = .ok (.iconst 0, 1) := by decide +kernel
theorem dX1_nearestRoot_20 : decode cX1_nearestRoot 20 = .ok (.istore 5, 2) := by decide +kernel
theorem dX1_nearestRoot_22 : decode cX1_nearestRoot 22 = .ok (.lload_n 1, 1) := by decide +kernel
theorem dX1_nearestRoot_23 : decode cX1_nearestRoot 23 = .ok (.invokestatic 45, 3) := by decide +kernel
theorem dX1_nearestRoot_26 : decode cX1_nearestRoot 26 = .ok (.bipush 53, 2) := by decide +kernel
theorem dX1_nearestRoot_28 : decode cX1_nearestRoot 28 = .ok (.if_icmp .ge 47, 3) := by decide +kernel
theorem dX1_nearestRoot_31 : decode cX1_nearestRoot 31 = .ok (.lload_n 3, 1) := by decide +kernel
theorem dX1_nearestRoot_32 : decode cX1_nearestRoot 32 = .ok (.ldc2_w 129, 3) := by decide +kernel
theorem dX1_nearestRoot_35 : decode cX1_nearestRoot 35 = .ok (.lmul, 1) := by decide +kernel
theorem dX1_nearestRoot_36 : decode cX1_nearestRoot 36 = .ok (.lstore_n 3, 1) := by decide +kernel
theorem dX1_nearestRoot_37 : decode cX1_nearestRoot 37 = .ok (.lload_n 1, 1) := by decide +kernel
theorem dX1_nearestRoot_38 : decode cX1_nearestRoot 38 = .ok (.ldc2_w 43, 3) := by decide +kernel
theorem dX1_nearestRoot_41 : decode cX1_nearestRoot 41 = .ok (.lmul, 1) := by decide +kernel
theorem dX1_nearestRoot_42 : decode cX1_nearestRoot 42 = .ok (.lstore_n 1, 1) := by decide +kernel
theorem dX1_nearestRoot_43 : decode cX1_nearestRoot 43 = .ok (.iinc 5 1, 3) := by decide +kernel
theorem dX1_nearestRoot_46 : decode cX1_nearestRoot 46 = .ok (.lload_n 3, 1) := by decide +kernel
theorem dX1_nearestRoot_47 : decode cX1_nearestRoot 47 = .ok (.ldc2_w 43, 3) := by decide +kernel
theorem dX1_nearestRoot_50 : decode cX1_nearestRoot 50 = .ok (.lload_n 1, 1) := by decide +kernel
theorem dX1_nearestRoot_51 : decode cX1_nearestRoot 51 = .ok (.lmul, 1) := by decide +kernel
theorem dX1_nearestRoot_52 : decode cX1_nearestRoot 52 = .ok (.lconst 1, 1) := by decide +kernel
theorem dX1_nearestRoot_53 : decode cX1_nearestRoot 53 = .ok (.ladd, 1) := by decide +kernel
theorem dX1_nearestRoot_54 : decode cX1_nearestRoot 54 = .ok (.lcmp, 1) := by decide +kernel
theorem dX1_nearestRoot_55 : decode cX1_nearestRoot 55 = .ok (.ifCond .lt (-33), 3) := by decide +kernel
theorem dX1_nearestRoot_58 : decode cX1_nearestRoot 58 = .ok (.lload_n 3, 1) := by decide +kernel
theorem dX1_nearestRoot_59 : decode cX1_nearestRoot 59 = .ok (.ldc2_w 43, 3) := by decide +kernel
theorem dX1_nearestRoot_62 : decode cX1_nearestRoot 62 = .ok (.lload_n 1, 1) := by decide +kernel
theorem dX1_nearestRoot_63 : decode cX1_nearestRoot 63 = .ok (.lmul, 1) := by decide +kernel
theorem dX1_nearestRoot_64 : decode cX1_nearestRoot 64 = .ok (.lconst 1, 1) := by decide +kernel
theorem dX1_nearestRoot_65 : decode cX1_nearestRoot 65 = .ok (.ladd, 1) := by decide +kernel
theorem dX1_nearestRoot_66 : decode cX1_nearestRoot 66 = .ok (.lsub, 1) := by decide +kernel
theorem dX1_nearestRoot_67 : decode cX1_nearestRoot 67 = .ok (.lstore_n 3, 1) := by decide +kernel
theorem dX1_nearestRoot_68 : decode cX1_nearestRoot 68 = .ok (.lload_n 1, 1) := by decide +kernel
theorem dX1_nearestRoot_69 : decode cX1_nearestRoot 69 = .ok (.lconst 1, 1) := by decide +kernel
theorem dX1_nearestRoot_70 : decode cX1_nearestRoot 70 = .ok (.ladd, 1) := by decide +kernel
theorem dX1_nearestRoot_71 : decode cX1_nearestRoot 71 = .ok (.lstore_n 1, 1) := by decide +kernel
theorem dX1_nearestRoot_72 : decode cX1_nearestRoot 72 = .ok (.goto (-50), 3) := by decide +kernel
theorem dX1_nearestRoot_75 : decode cX1_nearestRoot 75 = .ok (.lload_n 3, 1) := by decide +kernel

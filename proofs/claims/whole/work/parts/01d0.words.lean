theorem dX0_init_0 : decode cX0_init 0 = .ok (.aload_n 0, 1) := by decide +kernel
theorem dX0_init_1 : decode cX0_init 1 = .ok (.invokespecial 1, 3) := by decide +kernel
theorem dX0_init_4 : decode cX0_init 4 = .ok (.aload_n 0, 1) := by decide +kernel
theorem dX0_init_5 : decode cX0_init 5 = .ok (.bipush 8, 2) := by decide +kernel
theorem dX0_init_7 : decode cX0_init 7 = .ok (.newarray .int, 2) := by decide +kernel
theorem dX0_init_9 : decode cX0_init 9 = .ok (.putfield 9, 3) := by decide +kernel
theorem dX0_init_12 : decode cX0_init 12 = .ok (.aload_n 0, 1) := by decide +kernel
theorem dX0_init_13 : decode cX0_init 13 = .ok (.bipush 8, 2) := by decide +kernel
theorem dX0_init_15 : decode cX0_init 15 = .ok (.newarray .long, 2) := by decide +kernel
theorem dX0_init_17 : decode cX0_init 17 = .ok (.putfield 13, 3) := by decide +kernel
theorem dX0_init_20 : decode cX0_init 20 = .ok (.aload_n 0, 1) := by decide +kernel
theorem dX0_init_21 : decode cX0_init 21 = .ok (.bipush 8, 2) := by decide +kernel
theorem dX0_init_23 : decode cX0_init 23 = .ok (.newarray .int, 2) := by decide +kernel
theorem dX0_init_25 : decode cX0_init 25 = .ok (.putfield 17, 3) := by decide +kernel
theorem dX0_init_28 : decode cX0_init 28 = .ok (.aload_n 0, 1) := by decide +kernel
theorem dX0_init_29 : decode cX0_init 29 = .ok (.bipush 8, 2) := by decide +kernel
theorem dX0_init_31 : decode cX0_init 31 = .ok (.newarray .int, 2) := by decide +kernel
theorem dX0_init_33 : decode cX0_init 33 = .ok (.putfield 20, 3) := by decide +kernel
theorem dX0_init_36 : decode cX0_init 36 = .ok (.aload_n 0, 1) := by decide +kernel
theorem dX0_init_37 : decode cX0_init 37 = .ok (.bipush 8, 2) := by decide +kernel
theorem dX0_init_39 : decode cX0_init 39 = .ok (.newarray .int, 2) := by decide +kernel
theorem dX0_init_41 : decode cX0_init 41 = .ok (.putfield 23, 3) := by decide +kernel
theorem dX0_init_44 : decode cX0_init 44 = .ok (.aload_n 0, 1) := by decide +kernel
theorem dX0_init_45 : decode cX0_init 45 = .ok (.bipush 8, 2) := by decide +kernel
theorem dX0_init_47 : decode cX0_init 47 = .ok (.newarray .long, 2) := by decide +kernel
theorem dX0_init_49 : decode cX0_init 49 = .ok (.putfield 26, 3) := by decide +kernel
theorem dX0_init_52 : decode cX0_init 52 = .ok (.aload_n 0, 1) := by decide +kernel
theorem dX0_init_53 : decode cX0_init 53 = .ok (.bipush 8, 2) := by decide +kernel
theorem dX0_init_55 : decode cX0_init 55 = .ok (.newarray .int, 2) := by decide +kernel
theorem dX0_init_57 : decode cX0_init 57 = .ok (.putfield 29, 3) := by decide +kernel
theorem dX0_init_60 : decode cX0_init 60 = .ok (.aload_n 0, 1) := by decide +kernel
theorem dX0_init_61 : decode cX0_init 61 = .ok (.iconst 0, 1) := by decide +kernel
theorem dX0_init_62 : decode cX0_init 62 = .ok (.putfield 32, 3) := by decide +kernel
theorem dX0_init_65 : decode cX0_init 65 = .ok (.aload_n 0, 1) := by decide +kernel
theorem dX0_init_66 : decode cX0_init 66 = .ok (.iconst 0, 1) := by decide +kernel
theorem dX0_init_67 : decode cX0_init 67 = .ok (.putfield 36, 3) := by decide +kernel
theorem dX0_init_70 : decode cX0_init 70 = .ok (.return_, 1) := by decide +kernel
set_option maxRecDepth 20000 in
theorem ggX0_put_X0_checkSlot : GoodIn wsX0_put wsX0_checkSlot := goodIn_ca (goodIn_r _ [4, 5, 6] (by decide +kernel) (by decide +kernel)) (goodIn_sub (fun _ h => List.mem_cons_of_mem _ (List.mem_append_left _ (List.mem_append_left _ (List.mem_append_right _ h)))) (by decide +kernel))
set_option maxRecDepth 20000 in
theorem gX0_put_X0_checkSlot : GoodIn wsX0_put (va_wsS RX0 39 yX0_checkSlot wsX0_checkSlot) := goodIn_app (goodIn_of _ (by decide +kernel)) ggX0_put_X0_checkSlot
set_option maxRecDepth 20000 in
theorem ggX0_put_X0_checkRange : GoodIn wsX0_put wsX0_checkRange := goodIn_ca (goodIn_r _ [9, 10, 11] (by decide +kernel) (by decide +kernel)) (goodIn_sub (fun _ h => List.mem_cons_of_mem _ (List.mem_append_left _ (List.mem_append_right _ h))) (by decide +kernel))
set_option maxRecDepth 20000 in
theorem gX0_put_X0_checkRange : GoodIn wsX0_put (va_wsS RX0 43 yX0_checkRange wsX0_checkRange) := goodIn_app (goodIn_of _ (by decide +kernel)) ggX0_put_X0_checkRange
set_option maxRecDepth 20000 in
theorem ggX0_put_X0_signOf : GoodIn wsX0_put wsX0_signOf := goodIn_r _ [14] (by decide +kernel) (by decide +kernel)
set_option maxRecDepth 20000 in
theorem gX0_put_X0_signOf : GoodIn wsX0_put (va_wsS RX0 47 yX0_signOf wsX0_signOf) := goodIn_app (goodIn_of _ (by decide +kernel)) ggX0_put_X0_signOf
set_option maxRecDepth 20000 in
theorem ggX0_put_X0_oddOf : GoodIn wsX0_put wsX0_oddOf := goodIn_r _ [17, 18, 19, 3, 20, 21, 22, 23] (by decide +kernel) (by decide +kernel)
set_option maxRecDepth 20000 in
theorem gX0_put_X0_oddOf : GoodIn wsX0_put (va_wsS RX0 51 yX0_oddOf wsX0_oddOf) := goodIn_app (goodIn_of _ (by decide +kernel)) ggX0_put_X0_oddOf
set_option maxRecDepth 20000 in
theorem ggX0_put_X0_shiftOf : GoodIn wsX0_put wsX0_shiftOf := goodIn_r _ [23] (by decide +kernel) (by decide +kernel)
set_option maxRecDepth 20000 in
theorem gX0_put_X0_shiftOf : GoodIn wsX0_put (va_wsS RX0 55 yX0_shiftOf wsX0_shiftOf) := goodIn_app (goodIn_of _ (by decide +kernel)) ggX0_put_X0_shiftOf
set_option maxRecDepth 20000 in
theorem ggX0_put_X0_become : GoodIn wsX0_put wsX0_become := goodIn_ca (goodIn_r _ [27, 28, 29, 30, 31, 32, 33, 34, 35, 36, 37, 38, 39, 40, 41, 42, 43, 44, 45] (by decide +kernel) (by decide +kernel)) (goodIn_sub (fun _ h => List.mem_cons_of_mem _ (List.mem_append_right _ h)) (by decide +kernel))
set_option maxRecDepth 20000 in
theorem gX0_put_X0_become : GoodIn wsX0_put (wsV RX0 58 RX0 yX0_become wsX0_become) := goodIn_app (goodIn_of _ (by decide +kernel)) ggX0_put_X0_become
theorem dX0_put_0 : decode cX0_put 0 = .ok (.iload_n 1, 1) := by decide +kernel
theorem dX0_put_1 : decode cX0_put 1 = .ok (.invokestatic 39, 3) := by decide +kernel
theorem dX0_put_4 : decode cX0_put 4 = .ok (.iload_n 2, 1) := by decide +kernel
theorem dX0_put_5 : decode cX0_put 5 = .ok (.bipush (-64), 2) := by decide +kernel
theorem dX0_put_7 : decode cX0_put 7 = .ok (.bipush 64, 2) := by decide +kernel
theorem dX0_put_9 : decode cX0_put 9 = .ok (.invokestatic 43, 3) := by decide +kernel
theorem dX0_put_12 : decode cX0_put 12 = .ok (.aload_n 0, 1) := by decide +kernel
theorem dX0_put_13 : decode cX0_put 13 = .ok (.iload_n 1, 1) := by decide +kernel
theorem dX0_put_14 : decode cX0_put 14 = .ok (.iload_n 2, 1) := by decide +kernel
theorem dX0_put_15 : decode cX0_put 15 = .ok (.invokestatic 47, 3) := by decide +kernel
theorem dX0_put_18 : decode cX0_put 18 = .ok (.iload_n 2, 1) := by decide +kernel
theorem dX0_put_19 : decode cX0_put 19 = .ok (.invokestatic 51, 3) := by decide +kernel
theorem dX0_put_22 : decode cX0_put 22 = .ok (.iload_n 2, 1) := by decide +kernel
theorem dX0_put_23 : decode cX0_put 23 = .ok (.invokestatic 55, 3) := by decide +kernel
theorem dX0_put_26 : decode cX0_put 26 = .ok (.invokevirtual 58, 3) := by decide +kernel
theorem dX0_put_29 : decode cX0_put 29 = .ok (.ireturn, 1) := by decide +kernel
set_option maxRecDepth 20000 in
theorem ggX0_power_X0_checkSlot : GoodIn wsX0_power wsX0_checkSlot := goodIn_ca (goodIn_r _ [4, 5, 6] (by decide +kernel) (by decide +kernel)) (goodIn_sub (fun _ h => List.mem_cons_of_mem _ (List.mem_append_left _ (List.mem_append_left _ (List.mem_append_left _ (List.mem_append_left _ (List.mem_append_right _ h)))))) (by decide +kernel))
set_option maxRecDepth 20000 in
theorem gX0_power_X0_checkSlot : GoodIn wsX0_power (va_wsS RX0 39 yX0_checkSlot wsX0_checkSlot) := goodIn_app (goodIn_of _ (by decide +kernel)) ggX0_power_X0_checkSlot
set_option maxRecDepth 20000 in
theorem ggX0_power_X0_checkBaseAndExponent : GoodIn wsX0_power wsX0_checkBaseAndExponent := goodIn_ca (goodIn_r _ [9, 10, 11, 3, 12, 13, 14] (by decide +kernel) (by decide +kernel)) (goodIn_sub (fun _ h => List.mem_cons_of_mem _ (List.mem_append_left _ (List.mem_append_left _ (List.mem_append_left _ (List.mem_append_right _ h))))) (by decide +kernel))
set_option maxRecDepth 20000 in
theorem gX0_power_X0_checkBaseAndExponent : GoodIn wsX0_power (va_wsS RX0 62 yX0_checkBaseAndExponent wsX0_checkBaseAndExponent) := goodIn_app (goodIn_of _ (by decide +kernel)) ggX0_power_X0_checkBaseAndExponent
set_option maxRecDepth 20000 in
theorem ggX0_power_X0_checkTold : GoodIn wsX0_power wsX0_checkTold := goodIn_ca (goodIn_ca (goodIn_r _ [17, 18, 19, 20, 21, 3, 22, 23, 24, 25, 26, 27, 28, 29, 30, 31, 32, 33, 34, 35, 36, 37, 38, 39] (by decide +kernel) (by decide +kernel)) (goodIn_sub (fun _ h => List.mem_cons_of_mem _ (List.mem_append_left _ (List.mem_append_left _ (List.mem_append_right _ h)))) (by decide +kernel))) (goodIn_sub (fun _ h => List.mem_cons_of_mem _ (List.mem_append_left _ (List.mem_append_right _ h))) (by decide +kernel))
set_option maxRecDepth 20000 in
theorem gX0_power_X0_checkTold : GoodIn wsX0_power (va_wsS RX0 66 yX0_checkTold wsX0_checkTold) := goodIn_app (goodIn_of _ (by decide +kernel)) ggX0_power_X0_checkTold
set_option maxRecDepth 20000 in
theorem ggX0_power_X0_signOf : GoodIn wsX0_power wsX0_signOf := goodIn_r _ [42] (by decide +kernel) (by decide +kernel)
set_option maxRecDepth 20000 in
theorem gX0_power_X0_signOf : GoodIn wsX0_power (va_wsS RX0 47 yX0_signOf wsX0_signOf) := goodIn_app (goodIn_of _ (by decide +kernel)) ggX0_power_X0_signOf
set_option maxRecDepth 20000 in
theorem ggX0_power_X0_powerSign : GoodIn wsX0_power wsX0_powerSign := goodIn_r _ [45] (by decide +kernel) (by decide +kernel)
set_option maxRecDepth 20000 in
theorem gX0_power_X0_powerSign : GoodIn wsX0_power (va_wsS RX0 69 yX0_powerSign wsX0_powerSign) := goodIn_app (goodIn_of _ (by decide +kernel)) ggX0_power_X0_powerSign
set_option maxRecDepth 20000 in
theorem ggX0_power_X0_oddOf : GoodIn wsX0_power wsX0_oddOf := goodIn_r _ [22, 23, 24, 3, 25, 26, 27, 28] (by decide +kernel) (by decide +kernel)
set_option maxRecDepth 20000 in
theorem gX0_power_X0_oddOf : GoodIn wsX0_power (va_wsS RX0 51 yX0_oddOf wsX0_oddOf) := goodIn_app (goodIn_of _ (by decide +kernel)) ggX0_power_X0_oddOf
set_option maxRecDepth 20000 in
theorem ggX0_power_X0_powerOdd : GoodIn wsX0_power wsX0_powerOdd := goodIn_ca (goodIn_r _ [35, 36, 37, 38, 3, 39, 32] (by decide +kernel) (by decide +kernel)) (goodIn_sub (fun _ h => List.mem_cons_of_mem _ (List.mem_append_left _ (List.mem_append_right _ h))) (by decide +kernel))
set_option maxRecDepth 20000 in
theorem gX0_power_X0_powerOdd : GoodIn wsX0_power (va_wsS RX0 73 yX0_powerOdd wsX0_powerOdd) := goodIn_app (goodIn_of _ (by decide +kernel)) ggX0_power_X0_powerOdd
set_option maxRecDepth 20000 in
theorem ggX0_power_X0_shiftOf : GoodIn wsX0_power wsX0_shiftOf := goodIn_r _ [28] (by decide +kernel) (by decide +kernel)
set_option maxRecDepth 20000 in
theorem gX0_power_X0_shiftOf : GoodIn wsX0_power (va_wsS RX0 55 yX0_shiftOf wsX0_shiftOf) := goodIn_app (goodIn_of _ (by decide +kernel)) ggX0_power_X0_shiftOf
set_option maxRecDepth 20000 in
theorem ggX0_power_X0_become : GoodIn wsX0_power wsX0_become := goodIn_ca (goodIn_r _ [49, 50, 51, 52, 53, 54, 55, 56, 57, 58, 59, 60, 61, 62, 63, 64, 65, 66, 67] (by decide +kernel) (by decide +kernel)) (goodIn_sub (fun _ h => List.mem_cons_of_mem _ (List.mem_append_right _ h)) (by decide +kernel))
set_option maxRecDepth 20000 in
theorem gX0_power_X0_become : GoodIn wsX0_power (wsV RX0 58 RX0 yX0_become wsX0_become) := goodIn_app (goodIn_of _ (by decide +kernel)) ggX0_power_X0_become
theorem dX0_power_0 : decode cX0_power 0 = .ok (.iload_n 1, 1) := by decide +kernel
theorem dX0_power_1 : decode cX0_power 1 = .ok (.invokestatic 39, 3) := by decide +kernel
theorem dX0_power_4 : decode cX0_power 4 = .ok (.iload_n 2, 1) := by decide +kernel
theorem dX0_power_5 : decode cX0_power 5 = .ok (.iload_n 3, 1) := by decide +kernel
theorem dX0_power_6 : decode cX0_power 6 = .ok (.invokestatic 62, 3) := by decide +kernel
theorem dX0_power_9 : decode cX0_power 9 = .ok (.iload_n 2, 1) := by decide +kernel
theorem dX0_power_10 : decode cX0_power 10 = .ok (.iload_n 3, 1) := by decide +kernel
theorem dX0_power_11 : decode cX0_power 11 = .ok (.invokestatic 66, 3) := by decide +kernel
theorem dX0_power_14 : decode cX0_power 14 = .ok (.aload_n 0, 1) := by decide +kernel
theorem dX0_power_15 : decode cX0_power 15 = .ok (.iload_n 1, 1) := by decide +kernel
theorem dX0_power_16 : decode cX0_power 16 = .ok (.iload_n 2, 1) := by decide +kernel
theorem dX0_power_17 : decode cX0_power 17 = .ok (.invokestatic 47, 3) := by decide +kernel
theorem dX0_power_20 : decode cX0_power 20 = .ok (.iload_n 3, 1) := by decide +kernel
theorem dX0_power_21 : decode cX0_power 21 = .ok (.invokestatic 69, 3) := by decide +kernel
theorem dX0_power_24 : decode cX0_power 24 = .ok (.iload_n 2, 1) := by decide +kernel
theorem dX0_power_25 : decode cX0_power 25 = .ok (.invokestatic 51, 3) := by decide +kernel
theorem dX0_power_28 : decode cX0_power 28 = .ok (.iload_n 3, 1) := by decide +kernel
theorem dX0_power_29 : decode cX0_power 29 = .ok (.invokestatic 73, 3) := by decide +kernel
theorem dX0_power_32 : decode cX0_power 32 = .ok (.iload_n 2, 1) := by decide +kernel
theorem dX0_power_33 : decode cX0_power 33 = .ok (.invokestatic 55, 3) := by decide +kernel
theorem dX0_power_36 : decode cX0_power 36 = .ok (.iload_n 3, 1) := by decide +kernel
theorem dX0_power_37 : decode cX0_power 37 = .ok (.imul, 1) := by decide +kernel
theorem dX0_power_38 : decode cX0_power 38 = .ok (.invokevirtual 58, 3) := by decide +kernel
theorem dX0_power_41 : decode cX0_power 41 = .ok (.ireturn, 1) := by decide +kernel
set_option maxRecDepth 20000 in
theorem ggX0_twoTo_X0_checkSlot : GoodIn wsX0_twoTo wsX0_checkSlot := goodIn_ca (goodIn_r _ [4, 5, 6] (by decide +kernel) (by decide +kernel)) (goodIn_sub (fun _ h => List.mem_cons_of_mem _ (List.mem_append_left _ (List.mem_append_left _ (List.mem_append_right _ h)))) (by decide +kernel))
set_option maxRecDepth 20000 in
theorem gX0_twoTo_X0_checkSlot : GoodIn wsX0_twoTo (va_wsS RX0 39 yX0_checkSlot wsX0_checkSlot) := goodIn_app (goodIn_of _ (by decide +kernel)) ggX0_twoTo_X0_checkSlot
set_option maxRecDepth 20000 in
theorem ggX0_twoTo_X0_checkRange : GoodIn wsX0_twoTo wsX0_checkRange := goodIn_ca (goodIn_r _ [9, 10, 11] (by decide +kernel) (by decide +kernel)) (goodIn_sub (fun _ h => List.mem_cons_of_mem _ (List.mem_append_left _ (List.mem_append_right _ h))) (by decide +kernel))
set_option maxRecDepth 20000 in
theorem gX0_twoTo_X0_checkRange : GoodIn wsX0_twoTo (va_wsS RX0 43 yX0_checkRange wsX0_checkRange) := goodIn_app (goodIn_of _ (by decide +kernel)) ggX0_twoTo_X0_checkRange
set_option maxRecDepth 20000 in
theorem ggX0_twoTo_X0_become : GoodIn wsX0_twoTo wsX0_become := goodIn_ca (goodIn_r _ [15, 16, 17, 18, 19, 20, 21, 22, 23, 24, 25, 26, 27, 28, 29, 30, 31, 32, 33] (by decide +kernel) (by decide +kernel)) (goodIn_sub (fun _ h => List.mem_cons_of_mem _ (List.mem_append_right _ h)) (by decide +kernel))
set_option maxRecDepth 20000 in
theorem gX0_twoTo_X0_become : GoodIn wsX0_twoTo (wsV RX0 58 RX0 yX0_become wsX0_become) := goodIn_app (goodIn_of _ (by decide +kernel)) ggX0_twoTo_X0_become
theorem dX0_twoTo_0 : decode cX0_twoTo 0 = .ok (.iload_n 1, 1) := by decide +kernel
theorem dX0_twoTo_1 : decode cX0_twoTo 1 = .ok (.invokestatic 39, 3) := by decide +kernel
theorem dX0_twoTo_4 : decode cX0_twoTo 4 = .ok (.iload_n 2, 1) := by decide +kernel
theorem dX0_twoTo_5 : decode cX0_twoTo 5 = .ok (.sipush (-1000), 3) := by decide +kernel
theorem dX0_twoTo_8 : decode cX0_twoTo 8 = .ok (.sipush 1000, 3) := by decide +kernel
theorem dX0_twoTo_11 : decode cX0_twoTo 11 = .ok (.invokestatic 43, 3) := by decide +kernel
theorem dX0_twoTo_14 : decode cX0_twoTo 14 = .ok (.aload_n 0, 1) := by decide +kernel
theorem dX0_twoTo_15 : decode cX0_twoTo 15 = .ok (.iload_n 1, 1) := by decide +kernel
theorem dX0_twoTo_16 : decode cX0_twoTo 16 = .ok (.iconst 1, 1) := by decide +kernel
theorem dX0_twoTo_17 : decode cX0_twoTo 17 = .ok (.lconst 1, 1) := by decide +kernel
theorem dX0_twoTo_18 : decode cX0_twoTo 18 = .ok (.iload_n 2, 1) := by decide +kernel
theorem dX0_twoTo_19 : decode cX0_twoTo 19 = .ok (.invokevirtual 58, 3) := by decide +kernel
theorem dX0_twoTo_22 : decode cX0_twoTo 22 = .ok (.ireturn, 1) := by decide +kernel
set_option maxRecDepth 20000 in
theorem ggX0_raise_X0_checkSlot : GoodIn wsX0_raise wsX0_checkSlot := goodIn_ca (goodIn_r _ [13, 14, 15] (by decide +kernel) (by decide +kernel)) (goodIn_sub (fun _ h => List.mem_cons_of_mem _ (List.mem_append_left _ (List.mem_append_left _ (List.mem_append_right _ h)))) (by decide +kernel))
set_option maxRecDepth 20000 in
theorem gX0_raise_X0_checkSlot : GoodIn wsX0_raise (va_wsS RX0 39 yX0_checkSlot wsX0_checkSlot) := goodIn_app (goodIn_of _ (by decide +kernel)) ggX0_raise_X0_checkSlot
set_option maxRecDepth 20000 in
theorem ggX0_raise_X0_checkRange : GoodIn wsX0_raise wsX0_checkRange := goodIn_ca (goodIn_r _ [18, 19, 20] (by decide +kernel) (by decide +kernel)) (goodIn_sub (fun _ h => List.mem_cons_of_mem _ (List.mem_append_left _ (List.mem_append_right _ h))) (by decide +kernel))
set_option maxRecDepth 20000 in
theorem gX0_raise_X0_checkRange : GoodIn wsX0_raise (va_wsS RX0 43 yX0_checkRange wsX0_checkRange) := goodIn_app (goodIn_of _ (by decide +kernel)) ggX0_raise_X0_checkRange
set_option maxRecDepth 20000 in
theorem ggX0_raise_X0_isTold : GoodIn wsX0_raise wsX0_isTold := goodIn_ca (goodIn_r _ [23, 24, 25, 26, 12, 27, 28, 29, 30, 31] (by decide +kernel) (by decide +kernel)) (goodIn_sub (fun _ h => List.mem_cons_of_mem _ (List.mem_append_right _ h)) (by decide +kernel))
set_option maxRecDepth 20000 in
theorem gX0_raise_X0_isTold : GoodIn wsX0_raise (va_wsS RX0 89 yX0_isTold wsX0_isTold) := goodIn_app (goodIn_of _ (by decide +kernel)) ggX0_raise_X0_isTold
set_option maxRecDepth 20000 in
theorem ggX0_raise_X0_powerSign : GoodIn wsX0_raise wsX0_powerSign := goodIn_r _ [34] (by decide +kernel) (by decide +kernel)
set_option maxRecDepth 20000 in
theorem gX0_raise_X0_powerSign : GoodIn wsX0_raise (va_wsS RX0 69 yX0_powerSign wsX0_powerSign) := goodIn_app (goodIn_of _ (by decide +kernel)) ggX0_raise_X0_powerSign
set_option maxRecDepth 20000 in
theorem ggX0_raise_X0_powerOdd : GoodIn wsX0_raise wsX0_powerOdd := goodIn_ca (goodIn_r _ [27, 28, 29, 30, 12, 31, 24] (by decide +kernel) (by decide +kernel)) (goodIn_sub (fun _ h => List.mem_cons_of_mem _ (List.mem_append_right _ h)) (by decide +kernel))
set_option maxRecDepth 20000 in
theorem gX0_raise_X0_powerOdd : GoodIn wsX0_raise (va_wsS RX0 73 yX0_powerOdd wsX0_powerOdd) := goodIn_app (goodIn_of _ (by decide +kernel)) ggX0_raise_X0_powerOdd
set_option maxRecDepth 20000 in
theorem ggX0_raise_X0_become : GoodIn wsX0_raise wsX0_become := goodIn_ca (goodIn_r _ [38, 39, 40, 41, 8, 42, 9, 43, 7, 44, 45, 46, 47, 48, 49, 50, 51, 52, 53] (by decide +kernel) (by decide +kernel)) (goodIn_sub (fun _ h => List.mem_cons_of_mem _ (List.mem_append_left _ (List.mem_append_left _ (List.mem_append_left _ (List.mem_append_left _ (List.mem_append_left _ (List.mem_append_left _ (List.mem_append_right _ h)))))))) (by decide +kernel))
set_option maxRecDepth 20000 in
theorem gX0_raise_X0_become : GoodIn wsX0_raise (wsV RX0 58 RX0 yX0_become wsX0_become) := goodIn_app (goodIn_of _ (by decide +kernel)) ggX0_raise_X0_become
theorem dX0_raise_0 : decode cX0_raise 0 = .ok (.iload_n 1, 1) := by decide +kernel
theorem dX0_raise_1 : decode cX0_raise 1 = .ok (.invokestatic 39, 3) := by decide +kernel
theorem dX0_raise_4 : decode cX0_raise 4 = .ok (.iload_n 3, 1) := by decide +kernel
theorem dX0_raise_5 : decode cX0_raise 5 = .ok (.invokestatic 39, 3) := by decide +kernel
theorem dX0_raise_8 : decode cX0_raise 8 = .ok (.iload_n 2, 1) := by decide +kernel
theorem dX0_raise_9 : decode cX0_raise 9 = .ok (.bipush (-64), 2) := by decide +kernel
theorem dX0_raise_11 : decode cX0_raise 11 = .ok (.bipush 64, 2) := by decide +kernel
theorem dX0_raise_13 : decode cX0_raise 13 = .ok (.invokestatic 43, 3) := by decide +kernel
theorem dX0_raise_16 : decode cX0_raise 16 = .ok (.aload_n 0, 1) := by decide +kernel
theorem dX0_raise_17 : decode cX0_raise 17 = .ok (.getfield 17, 3) := by decide +kernel
theorem dX0_raise_20 : decode cX0_raise 20 = .ok (.iload_n 1, 1) := by decide +kernel
theorem dX0_raise_21 : decode cX0_raise 21 = .ok (.iaload, 1) := by decide +kernel
theorem dX0_raise_22 : decode cX0_raise 22 = .ok (.ifCond .ge 13, 3) := by decide +kernel
theorem dX0_raise_25 : decode cX0_raise 25 = .ok (.new 77, 3) := by decide +kernel
theorem dX0_raise_28 : decode cX0_raise 28 = .ok (.dup, 1) := by decide +kernel
theorem dX0_raise_29 : decode cX0_raise 29 = .ok (.ldc 79, 2) := by decide +kernel
theorem dX0_raise_31 : decode cX0_raise 31 = .ok (.invokespecial 81, 3) := by decide +kernel
theorem dX0_raise_34 : decode cX0_raise 34 = .ok (.athrow, 1) := by decide +kernel
theorem dX0_raise_35 : decode cX0_raise 35 = .ok (.aload_n 0, 1) := by decide +kernel
theorem dX0_raise_36 : decode cX0_raise 36 = .ok (.getfield 9, 3) := by decide +kernel
theorem dX0_raise_39 : decode cX0_raise 39 = .ok (.iload_n 1, 1) := by decide +kernel
theorem dX0_raise_40 : decode cX0_raise 40 = .ok (.iaload, 1) := by decide +kernel
theorem dX0_raise_41 : decode cX0_raise 41 = .ok (.ifCond .ne 17, 3) := by decide +kernel
theorem dX0_raise_44 : decode cX0_raise 44 = .ok (.iload_n 2, 1) := by decide +kernel
theorem dX0_raise_45 : decode cX0_raise 45 = .ok (.ifCond .ge 13, 3) := by decide +kernel
theorem dX0_raise_48 : decode cX0_raise 48 = .ok (.new 84, 3) := by decide +kernel
theorem dX0_raise_51 : decode cX0_raise 51 = .ok (.dup, 1) := by decide +kernel
theorem dX0_raise_52 : decode cX0_raise 52 = .ok (.ldc 86, 2) := by decide +kernel
theorem dX0_raise_54 : decode cX0_raise 54 = .ok (.invokespecial 88, 3) := by decide +kernel
theorem dX0_raise_57 : decode cX0_raise 57 = .ok (.athrow, 1) := by decide +kernel
theorem dX0_raise_58 : decode cX0_raise 58 = .ok (.aload_n 0, 1) := by decide +kernel
theorem dX0_raise_59 : decode cX0_raise 59 = .ok (.getfield 13, 3) := by decide +kernel
theorem dX0_raise_62 : decode cX0_raise 62 = .ok (.iload_n 1, 1) := by decide +kernel
theorem dX0_raise_63 : decode cX0_raise 63 = .ok (.laload, 1) := by decide +kernel
theorem dX0_raise_64 : decode cX0_raise 64 = .ok (.aload_n 0, 1) := by decide +kernel
theorem dX0_raise_65 : decode cX0_raise 65 = .ok (.getfield 17, 3) := by decide +kernel
theorem dX0_raise_68 : decode cX0_raise 68 = .ok (.iload_n 1, 1) := by decide +kernel
theorem dX0_raise_69 : decode cX0_raise 69 = .ok (.iaload, 1) := by decide +kernel
theorem dX0_raise_70 : decode cX0_raise 70 = .ok (.iload_n 2, 1) := by decide +kernel
theorem dX0_raise_71 : decode cX0_raise 71 = .ok (.invokestatic 89, 3) := by decide +kernel
theorem dX0_raise_74 : decode cX0_raise 74 = .ok (.ifCond .ne 13, 3) := by decide +kernel
theorem dX0_raise_77 : decode cX0_raise 77 = .ok (.new 93, 3) := by decide +kernel
theorem dX0_raise_80 : decode cX0_raise 80 = .ok (.dup, 1) := by decide +kernel
theorem dX0_raise_81 : decode cX0_raise 81 = .ok (.ldc 95, 2) := by decide +kernel
theorem dX0_raise_83 : decode cX0_raise 83 = .ok (.invokespecial 97, 3) := by decide +kernel
theorem dX0_raise_86 : decode cX0_raise 86 = .ok (.athrow, 1) := by decide +kernel
theorem dX0_raise_87 : decode cX0_raise 87 = .ok (.aload_n 0, 1) := by decide +kernel
theorem dX0_raise_88 : decode cX0_raise 88 = .ok (.iload_n 3, 1) := by decide +kernel
theorem dX0_raise_89 : decode cX0_raise 89 = .ok (.aload_n 0, 1) := by decide +kernel
theorem dX0_raise_90 : decode cX0_raise 90 = .ok (.getfield 9, 3) := by decide +kernel
theorem dX0_raise_93 : decode cX0_raise 93 = .ok (.iload_n 1, 1) := by decide +kernel
theorem dX0_raise_94 : decode cX0_raise 94 = .ok (.iaload, 1) := by decide +kernel
theorem dX0_raise_95 : decode cX0_raise 95 = .ok (.iload_n 2, 1) := by decide +kernel
theorem dX0_raise_96 : decode cX0_raise 96 = .ok (.invokestatic 69, 3) := by decide +kernel
theorem dX0_raise_99 : decode cX0_raise 99 = .ok (.aload_n 0, 1) := by decide +kernel
theorem dX0_raise_100 : decode cX0_raise 100 = .ok (.getfield 13, 3) := by decide +kernel
theorem dX0_raise_103 : decode cX0_raise 103 = .ok (.iload_n 1, 1) := by decide +kernel
theorem dX0_raise_104 : decode cX0_raise 104 = .ok (.laload, 1) := by decide +kernel
theorem dX0_raise_105 : decode cX0_raise 105 = .ok (.iload_n 2, 1) := by decide +kernel
theorem dX0_raise_106 : decode cX0_raise 106 = .ok (.invokestatic 73, 3) := by decide +kernel
theorem dX0_raise_109 : decode cX0_raise 109 = .ok (.aload_n 0, 1) := by decide +kernel
theorem dX0_raise_110 : decode cX0_raise 110 = .ok (.getfield 17, 3) := by decide +kernel
theorem dX0_raise_113 : decode cX0_raise 113 = .ok (.iload_n 1, 1) := by decide +kernel
theorem dX0_raise_114 : decode cX0_raise 114 = .ok (.iaload, 1) := by decide +kernel
theorem dX0_raise_115 : decode cX0_raise 115 = .ok (.iload_n 2, 1) := by decide +kernel
theorem dX0_raise_116 : decode cX0_raise 116 = .ok (.imul, 1) := by decide +kernel
theorem dX0_raise_117 : decode cX0_raise 117 = .ok (.invokevirtual 58, 3) := by decide +kernel
theorem dX0_raise_120 : decode cX0_raise 120 = .ok (.ireturn, 1) := by decide +kernel
set_option maxRecDepth 20000 in
theorem ggX0_copy_X0_checkSlot : GoodIn wsX0_copy wsX0_checkSlot := goodIn_ca (goodIn_r _ [7, 8, 9] (by decide +kernel) (by decide +kernel)) (goodIn_sub (fun _ h => List.mem_cons_of_mem _ (List.mem_append_right _ h)) (by decide +kernel))
set_option maxRecDepth 20000 in
theorem gX0_copy_X0_checkSlot : GoodIn wsX0_copy (va_wsS RX0 39 yX0_checkSlot wsX0_checkSlot) := goodIn_app (goodIn_of _ (by decide +kernel)) ggX0_copy_X0_checkSlot
set_option maxRecDepth 20000 in
theorem ggX0_copy_X0_become : GoodIn wsX0_copy wsX0_become := goodIn_ca (goodIn_r _ [13, 14, 15, 16, 1, 17, 2, 18, 3, 19, 20, 21, 22, 23, 24, 25, 26, 27, 28] (by decide +kernel) (by decide +kernel)) (goodIn_sub (fun _ h => List.mem_cons_of_mem _ (List.mem_append_left _ (List.mem_append_right _ h))) (by decide +kernel))
set_option maxRecDepth 20000 in
theorem gX0_copy_X0_become : GoodIn wsX0_copy (wsV RX0 58 RX0 yX0_become wsX0_become) := goodIn_app (goodIn_of _ (by decide +kernel)) ggX0_copy_X0_become
theorem dX0_copy_0 : decode cX0_copy 0 = .ok (.iload_n 1, 1) := by decide +kernel
theorem dX0_copy_1 : decode cX0_copy 1 = .ok (.invokestatic 39, 3) := by decide +kernel
theorem dX0_copy_4 : decode cX0_copy 4 = .ok (.iload_n 2, 1) := by decide +kernel
theorem dX0_copy_5 : decode cX0_copy 5 = .ok (.invokestatic 39, 3) := by decide +kernel
theorem dX0_copy_8 : decode cX0_copy 8 = .ok (.aload_n 0, 1) := by decide +kernel
theorem dX0_copy_9 : decode cX0_copy 9 = .ok (.iload_n 2, 1) := by decide +kernel
theorem dX0_copy_10 : decode cX0_copy 10 = .ok (.aload_n 0, 1) := by decide +kernel
theorem dX0_copy_11 : decode cX0_copy 11 = .ok (.getfield 9, 3) := by decide +kernel
theorem dX0_copy_14 : decode cX0_copy 14 = .ok (.iload_n 1, 1) := by decide +kernel
theorem dX0_copy_15 : decode cX0_copy 15 = .ok (.iaload, 1) := by decide +kernel
theorem dX0_copy_16 : decode cX0_copy 16 = .ok (.aload_n 0, 1) := by decide +kernel
theorem dX0_copy_17 : decode cX0_copy 17 = .ok (.getfield 13, 3) := by decide +kernel
theorem dX0_copy_20 : decode cX0_copy 20 = .ok (.iload_n 1, 1) := by decide +kernel
theorem dX0_copy_21 : decode cX0_copy 21 = .ok (.laload, 1) := by decide +kernel
theorem dX0_copy_22 : decode cX0_copy 22 = .ok (.aload_n 0, 1) := by decide +kernel
theorem dX0_copy_23 : decode cX0_copy 23 = .ok (.getfield 17, 3) := by decide +kernel
theorem dX0_copy_26 : decode cX0_copy 26 = .ok (.iload_n 1, 1) := by decide +kernel
theorem dX0_copy_27 : decode cX0_copy 27 = .ok (.iaload, 1) := by decide +kernel
theorem dX0_copy_28 : decode cX0_copy 28 = .ok (.invokevirtual 58, 3) := by decide +kernel
theorem dX0_copy_31 : decode cX0_copy 31 = .ok (.ireturn, 1) := by decide +kernel
theorem dX0_undo_0 : decode cX0_undo 0 = .ok (.aload_n 0, 1) := by decide +kernel
theorem dX0_undo_1 : decode cX0_undo 1 = .ok (.getfield 36, 3) := by decide +kernel
theorem dX0_undo_4 : decode cX0_undo 4 = .ok (.ifCond .ne 13, 3) := by decide +kernel
theorem dX0_undo_7 : decode cX0_undo 7 = .ok (.new 98, 3) := by decide +kernel
theorem dX0_undo_10 : decode cX0_undo 10 = .ok (.dup, 1) := by decide +kernel
theorem dX0_undo_11 : decode cX0_undo 11 = .ok (.ldc 100, 2) := by decide +kernel
theorem dX0_undo_13 : decode cX0_undo 13 = .ok (.invokespecial 102, 3) := by decide +kernel
theorem dX0_undo_16 : decode cX0_undo 16 = .ok (.athrow, 1) := by decide +kernel
theorem dX0_undo_17 : decode cX0_undo 17 = .ok (.aload_n 0, 1) := by decide +kernel
theorem dX0_undo_18 : decode cX0_undo 18 = .ok (.dup, 1) := by decide +kernel
theorem dX0_undo_19 : decode cX0_undo 19 = .ok (.getfield 36, 3) := by decide +kernel
theorem dX0_undo_22 : decode cX0_undo 22 = .ok (.iconst 1, 1) := by decide +kernel
theorem dX0_undo_23 : decode cX0_undo 23 = .ok (.isub, 1) := by decide +kernel
theorem dX0_undo_24 : decode cX0_undo 24 = .ok (.putfield 36, 3) := by decide +kernel
theorem dX0_undo_27 : decode cX0_undo 27 = .ok (.aload_n 0, 1) := by decide +kernel
theorem dX0_undo_28 : decode cX0_undo 28 = .ok (.aload_n 0, 1) := by decide +kernel
theorem dX0_undo_29 : decode cX0_undo 29 = .ok (.getfield 32, 3) := by decide +kernel
theorem dX0_undo_32 : decode cX0_undo 32 = .ok (.bipush 8, 2) := by decide +kernel
theorem dX0_undo_34 : decode cX0_undo 34 = .ok (.iadd, 1) := by decide +kernel
theorem dX0_undo_35 : decode cX0_undo 35 = .ok (.iconst 1, 1) := by decide +kernel
theorem dX0_undo_36 : decode cX0_undo 36 = .ok (.isub, 1) := by decide +kernel
theorem dX0_undo_37 : decode cX0_undo 37 = .ok (.bipush 8, 2) := by decide +kernel
theorem dX0_undo_39 : decode cX0_undo 39 = .ok (.irem, 1) := by decide +kernel
theorem dX0_undo_40 : decode cX0_undo 40 = .ok (.putfield 32, 3) := by decide +kernel
theorem dX0_undo_43 : decode cX0_undo 43 = .ok (.aload_n 0, 1) := by decide +kernel
theorem dX0_undo_44 : decode cX0_undo 44 = .ok (.getfield 20, 3) := by decide +kernel
theorem dX0_undo_47 : decode cX0_undo 47 = .ok (.aload_n 0, 1) := by decide +kernel
theorem dX0_undo_48 : decode cX0_undo 48 = .ok (.getfield 32, 3) := by decide +kernel
theorem dX0_undo_51 : decode cX0_undo 51 = .ok (.iaload, 1) := by decide +kernel
theorem dX0_undo_52 : decode cX0_undo 52 = .ok (.istore_n 1, 1) := by decide +kernel
theorem dX0_undo_53 : decode cX0_undo 53 = .ok (.aload_n 0, 1) := by decide +kernel
theorem dX0_undo_54 : decode cX0_undo 54 = .ok (.getfield 9, 3) := by decide +kernel
theorem dX0_undo_57 : decode cX0_undo 57 = .ok (.iload_n 1, 1) := by decide +kernel
theorem dX0_undo_58 : decode cX0_undo 58 = .ok (.aload_n 0, 1) := by decide +kernel
theorem dX0_undo_59 : decode cX0_undo 59 = .ok (.getfield 23, 3) := by decide +kernel
theorem dX0_undo_62 : decode cX0_undo 62 = .ok (.aload_n 0, 1) := by decide +kernel
theorem dX0_undo_63 : decode cX0_undo 63 = .ok (.getfield 32, 3) := by decide +kernel
theorem dX0_undo_66 : decode cX0_undo 66 = .ok (.iaload, 1) := by decide +kernel
theorem dX0_undo_67 : decode cX0_undo 67 = .ok (.iastore, 1) := by decide +kernel
theorem dX0_undo_68 : decode cX0_undo 68 = .ok (.aload_n 0, 1) := by decide +kernel
theorem dX0_undo_69 : decode cX0_undo 69 = .ok (.getfield 13, 3) := by decide +kernel
theorem dX0_undo_72 : decode cX0_undo 72 = .ok (.iload_n 1, 1) := by decide +kernel
theorem dX0_undo_73 : decode cX0_undo 73 = .ok (.aload_n 0, 1) := by decide +kernel
theorem dX0_undo_74 : decode cX0_undo 74 = .ok (.getfield 26, 3) := by decide +kernel
theorem dX0_undo_77 : decode cX0_undo 77 = .ok (.aload_n 0, 1) := by decide +kernel
theorem dX0_undo_78 : decode cX0_undo 78 = .ok (.getfield 32, 3) := by decide +kernel
theorem dX0_undo_81 : decode cX0_undo 81 = .ok (.laload, 1) := by decide +kernel
theorem dX0_undo_82 : decode cX0_undo 82 = .ok (.lastore, 1) := by decide +kernel
theorem dX0_undo_83 : decode cX0_undo 83 = .ok (.aload_n 0, 1) := by decide +kernel
theorem dX0_undo_84 : decode cX0_undo 84 = .ok (.getfield 17, 3) := by decide +kernel
theorem dX0_undo_87 : decode cX0_undo 87 = .ok (.iload_n 1, 1) := by decide +kernel
theorem dX0_undo_88 : decode cX0_undo 88 = .ok (.aload_n 0, 1) := by decide +kernel
theorem dX0_undo_89 : decode cX0_undo 89 = .ok (.getfield 29, 3) := by decide +kernel
theorem dX0_undo_92 : decode cX0_undo 92 = .ok (.aload_n 0, 1) := by decide +kernel
theorem dX0_undo_93 : decode cX0_undo 93 = .ok (.getfield 32, 3) := by decide +kernel
theorem dX0_undo_96 : decode cX0_undo 96 = .ok (.iaload, 1) := by decide +kernel
theorem dX0_undo_97 : decode cX0_undo 97 = .ok (.iastore, 1) := by decide +kernel
theorem dX0_undo_98 : decode cX0_undo 98 = .ok (.iload_n 1, 1) := by decide +kernel
theorem dX0_undo_99 : decode cX0_undo 99 = .ok (.ireturn, 1) := by decide +kernel
theorem dX0_kept_0 : decode cX0_kept 0 = .ok (.aload_n 0, 1) := by decide +kernel
theorem dX0_kept_1 : decode cX0_kept 1 = .ok (.getfield 36, 3) := by decide +kernel
theorem dX0_kept_4 : decode cX0_kept 4 = .ok (.ireturn, 1) := by decide +kernel
set_option maxRecDepth 20000 in
theorem ggX0_sign_X0_checkSlot : GoodIn wsX0_sign wsX0_checkSlot := goodIn_ca (goodIn_r _ [5, 6, 7] (by decide +kernel) (by decide +kernel)) (goodIn_sub (fun _ h => List.mem_cons_of_mem _ (List.mem_append_right _ h)) (by decide +kernel))
set_option maxRecDepth 20000 in
theorem gX0_sign_X0_checkSlot : GoodIn wsX0_sign (va_wsS RX0 39 yX0_checkSlot wsX0_checkSlot) := goodIn_app (goodIn_of _ (by decide +kernel)) ggX0_sign_X0_checkSlot
theorem dX0_sign_0 : decode cX0_sign 0 = .ok (.iload_n 1, 1) := by decide +kernel
theorem dX0_sign_1 : decode cX0_sign 1 = .ok (.invokestatic 39, 3) := by decide +kernel
theorem dX0_sign_4 : decode cX0_sign 4 = .ok (.aload_n 0, 1) := by decide +kernel
theorem dX0_sign_5 : decode cX0_sign 5 = .ok (.getfield 9, 3) := by decide +kernel
theorem dX0_sign_8 : decode cX0_sign 8 = .ok (.iload_n 1, 1) := by decide +kernel
theorem dX0_sign_9 : decode cX0_sign 9 = .ok (.iaload, 1) := by decide +kernel
theorem dX0_sign_10 : decode cX0_sign 10 = .ok (.ireturn, 1) := by decide +kernel
set_option maxRecDepth 20000 in
theorem ggX0_odd_X0_checkSlot : GoodIn wsX0_odd wsX0_checkSlot := goodIn_ca (goodIn_r _ [5, 6, 7] (by decide +kernel) (by decide +kernel)) (goodIn_sub (fun _ h => List.mem_cons_of_mem _ (List.mem_append_right _ h)) (by decide +kernel))
set_option maxRecDepth 20000 in
theorem gX0_odd_X0_checkSlot : GoodIn wsX0_odd (va_wsS RX0 39 yX0_checkSlot wsX0_checkSlot) := goodIn_app (goodIn_of _ (by decide +kernel)) ggX0_odd_X0_checkSlot
theorem dX0_odd_0 : decode cX0_odd 0 = .ok (.iload_n 1, 1) := by decide +kernel
theorem dX0_odd_1 : decode cX0_odd 1 = .ok (.invokestatic 39, 3) := by decide +kernel
theorem dX0_odd_4 : decode cX0_odd 4 = .ok (.aload_n 0, 1) := by decide +kernel
theorem dX0_odd_5 : decode cX0_odd 5 = .ok (.getfield 13, 3) := by decide +kernel
theorem dX0_odd_8 : decode cX0_odd 8 = .ok (.iload_n 1, 1) := by decide +kernel
theorem dX0_odd_9 : decode cX0_odd 9 = .ok (.laload, 1) := by decide +kernel
theorem dX0_odd_10 : decode cX0_odd 10 = .ok (.lreturn, 1) := by decide +kernel
set_option maxRecDepth 20000 in
theorem ggX0_shift_X0_checkSlot : GoodIn wsX0_shift wsX0_checkSlot := goodIn_ca (goodIn_r _ [5, 6, 7] (by decide +kernel) (by decide +kernel)) (goodIn_sub (fun _ h => List.mem_cons_of_mem _ (List.mem_append_right _ h)) (by decide +kernel))
set_option maxRecDepth 20000 in
theorem gX0_shift_X0_checkSlot : GoodIn wsX0_shift (va_wsS RX0 39 yX0_checkSlot wsX0_checkSlot) := goodIn_app (goodIn_of _ (by decide +kernel)) ggX0_shift_X0_checkSlot
theorem dX0_shift_0 : decode cX0_shift 0 = .ok (.iload_n 1, 1) := by decide +kernel
theorem dX0_shift_1 : decode cX0_shift 1 = .ok (.invokestatic 39, 3) := by decide +kernel
theorem dX0_shift_4 : decode cX0_shift 4 = .ok (.aload_n 0, 1) := by decide +kernel
theorem dX0_shift_5 : decode cX0_shift 5 = .ok (.getfield 17, 3) := by decide +kernel
theorem dX0_shift_8 : decode cX0_shift 8 = .ok (.iload_n 1, 1) := by decide +kernel
theorem dX0_shift_9 : decode cX0_shift 9 = .ok (.iaload, 1) := by decide +kernel
theorem dX0_shift_10 : decode cX0_shift 10 = .ok (.ireturn, 1) := by decide +kernel
set_option maxRecDepth 20000 in
theorem ggX0_bits_X0_checkSlot : GoodIn wsX0_bits wsX0_checkSlot := goodIn_ca (goodIn_r _ [4, 5, 6] (by decide +kernel) (by decide +kernel)) (goodIn_sub (fun _ h => List.mem_cons_of_mem _ (List.mem_append_left _ (List.mem_append_right _ h))) (by decide +kernel))
set_option maxRecDepth 20000 in
theorem gX0_bits_X0_checkSlot : GoodIn wsX0_bits (va_wsS RX0 39 yX0_checkSlot wsX0_checkSlot) := goodIn_app (goodIn_of _ (by decide +kernel)) ggX0_bits_X0_checkSlot
set_option maxRecDepth 20000 in
theorem ggX0_bits_X0_slotBits : GoodIn wsX0_bits wsX0_slotBits := goodIn_ca (goodIn_r _ [10, 11, 12, 13, 14, 15, 3, 16, 17, 18, 19, 20, 21, 22, 23, 24, 25, 26, 27, 28, 29, 30, 31, 32, 33, 34] (by decide +kernel) (by decide +kernel)) (goodIn_sub (fun _ h => List.mem_cons_of_mem _ (List.mem_append_right _ h)) (by decide +kernel))
set_option maxRecDepth 20000 in
theorem gX0_bits_X0_slotBits : GoodIn wsX0_bits (wsV RX0 103 RX0 yX0_slotBits wsX0_slotBits) := goodIn_app (goodIn_of _ (by decide +kernel)) ggX0_bits_X0_slotBits
theorem dX0_bits_0 : decode cX0_bits 0 = .ok (.iload_n 1, 1) := by decide +kernel
theorem dX0_bits_1 : decode cX0_bits 1 = .ok (.invokestatic 39, 3) := by decide +kernel
theorem dX0_bits_4 : decode cX0_bits 4 = .ok (.aload_n 0, 1) := by decide +kernel
theorem dX0_bits_5 : decode cX0_bits 5 = .ok (.iload_n 1, 1) := by decide +kernel
theorem dX0_bits_6 : decode cX0_bits 6 = .ok (.invokevirtual 103, 3) := by decide +kernel
theorem dX0_bits_9 : decode cX0_bits 9 = .ok (.lreturn, 1) := by decide +kernel
set_option maxRecDepth 20000 in
theorem ggX0_isWhole_X0_checkSlot : GoodIn wsX0_isWhole wsX0_checkSlot := goodIn_ca (goodIn_r _ [5, 6, 7] (by decide +kernel) (by decide +kernel)) (goodIn_sub (fun _ h => List.mem_cons_of_mem _ (List.mem_append_right _ h)) (by decide +kernel))
set_option maxRecDepth 20000 in
theorem gX0_isWhole_X0_checkSlot : GoodIn wsX0_isWhole (va_wsS RX0 39 yX0_checkSlot wsX0_checkSlot) := goodIn_app (goodIn_of _ (by decide +kernel)) ggX0_isWhole_X0_checkSlot
theorem dX0_isWhole_0 : decode cX0_isWhole 0 = .ok (.iload_n 1, 1) := by decide +kernel
theorem dX0_isWhole_1 : decode cX0_isWhole 1 = .ok (.invokestatic 39, 3) := by decide +kernel
theorem dX0_isWhole_4 : decode cX0_isWhole 4 = .ok (.aload_n 0, 1) := by decide +kernel
theorem dX0_isWhole_5 : decode cX0_isWhole 5 = .ok (.getfield 17, 3) := by decide +kernel
theorem dX0_isWhole_8 : decode cX0_isWhole 8 = .ok (.iload_n 1, 1) := by decide +kernel
theorem dX0_isWhole_9 : decode cX0_isWhole 9 = .ok (.iaload, 1) := by decide +kernel
theorem dX0_isWhole_10 : decode cX0_isWhole 10 = .ok (.ifCond .lt 7, 3) := by decide +kernel
theorem dX0_isWhole_13 : decode cX0_isWhole 13 = .ok (.iconst 1, 1) := by decide +kernel
theorem dX0_isWhole_14 : decode cX0_isWhole 14 = .ok (.goto 4, 3) := by decide +kernel
theorem dX0_isWhole_17 : decode cX0_isWhole 17 = .ok (.iconst 0, 1) := by decide +kernel
theorem dX0_isWhole_18 : decode cX0_isWhole 18 = .ok (.ireturn, 1) := by decide +kernel
set_option maxRecDepth 20000 in
theorem ggX0_whole_X0_checkSlot : GoodIn wsX0_whole wsX0_checkSlot := goodIn_ca (goodIn_r _ [5, 6, 7] (by decide +kernel) (by decide +kernel)) (goodIn_sub (fun _ h => List.mem_cons_of_mem _ (List.mem_append_left _ (List.mem_append_right _ h))) (by decide +kernel))
set_option maxRecDepth 20000 in
theorem gX0_whole_X0_checkSlot : GoodIn wsX0_whole (va_wsS RX0 39 yX0_checkSlot wsX0_checkSlot) := goodIn_app (goodIn_of _ (by decide +kernel)) ggX0_whole_X0_checkSlot
set_option maxRecDepth 20000 in
theorem ggX0_whole_X0_checkNear : GoodIn wsX0_whole wsX0_checkNear := goodIn_ca (goodIn_ca (goodIn_r _ [11, 12, 13, 14, 15, 16, 17, 4, 18, 19, 24, 25, 26, 27, 28, 29, 30, 31, 32] (by decide +kernel) (by decide +kernel)) (goodIn_sub (fun _ h => List.mem_cons_of_mem _ (List.mem_append_left _ (List.mem_append_left _ (List.mem_append_right _ h)))) (by decide +kernel))) (goodIn_sub (fun _ h => List.mem_cons_of_mem _ (List.mem_append_right _ h)) (by decide +kernel))
set_option maxRecDepth 20000 in
theorem gX0_whole_X0_checkNear : GoodIn wsX0_whole (wsV RX0 106 RX0 yX0_checkNear wsX0_checkNear) := goodIn_app (goodIn_of _ (by decide +kernel)) ggX0_whole_X0_checkNear
set_option maxRecDepth 20000 in
theorem ggX0_whole_X0_nearSize : GoodIn wsX0_whole wsX0_nearSize := goodIn_ca (goodIn_r _ [23, 14, 15, 24, 25, 26, 27, 28, 29, 30, 31, 32] (by decide +kernel) (by decide +kernel)) (goodIn_sub (fun _ h => List.mem_cons_of_mem _ (List.mem_append_left _ (List.mem_append_left _ (List.mem_append_right _ h)))) (by decide +kernel))
set_option maxRecDepth 20000 in
theorem gX0_whole_X0_nearSize : GoodIn wsX0_whole (wsV RX0 109 RX0 yX0_nearSize wsX0_nearSize) := goodIn_app (goodIn_of _ (by decide +kernel)) ggX0_whole_X0_nearSize
theorem dX0_whole_0 : decode cX0_whole 0 = .ok (.iload_n 1, 1) := by decide +kernel
theorem dX0_whole_1 : decode cX0_whole 1 = .ok (.invokestatic 39, 3) := by decide +kernel
theorem dX0_whole_4 : decode cX0_whole 4 = .ok (.aload_n 0, 1) := by decide +kernel
theorem dX0_whole_5 : decode cX0_whole 5 = .ok (.iload_n 1, 1) := by decide +kernel
theorem dX0_whole_6 : decode cX0_whole 6 = .ok (.invokevirtual 106, 3) := by decide +kernel
theorem dX0_whole_9 : decode cX0_whole 9 = .ok (.aload_n 0, 1) := by decide +kernel
theorem dX0_whole_10 : decode cX0_whole 10 = .ok (.getfield 9, 3) := by decide +kernel
theorem dX0_whole_13 : decode cX0_whole 13 = .ok (.iload_n 1, 1) := by decide +kernel
theorem dX0_whole_14 : decode cX0_whole 14 = .ok (.iaload, 1) := by decide +kernel
theorem dX0_whole_15 : decode cX0_whole 15 = .ok (.i2l, 1) := by decide +kernel
theorem dX0_whole_16 : decode cX0_whole 16 = .ok (.aload_n 0, 1) := by decide +kernel
theorem dX0_whole_17 : decode cX0_whole 17 = .ok (.iload_n 1, 1) := by decide +kernel
theorem dX0_whole_18 : decode cX0_whole 18 = .ok (.invokevirtual 109, 3) := by decide +kernel
theorem dX0_whole_21 : decode cX0_whole 21 = .ok (.lmul, 1) := by decide +kernel
theorem dX0_whole_22 : decode cX0_whole 22 = .ok (.lreturn, 1) := by decide +kernel
set_option maxRecDepth 20000 in
theorem ggX0_compare_X0_checkSlot : GoodIn wsX0_compare wsX0_checkSlot := goodIn_ca (goodIn_r _ [4, 5, 6] (by decide +kernel) (by decide +kernel)) (goodIn_sub (fun _ h => List.mem_cons_of_mem _ (List.mem_append_left _ (List.mem_append_right _ h))) (by decide +kernel))
set_option maxRecDepth 20000 in
theorem gX0_compare_X0_checkSlot : GoodIn wsX0_compare (va_wsS RX0 39 yX0_checkSlot wsX0_checkSlot) := goodIn_app (goodIn_of _ (by decide +kernel)) ggX0_compare_X0_checkSlot
set_option maxRecDepth 20000 in
theorem ggX0_compare_X0_orderKey : GoodIn wsX0_compare wsX0_orderKey := goodIn_ca (goodIn_r _ [10, 11, 12, 13, 14, 3, 15, 16, 17, 18, 19, 20, 21, 22, 23, 24, 25, 26, 27, 28, 29, 30, 31, 32, 33, 34, 35, 36, 37, 38] (by decide +kernel) (by decide +kernel)) (goodIn_sub (fun _ h => List.mem_cons_of_mem _ (List.mem_append_right _ h)) (by decide +kernel))
set_option maxRecDepth 20000 in
theorem gX0_compare_X0_orderKey : GoodIn wsX0_compare (wsV RX0 112 RX0 yX0_orderKey wsX0_orderKey) := goodIn_app (goodIn_of _ (by decide +kernel)) ggX0_compare_X0_orderKey
theorem dX0_compare_0 : decode cX0_compare 0 = .ok (.iload_n 1, 1) := by decide +kernel
theorem dX0_compare_1 : decode cX0_compare 1 = .ok (.invokestatic 39, 3) := by decide +kernel
theorem dX0_compare_4 : decode cX0_compare 4 = .ok (.iload_n 2, 1) := by decide +kernel
theorem dX0_compare_5 : decode cX0_compare 5 = .ok (.invokestatic 39, 3) := by decide +kernel
theorem dX0_compare_8 : decode cX0_compare 8 = .ok (.aload_n 0, 1) := by decide +kernel
theorem dX0_compare_9 : decode cX0_compare 9 = .ok (.iload_n 1, 1) := by decide +kernel
theorem dX0_compare_10 : decode cX0_compare 10 = .ok (.invokevirtual 112, 3) := by decide +kernel
theorem dX0_compare_13 : decode cX0_compare 13 = .ok (.lstore_n 3, 1) := by decide +kernel
theorem dX0_compare_14 : decode cX0_compare 14 = .ok (.aload_n 0, 1) := by decide +kernel
theorem dX0_compare_15 : decode cX0_compare 15 = .ok (.iload_n 2, 1) := by decide +kernel
theorem dX0_compare_16 : decode cX0_compare 16 = .ok (.invokevirtual 112, 3) := by decide +kernel
theorem dX0_compare_19 : decode cX0_compare 19 = .ok (.lstore 5, 2) := by decide +kernel
theorem dX0_compare_21 : decode cX0_compare 21 = .ok (.lload_n 3, 1) := by decide +kernel
theorem dX0_compare_22 : decode cX0_compare 22 = .ok (.lload 5, 2) := by decide +kernel
theorem dX0_compare_24 : decode cX0_compare 24 = .ok (.lcmp, 1) := by decide +kernel
theorem dX0_compare_25 : decode cX0_compare 25 = .ok (.ifCond .ge 5, 3) := by decide +kernel
theorem dX0_compare_28 : decode cX0_compare 28 = .ok (.iconst (-1), 1) := by decide +kernel
theorem dX0_compare_29 : decode cX0_compare 29 = .ok (.ireturn, 1) := by decide +kernel
theorem dX0_compare_30 : decode cX0_compare 30 = .ok (.lload_n 3, 1) := by decide +kernel
theorem dX0_compare_31 : decode cX0_compare 31 = .ok (.lload 5, 2) := by decide +kernel
theorem dX0_compare_33 : decode cX0_compare 33 = .ok (.lcmp, 1) := by decide +kernel
theorem dX0_compare_34 : decode cX0_compare 34 = .ok (.ifCond .le 7, 3) := by decide +kernel
theorem dX0_compare_37 : decode cX0_compare 37 = .ok (.iconst 1, 1) := by decide +kernel
theorem dX0_compare_38 : decode cX0_compare 38 = .ok (.goto 4, 3) := by decide +kernel
theorem dX0_compare_41 : decode cX0_compare 41 = .ok (.iconst 0, 1) := by decide +kernel
theorem dX0_compare_42 : decode cX0_compare 42 = .ok (.ireturn, 1) := by decide +kernel
set_option maxRecDepth 20000 in
theorem ggX0_rank_X0_checkSlot : GoodIn wsX0_rank wsX0_checkSlot := goodIn_ca (goodIn_r _ [4, 5, 6] (by decide +kernel) (by decide +kernel)) (goodIn_sub (fun _ h => List.mem_cons_of_mem _ (List.mem_append_left _ (List.mem_append_right _ h))) (by decide +kernel))
set_option maxRecDepth 20000 in
theorem gX0_rank_X0_checkSlot : GoodIn wsX0_rank (va_wsS RX0 39 yX0_checkSlot wsX0_checkSlot) := goodIn_app (goodIn_of _ (by decide +kernel)) ggX0_rank_X0_checkSlot
set_option maxRecDepth 20000 in
theorem ggX0_rank_X0_orderKey : GoodIn wsX0_rank wsX0_orderKey := goodIn_ca (goodIn_r _ [10, 11, 12, 13, 14, 3, 15, 16, 17, 18, 19, 20, 21, 22, 23, 24, 25, 26, 27, 28, 29, 30, 31, 32, 33, 34, 35, 36, 37, 38] (by decide +kernel) (by decide +kernel)) (goodIn_sub (fun _ h => List.mem_cons_of_mem _ (List.mem_append_right _ h)) (by decide +kernel))
set_option maxRecDepth 20000 in
theorem gX0_rank_X0_orderKey : GoodIn wsX0_rank (wsV RX0 112 RX0 yX0_orderKey wsX0_orderKey) := goodIn_app (goodIn_of _ (by decide +kernel)) ggX0_rank_X0_orderKey
theorem dX0_rank_0 : decode cX0_rank 0 = .ok (.iload_n 1, 1) := by decide +kernel
theorem dX0_rank_1 : decode cX0_rank 1 = .ok (.invokestatic 39, 3) := by decide +kernel
theorem dX0_rank_4 : decode cX0_rank 4 = .ok (.aload_n 0, 1) := by decide +kernel
theorem dX0_rank_5 : decode cX0_rank 5 = .ok (.iload_n 1, 1) := by decide +kernel
theorem dX0_rank_6 : decode cX0_rank 6 = .ok (.invokevirtual 112, 3) := by decide +kernel
theorem dX0_rank_9 : decode cX0_rank 9 = .ok (.lstore_n 2, 1) := by decide +kernel
theorem dX0_rank_10 : decode cX0_rank 10 = .ok (.iconst 0, 1) := by decide +kernel
theorem dX0_rank_11 : decode cX0_rank 11 = .ok (.istore 4, 2) := by decide +kernel
theorem dX0_rank_13 : decode cX0_rank 13 = .ok (.iconst 0, 1) := by decide +kernel
theorem dX0_rank_14 : decode cX0_rank 14 = .ok (.istore 5, 2) := by decide +kernel
theorem dX0_rank_16 : decode cX0_rank 16 = .ok (.iload 5, 2) := by decide +kernel
theorem dX0_rank_18 : decode cX0_rank 18 = .ok (.bipush 8, 2) := by decide +kernel
theorem dX0_rank_20 : decode cX0_rank 20 = .ok (.if_icmp .ge 23, 3) := by decide +kernel
theorem dX0_rank_23 : decode cX0_rank 23 = .ok (.aload_n 0, 1) := by decide +kernel
theorem dX0_rank_24 : decode cX0_rank 24 = .ok (.iload 5, 2) := by decide +kernel
theorem dX0_rank_26 : decode cX0_rank 26 = .ok (.invokevirtual 112, 3) := by decide +kernel
theorem dX0_rank_29 : decode cX0_rank 29 = .ok (.lload_n 2, 1) := by decide +kernel
theorem dX0_rank_30 : decode cX0_rank 30 = .ok (.lcmp, 1) := by decide +kernel
theorem dX0_rank_31 : decode cX0_rank 31 = .ok (.ifCond .ge 6, 3) := by decide +kernel
theorem dX0_rank_34 : decode cX0_rank 34 = .ok (.iinc 4 1, 3) := by decide +kernel
theorem dX0_rank_37 : decode cX0_rank 37 = .ok (.iinc 5 1, 3) := by decide +kernel
theorem dX0_rank_40 : decode cX0_rank 40 = .ok (.goto (-24), 3) := by decide +kernel
theorem dX0_rank_43 : decode cX0_rank 43 = .ok (.iload 4, 2) := by decide +kernel
theorem dX0_rank_45 : decode cX0_rank 45 = .ok (.ireturn, 1) := by decide +kernel
set_option maxRecDepth 20000 in
theorem ggX0_at_X0_checkSlot : GoodIn wsX0_at wsX0_checkSlot := goodIn_ca (goodIn_r _ [4, 5, 6] (by decide +kernel) (by decide +kernel)) (goodIn_sub (fun _ h => List.mem_cons_of_mem _ (List.mem_append_left _ (List.mem_append_right _ h))) (by decide +kernel))
set_option maxRecDepth 20000 in
theorem gX0_at_X0_checkSlot : GoodIn wsX0_at (va_wsS RX0 39 yX0_checkSlot wsX0_checkSlot) := goodIn_app (goodIn_of _ (by decide +kernel)) ggX0_at_X0_checkSlot
set_option maxRecDepth 20000 in
theorem ggX0_at_X0_placeOf : GoodIn wsX0_at wsX0_placeOf := goodIn_ca (goodIn_r _ [10, 11, 12, 13, 3, 14, 15, 16, 17, 18, 19, 20, 21, 22, 23, 24, 25, 26, 27, 28, 29, 30, 31, 32, 33, 34, 35, 36, 37, 38, 39, 40, 41, 42] (by decide +kernel) (by decide +kernel)) (goodIn_sub (fun _ h => List.mem_cons_of_mem _ (List.mem_append_right _ h)) (by decide +kernel))
set_option maxRecDepth 20000 in
theorem gX0_at_X0_placeOf : GoodIn wsX0_at (wsV RX0 115 RX0 yX0_placeOf wsX0_placeOf) := goodIn_app (goodIn_of _ (by decide +kernel)) ggX0_at_X0_placeOf
theorem dX0_at_0 : decode cX0_at 0 = .ok (.iload_n 1, 1) := by decide +kernel
theorem dX0_at_1 : decode cX0_at 1 = .ok (.invokestatic 39, 3) := by decide +kernel
theorem dX0_at_4 : decode cX0_at 4 = .ok (.iconst 0, 1) := by decide +kernel
theorem dX0_at_5 : decode cX0_at 5 = .ok (.istore_n 2, 1) := by decide +kernel
theorem dX0_at_6 : decode cX0_at 6 = .ok (.iconst 0, 1) := by decide +kernel
theorem dX0_at_7 : decode cX0_at 7 = .ok (.istore_n 3, 1) := by decide +kernel
theorem dX0_at_8 : decode cX0_at 8 = .ok (.iload_n 3, 1) := by decide +kernel
theorem dX0_at_9 : decode cX0_at 9 = .ok (.bipush 8, 2) := by decide +kernel
theorem dX0_at_11 : decode cX0_at 11 = .ok (.if_icmp .ge 20, 3) := by decide +kernel
theorem dX0_at_14 : decode cX0_at 14 = .ok (.aload_n 0, 1) := by decide +kernel
theorem dX0_at_15 : decode cX0_at 15 = .ok (.iload_n 3, 1) := by decide +kernel
theorem dX0_at_16 : decode cX0_at 16 = .ok (.invokevirtual 115, 3) := by decide +kernel
theorem dX0_at_19 : decode cX0_at 19 = .ok (.iload_n 1, 1) := by decide +kernel
theorem dX0_at_20 : decode cX0_at 20 = .ok (.if_icmp .ne 5, 3) := by decide +kernel
theorem dX0_at_23 : decode cX0_at 23 = .ok (.iload_n 3, 1) := by decide +kernel
theorem dX0_at_24 : decode cX0_at 24 = .ok (.istore_n 2, 1) := by decide +kernel
theorem dX0_at_25 : decode cX0_at 25 = .ok (.iinc 3 1, 3) := by decide +kernel
theorem dX0_at_28 : decode cX0_at 28 = .ok (.goto (-20), 3) := by decide +kernel
theorem dX0_at_31 : decode cX0_at 31 = .ok (.iload_n 2, 1) := by decide +kernel
theorem dX0_at_32 : decode cX0_at 32 = .ok (.ireturn, 1) := by decide +kernel
set_option maxRecDepth 20000 in
theorem ggX0_log_X0_checkSlot : GoodIn wsX0_log wsX0_checkSlot := goodIn_ca (goodIn_r _ [7, 8, 9] (by decide +kernel) (by decide +kernel)) (goodIn_sub (fun _ h => List.mem_cons_of_mem _ (List.mem_append_left _ (List.mem_append_left _ (List.mem_append_left _ (List.mem_append_right _ h))))) (by decide +kernel))
set_option maxRecDepth 20000 in
theorem gX0_log_X0_checkSlot : GoodIn wsX0_log (va_wsS RX0 39 yX0_checkSlot wsX0_checkSlot) := goodIn_app (goodIn_of _ (by decide +kernel)) ggX0_log_X0_checkSlot
set_option maxRecDepth 20000 in
theorem ggX0_log_X0_checkDigitBase : GoodIn wsX0_log wsX0_checkDigitBase := goodIn_ca (goodIn_r _ [12, 13, 14, 6, 15, 16, 17] (by decide +kernel) (by decide +kernel)) (goodIn_sub (fun _ h => List.mem_cons_of_mem _ (List.mem_append_left _ (List.mem_append_left _ (List.mem_append_right _ h)))) (by decide +kernel))
set_option maxRecDepth 20000 in
theorem gX0_log_X0_checkDigitBase : GoodIn wsX0_log (va_wsS RX0 118 yX0_checkDigitBase wsX0_checkDigitBase) := goodIn_app (goodIn_of _ (by decide +kernel)) ggX0_log_X0_checkDigitBase
set_option maxRecDepth 20000 in
theorem ggX0_log_X0_checkNear : GoodIn wsX0_log wsX0_checkNear := goodIn_ca (goodIn_ca (goodIn_r _ [21, 22, 23, 24, 25, 26, 27, 6, 28, 29, 37, 38, 39, 40, 41, 42, 43, 44, 45] (by decide +kernel) (by decide +kernel)) (goodIn_sub (fun _ h => List.mem_cons_of_mem _ (List.mem_append_left _ (List.mem_append_left _ (List.mem_append_left _ (List.mem_append_left _ (List.mem_append_left _ (List.mem_append_right _ h))))))) (by decide +kernel))) (goodIn_sub (fun _ h => List.mem_cons_of_mem _ (List.mem_append_left _ (List.mem_append_right _ h))) (by decide +kernel))
set_option maxRecDepth 20000 in
theorem gX0_log_X0_checkNear : GoodIn wsX0_log (wsV RX0 106 RX0 yX0_checkNear wsX0_checkNear) := goodIn_app (goodIn_of _ (by decide +kernel)) ggX0_log_X0_checkNear
set_option maxRecDepth 20000 in
theorem ggX0_log_X0_nearSize : GoodIn wsX0_log wsX0_nearSize := goodIn_ca (goodIn_r _ [33, 24, 25, 37, 38, 39, 40, 41, 42, 43, 44, 45] (by decide +kernel) (by decide +kernel)) (goodIn_sub (fun _ h => List.mem_cons_of_mem _ (List.mem_append_left _ (List.mem_append_left _ (List.mem_append_left _ (List.mem_append_left _ (List.mem_append_left _ (List.mem_append_right _ h))))))) (by decide +kernel))
set_option maxRecDepth 20000 in
theorem gX0_log_X0_nearSize : GoodIn wsX0_log (wsV RX0 109 RX0 yX0_nearSize wsX0_nearSize) := goodIn_app (goodIn_of _ (by decide +kernel)) ggX0_log_X0_nearSize
set_option maxRecDepth 20000 in
theorem ggX0_log_X0_countDigits : GoodIn wsX0_log wsX0_countDigits := goodIn_ca (goodIn_r _ [36] (by decide +kernel) (by decide +kernel)) (goodIn_sub (fun _ h => List.mem_cons_of_mem _ (List.mem_append_right _ h)) (by decide +kernel))
set_option maxRecDepth 20000 in
theorem gX0_log_X0_countDigits : GoodIn wsX0_log (va_wsS RX0 123 yX0_countDigits wsX0_countDigits) := goodIn_app (goodIn_of _ (by decide +kernel)) ggX0_log_X0_countDigits
theorem dX0_log_0 : decode cX0_log 0 = .ok (.iload_n 2, 1) := by decide +kernel
theorem dX0_log_1 : decode cX0_log 1 = .ok (.invokestatic 39, 3) := by decide +kernel
theorem dX0_log_4 : decode cX0_log 4 = .ok (.iload_n 1, 1) := by decide +kernel
theorem dX0_log_5 : decode cX0_log 5 = .ok (.invokestatic 118, 3) := by decide +kernel
theorem dX0_log_8 : decode cX0_log 8 = .ok (.aload_n 0, 1) := by decide +kernel
theorem dX0_log_9 : decode cX0_log 9 = .ok (.iload_n 2, 1) := by decide +kernel
theorem dX0_log_10 : decode cX0_log 10 = .ok (.invokevirtual 106, 3) := by decide +kernel
theorem dX0_log_13 : decode cX0_log 13 = .ok (.aload_n 0, 1) := by decide +kernel
theorem dX0_log_14 : decode cX0_log 14 = .ok (.getfield 9, 3) := by decide +kernel
theorem dX0_log_17 : decode cX0_log 17 = .ok (.iload_n 2, 1) := by decide +kernel
theorem dX0_log_18 : decode cX0_log 18 = .ok (.iaload, 1) := by decide +kernel
theorem dX0_log_19 : decode cX0_log 19 = .ok (.iconst 1, 1) := by decide +kernel
theorem dX0_log_20 : decode cX0_log 20 = .ok (.if_icmp .ge 13, 3) := by decide +kernel
theorem dX0_log_23 : decode cX0_log 23 = .ok (.new 84, 3) := by decide +kernel
theorem dX0_log_26 : decode cX0_log 26 = .ok (.dup, 1) := by decide +kernel
theorem dX0_log_27 : decode cX0_log 27 = .ok (.ldc 121, 2) := by decide +kernel
theorem dX0_log_29 : decode cX0_log 29 = .ok (.invokespecial 88, 3) := by decide +kernel
theorem dX0_log_32 : decode cX0_log 32 = .ok (.athrow, 1) := by decide +kernel
theorem dX0_log_33 : decode cX0_log 33 = .ok (.iload_n 1, 1) := by decide +kernel
theorem dX0_log_34 : decode cX0_log 34 = .ok (.aload_n 0, 1) := by decide +kernel
theorem dX0_log_35 : decode cX0_log 35 = .ok (.iload_n 2, 1) := by decide +kernel
theorem dX0_log_36 : decode cX0_log 36 = .ok (.invokevirtual 109, 3) := by decide +kernel
theorem dX0_log_39 : decode cX0_log 39 = .ok (.invokestatic 123, 3) := by decide +kernel
theorem dX0_log_42 : decode cX0_log 42 = .ok (.iconst 1, 1) := by decide +kernel
theorem dX0_log_43 : decode cX0_log 43 = .ok (.isub, 1) := by decide +kernel
theorem dX0_log_44 : decode cX0_log 44 = .ok (.ireturn, 1) := by decide +kernel
set_option maxRecDepth 20000 in
theorem ggX0_digits_X0_checkSlot : GoodIn wsX0_digits wsX0_checkSlot := goodIn_ca (goodIn_r _ [4, 5, 6] (by decide +kernel) (by decide +kernel)) (goodIn_sub (fun _ h => List.mem_cons_of_mem _ (List.mem_append_left _ (List.mem_append_left _ (List.mem_append_left _ (List.mem_append_left _ (List.mem_append_right _ h)))))) (by decide +kernel))
set_option maxRecDepth 20000 in
theorem gX0_digits_X0_checkSlot : GoodIn wsX0_digits (va_wsS RX0 39 yX0_checkSlot wsX0_checkSlot) := goodIn_app (goodIn_of _ (by decide +kernel)) ggX0_digits_X0_checkSlot
set_option maxRecDepth 20000 in
theorem ggX0_digits_X0_checkDigitBase : GoodIn wsX0_digits wsX0_checkDigitBase := goodIn_ca (goodIn_r _ [9, 10, 11, 3, 12, 13, 14] (by decide +kernel) (by decide +kernel)) (goodIn_sub (fun _ h => List.mem_cons_of_mem _ (List.mem_append_left _ (List.mem_append_left _ (List.mem_append_left _ (List.mem_append_right _ h))))) (by decide +kernel))
set_option maxRecDepth 20000 in
theorem gX0_digits_X0_checkDigitBase : GoodIn wsX0_digits (va_wsS RX0 118 yX0_checkDigitBase wsX0_checkDigitBase) := goodIn_app (goodIn_of _ (by decide +kernel)) ggX0_digits_X0_checkDigitBase
set_option maxRecDepth 20000 in
theorem ggX0_digits_X0_checkNear : GoodIn wsX0_digits wsX0_checkNear := goodIn_ca (goodIn_ca (goodIn_r _ [18, 19, 20, 21, 22, 23, 24, 3, 25, 26, 34, 35, 36, 37, 38, 39, 40, 41, 42] (by decide +kernel) (by decide +kernel)) (goodIn_sub (fun _ h => List.mem_cons_of_mem _ (List.mem_append_left _ (List.mem_append_left _ (List.mem_append_right _ h)))) (by decide +kernel))) (goodIn_sub (fun _ h => List.mem_cons_of_mem _ (List.mem_append_left _ (List.mem_append_right _ h))) (by decide +kernel))
set_option maxRecDepth 20000 in
theorem gX0_digits_X0_checkNear : GoodIn wsX0_digits (wsV RX0 106 RX0 yX0_checkNear wsX0_checkNear) := goodIn_app (goodIn_of _ (by decide +kernel)) ggX0_digits_X0_checkNear
set_option maxRecDepth 20000 in
theorem ggX0_digits_X0_nearSize : GoodIn wsX0_digits wsX0_nearSize := goodIn_ca (goodIn_r _ [30, 21, 22, 34, 35, 36, 37, 38, 39, 40, 41, 42] (by decide +kernel) (by decide +kernel)) (goodIn_sub (fun _ h => List.mem_cons_of_mem _ (List.mem_append_left _ (List.mem_append_left _ (List.mem_append_right _ h)))) (by decide +kernel))
set_option maxRecDepth 20000 in
theorem gX0_digits_X0_nearSize : GoodIn wsX0_digits (wsV RX0 109 RX0 yX0_nearSize wsX0_nearSize) := goodIn_app (goodIn_of _ (by decide +kernel)) ggX0_digits_X0_nearSize
set_option maxRecDepth 20000 in
theorem ggX0_digits_X0_countDigits : GoodIn wsX0_digits wsX0_countDigits := goodIn_ca (goodIn_r _ [33] (by decide +kernel) (by decide +kernel)) (goodIn_sub (fun _ h => List.mem_cons_of_mem _ (List.mem_append_right _ h)) (by decide +kernel))
set_option maxRecDepth 20000 in
theorem gX0_digits_X0_countDigits : GoodIn wsX0_digits (va_wsS RX0 123 yX0_countDigits wsX0_countDigits) := goodIn_app (goodIn_of _ (by decide +kernel)) ggX0_digits_X0_countDigits
theorem dX0_digits_0 : decode cX0_digits 0 = .ok (.iload_n 2, 1) := by decide +kernel
theorem dX0_digits_1 : decode cX0_digits 1 = .ok (.invokestatic 39, 3) := by decide +kernel
theorem dX0_digits_4 : decode cX0_digits 4 = .ok (.iload_n 1, 1) := by decide +kernel
theorem dX0_digits_5 : decode cX0_digits 5 = .ok (.invokestatic 118, 3) := by decide +kernel
theorem dX0_digits_8 : decode cX0_digits 8 = .ok (.aload_n 0, 1) := by decide +kernel
theorem dX0_digits_9 : decode cX0_digits 9 = .ok (.iload_n 2, 1) := by decide +kernel
theorem dX0_digits_10 : decode cX0_digits 10 = .ok (.invokevirtual 106, 3) := by decide +kernel
theorem dX0_digits_13 : decode cX0_digits 13 = .ok (.iload_n 1, 1) := by decide +kernel
theorem dX0_digits_14 : decode cX0_digits 14 = .ok (.aload_n 0, 1) := by decide +kernel
theorem dX0_digits_15 : decode cX0_digits 15 = .ok (.iload_n 2, 1) := by decide +kernel
theorem dX0_digits_16 : decode cX0_digits 16 = .ok (.invokevirtual 109, 3) := by decide +kernel
theorem dX0_digits_19 : decode cX0_digits 19 = .ok (.invokestatic 123, 3) := by decide +kernel
theorem dX0_digits_22 : decode cX0_digits 22 = .ok (.ireturn, 1) := by decide +kernel
set_option maxRecDepth 20000 in
theorem ggX0_digit_X0_checkSlot : GoodIn wsX0_digit wsX0_checkSlot := goodIn_ca (goodIn_r _ [6, 7, 8] (by decide +kernel) (by decide +kernel)) (goodIn_sub (fun _ h => List.mem_cons_of_mem _ (List.mem_append_left _ (List.mem_append_left _ (List.mem_append_right _ h)))) (by decide +kernel))
set_option maxRecDepth 20000 in
theorem gX0_digit_X0_checkSlot : GoodIn wsX0_digit (va_wsS RX0 39 yX0_checkSlot wsX0_checkSlot) := goodIn_app (goodIn_of _ (by decide +kernel)) ggX0_digit_X0_checkSlot
set_option maxRecDepth 20000 in
theorem ggX0_digit_X0_checkDigitBase : GoodIn wsX0_digit wsX0_checkDigitBase := goodIn_ca (goodIn_r _ [11, 12, 13, 5, 14, 1, 2] (by decide +kernel) (by decide +kernel)) (goodIn_sub (fun _ h => List.mem_cons_of_mem _ (List.mem_append_left _ (List.mem_append_left _ (List.mem_append_left _ (List.mem_append_left _ (List.mem_append_right _ h)))))) (by decide +kernel))
set_option maxRecDepth 20000 in
theorem gX0_digit_X0_checkDigitBase : GoodIn wsX0_digit (va_wsS RX0 118 yX0_checkDigitBase wsX0_checkDigitBase) := goodIn_app (goodIn_of _ (by decide +kernel)) ggX0_digit_X0_checkDigitBase
set_option maxRecDepth 20000 in
theorem ggX0_digit_X0_checkNear : GoodIn wsX0_digit wsX0_checkNear := goodIn_ca (goodIn_ca (goodIn_r _ [18, 19, 20, 21, 22, 23, 24, 5, 25, 26, 31, 32, 33, 34, 35, 36, 37, 38, 39] (by decide +kernel) (by decide +kernel)) (goodIn_sub (fun _ h => List.mem_cons_of_mem _ (List.mem_append_left _ (List.mem_append_right _ h))) (by decide +kernel))) (goodIn_sub (fun _ h => List.mem_cons_of_mem _ (List.mem_append_right _ h)) (by decide +kernel))
set_option maxRecDepth 20000 in
theorem gX0_digit_X0_checkNear : GoodIn wsX0_digit (wsV RX0 106 RX0 yX0_checkNear wsX0_checkNear) := goodIn_app (goodIn_of _ (by decide +kernel)) ggX0_digit_X0_checkNear
set_option maxRecDepth 20000 in
theorem ggX0_digit_X0_nearSize : GoodIn wsX0_digit wsX0_nearSize := goodIn_ca (goodIn_r _ [30, 21, 22, 31, 32, 33, 34, 35, 36, 37, 38, 39] (by decide +kernel) (by decide +kernel)) (goodIn_sub (fun _ h => List.mem_cons_of_mem _ (List.mem_append_left _ (List.mem_append_right _ h))) (by decide +kernel))
set_option maxRecDepth 20000 in
theorem gX0_digit_X0_nearSize : GoodIn wsX0_digit (wsV RX0 109 RX0 yX0_nearSize wsX0_nearSize) := goodIn_app (goodIn_of _ (by decide +kernel)) ggX0_digit_X0_nearSize
theorem dX0_digit_0 : decode cX0_digit 0 = .ok (.iload_n 2, 1) := by decide +kernel
theorem dX0_digit_1 : decode cX0_digit 1 = .ok (.invokestatic 39, 3) := by decide +kernel
theorem dX0_digit_4 : decode cX0_digit 4 = .ok (.iload_n 1, 1) := by decide +kernel
theorem dX0_digit_5 : decode cX0_digit 5 = .ok (.invokestatic 118, 3) := by decide +kernel
theorem dX0_digit_8 : decode cX0_digit 8 = .ok (.iload_n 3, 1) := by decide +kernel
theorem dX0_digit_9 : decode cX0_digit 9 = .ok (.ifCond .ge 13, 3) := by decide +kernel
theorem dX0_digit_12 : decode cX0_digit 12 = .ok (.new 127, 3) := by decide +kernel
theorem dX0_digit_15 : decode cX0_digit 15 = .ok (.dup, 1) := by decide +kernel
theorem dX0_digit_16 : decode cX0_digit 16 = .ok (.ldc 129, 2) := by decide +kernel
theorem dX0_digit_18 : decode cX0_digit 18 = .ok (.invokespecial 131, 3) := by decide +kernel
theorem dX0_digit_21 : decode cX0_digit 21 = .ok (.athrow, 1) := by decide +kernel
theorem dX0_digit_22 : decode cX0_digit 22 = .ok (.aload_n 0, 1) := by decide +kernel
theorem dX0_digit_23 : decode cX0_digit 23 = .ok (.iload_n 2, 1) := by decide +kernel
theorem dX0_digit_24 : decode cX0_digit 24 = .ok (.invokevirtual 106, 3) := by decide +kernel
theorem dX0_digit_27 : decode cX0_digit 27 = .ok (.aload_n 0, 1) := by decide +kernel
theorem dX0_digit_28 : decode cX0_digit 28 = .ok (.iload_n 2, 1) := by decide +kernel
theorem dX0_digit_29 : decode cX0_digit 29 = .ok (.invokevirtual 109, 3) := by decide +kernel
theorem dX0_digit_32 : decode cX0_digit 32 = .ok (.lstore 4, 2) := by decide +kernel
theorem dX0_digit_34 : decode cX0_digit 34 = .ok (.iconst 0, 1) := by decide +kernel
theorem dX0_digit_35 : decode cX0_digit 35 = .ok (.istore 6, 2) := by decide +kernel
theorem dX0_digit_37 : decode cX0_digit 37 = .ok (.iload 6, 2) := by decide +kernel
theorem dX0_digit_39 : decode cX0_digit 39 = .ok (.iload_n 3, 1) := by decide +kernel
theorem dX0_digit_40 : decode cX0_digit 40 = .ok (.if_icmp .ge 23, 3) := by decide +kernel
theorem dX0_digit_43 : decode cX0_digit 43 = .ok (.lload 4, 2) := by decide +kernel
theorem dX0_digit_45 : decode cX0_digit 45 = .ok (.lconst 0, 1) := by decide +kernel
theorem dX0_digit_46 : decode cX0_digit 46 = .ok (.lcmp, 1) := by decide +kernel
theorem dX0_digit_47 : decode cX0_digit 47 = .ok (.ifCond .le 16, 3) := by decide +kernel
theorem dX0_digit_50 : decode cX0_digit 50 = .ok (.lload 4, 2) := by decide +kernel
theorem dX0_digit_52 : decode cX0_digit 52 = .ok (.iload_n 1, 1) := by decide +kernel
theorem dX0_digit_53 : decode cX0_digit 53 = .ok (.i2l, 1) := by decide +kernel
theorem dX0_digit_54 : decode cX0_digit 54 = .ok (.ldiv, 1) := by decide +kernel
theorem dX0_digit_55 : decode cX0_digit 55 = .ok (.lstore 4, 2) := by decide +kernel
theorem dX0_digit_57 : decode cX0_digit 57 = .ok (.iinc 6 1, 3) := by decide +kernel
theorem dX0_digit_60 : decode cX0_digit 60 = .ok (.goto (-23), 3) := by decide +kernel
theorem dX0_digit_63 : decode cX0_digit 63 = .ok (.lload 4, 2) := by decide +kernel
theorem dX0_digit_65 : decode cX0_digit 65 = .ok (.iload_n 1, 1) := by decide +kernel
theorem dX0_digit_66 : decode cX0_digit 66 = .ok (.i2l, 1) := by decide +kernel
theorem dX0_digit_67 : decode cX0_digit 67 = .ok (.lrem, 1) := by decide +kernel
theorem dX0_digit_68 : decode cX0_digit 68 = .ok (.l2i, 1) := by decide +kernel
theorem dX0_digit_69 : decode cX0_digit 69 = .ok (.ireturn, 1) := by decide +kernel
set_option maxRecDepth 20000 in
theorem ggX0_root_X0_checkSlot : GoodIn wsX0_root wsX0_checkSlot := goodIn_ca (goodIn_r _ [8, 9, 10] (by decide +kernel) (by decide +kernel)) (goodIn_sub (fun _ h => List.mem_cons_of_mem _ (List.mem_append_left _ (List.mem_append_left _ (List.mem_append_left _ (List.mem_append_right _ h))))) (by decide +kernel))
set_option maxRecDepth 20000 in
theorem gX0_root_X0_checkSlot : GoodIn wsX0_root (va_wsS RX0 39 yX0_checkSlot wsX0_checkSlot) := goodIn_app (goodIn_of _ (by decide +kernel)) ggX0_root_X0_checkSlot
set_option maxRecDepth 20000 in
theorem ggX0_root_X0_checkRange : GoodIn wsX0_root wsX0_checkRange := goodIn_ca (goodIn_r _ [13, 14, 15] (by decide +kernel) (by decide +kernel)) (goodIn_sub (fun _ h => List.mem_cons_of_mem _ (List.mem_append_left _ (List.mem_append_left _ (List.mem_append_right _ h)))) (by decide +kernel))
set_option maxRecDepth 20000 in
theorem gX0_root_X0_checkRange : GoodIn wsX0_root (va_wsS RX0 43 yX0_checkRange wsX0_checkRange) := goodIn_app (goodIn_of _ (by decide +kernel)) ggX0_root_X0_checkRange
set_option maxRecDepth 20000 in
theorem ggX0_root_X0_checkNear : GoodIn wsX0_root wsX0_checkNear := goodIn_ca (goodIn_ca (goodIn_r _ [19, 20, 21, 22, 23, 24, 25, 7, 26, 27, 35, 36, 37, 38, 39, 40, 41, 42, 43] (by decide +kernel) (by decide +kernel)) (goodIn_sub (fun _ h => List.mem_cons_of_mem _ (List.mem_append_left _ (List.mem_append_left _ (List.mem_append_left _ (List.mem_append_left _ (List.mem_append_left _ (List.mem_append_right _ h))))))) (by decide +kernel))) (goodIn_sub (fun _ h => List.mem_cons_of_mem _ (List.mem_append_left _ (List.mem_append_right _ h))) (by decide +kernel))
set_option maxRecDepth 20000 in
theorem gX0_root_X0_checkNear : GoodIn wsX0_root (wsV RX0 106 RX0 yX0_checkNear wsX0_checkNear) := goodIn_app (goodIn_of _ (by decide +kernel)) ggX0_root_X0_checkNear
set_option maxRecDepth 20000 in
theorem ggX0_root_X0_nearSize : GoodIn wsX0_root wsX0_nearSize := goodIn_ca (goodIn_r _ [31, 22, 23, 35, 36, 37, 38, 39, 40, 41, 42, 43] (by decide +kernel) (by decide +kernel)) (goodIn_sub (fun _ h => List.mem_cons_of_mem _ (List.mem_append_left _ (List.mem_append_left _ (List.mem_append_left _ (List.mem_append_left _ (List.mem_append_left _ (List.mem_append_right _ h))))))) (by decide +kernel))
set_option maxRecDepth 20000 in
theorem gX0_root_X0_nearSize : GoodIn wsX0_root (wsV RX0 109 RX0 yX0_nearSize wsX0_nearSize) := goodIn_app (goodIn_of _ (by decide +kernel)) ggX0_root_X0_nearSize
set_option maxRecDepth 20000 in
theorem ggX0_root_X0_powerUpTo : GoodIn wsX0_root wsX0_powerUpTo := goodIn_ca (goodIn_r _ [34, 4] (by decide +kernel) (by decide +kernel)) (goodIn_sub (fun _ h => List.mem_cons_of_mem _ (List.mem_append_right _ h)) (by decide +kernel))
set_option maxRecDepth 20000 in
theorem gX0_root_X0_powerUpTo : GoodIn wsX0_root (va_wsS RX0 134 yX0_powerUpTo wsX0_powerUpTo) := goodIn_app (goodIn_of _ (by decide +kernel)) ggX0_root_X0_powerUpTo
theorem dX0_root_0 : decode cX0_root 0 = .ok (.iload_n 2, 1) := by decide +kernel
theorem dX0_root_1 : decode cX0_root 1 = .ok (.invokestatic 39, 3) := by decide +kernel
theorem dX0_root_4 : decode cX0_root 4 = .ok (.iload_n 1, 1) := by decide +kernel
theorem dX0_root_5 : decode cX0_root 5 = .ok (.iconst 1, 1) := by decide +kernel
theorem dX0_root_6 : decode cX0_root 6 = .ok (.bipush 53, 2) := by decide +kernel
theorem dX0_root_8 : decode cX0_root 8 = .ok (.invokestatic 43, 3) := by decide +kernel
theorem dX0_root_11 : decode cX0_root 11 = .ok (.aload_n 0, 1) := by decide +kernel
theorem dX0_root_12 : decode cX0_root 12 = .ok (.iload_n 2, 1) := by decide +kernel
theorem dX0_root_13 : decode cX0_root 13 = .ok (.invokevirtual 106, 3) := by decide +kernel
theorem dX0_root_16 : decode cX0_root 16 = .ok (.aload_n 0, 1) := by decide +kernel
theorem dX0_root_17 : decode cX0_root 17 = .ok (.getfield 9, 3) := by decide +kernel
theorem dX0_root_20 : decode cX0_root 20 = .ok (.iload_n 2, 1) := by decide +kernel
theorem dX0_root_21 : decode cX0_root 21 = .ok (.iaload, 1) := by decide +kernel
theorem dX0_root_22 : decode cX0_root 22 = .ok (.ifCond .ge 13, 3) := by decide +kernel
theorem dX0_root_25 : decode cX0_root 25 = .ok (.new 84, 3) := by decide +kernel
theorem dX0_root_28 : decode cX0_root 28 = .ok (.dup, 1) := by decide +kernel
theorem dX0_root_29 : decode cX0_root 29 = .ok (.ldc 132, 2) := by decide +kernel
theorem dX0_root_31 : decode cX0_root 31 = .ok (.invokespecial 88, 3) := by decide +kernel
theorem dX0_root_34 : decode cX0_root 34 = .ok (.athrow, 1) := by decide +kernel
theorem dX0_root_35 : decode cX0_root 35 = .ok (.aload_n 0, 1) := by decide +kernel
theorem dX0_root_36 : decode cX0_root 36 = .ok (.iload_n 2, 1) := by decide +kernel
theorem dX0_root_37 : decode cX0_root 37 = .ok (.invokevirtual 109, 3) := by decide +kernel
theorem dX0_root_40 : decode cX0_root 40 = .ok (.lstore_n 3, 1) := by decide +kernel
theorem dX0_root_41 : decode cX0_root 41 = .ok (.iconst 0, 1) := by decide +kernel
theorem dX0_root_42 : decode cX0_root 42 = .ok (.istore 5, 2) := by decide +kernel
theorem dX0_root_44 : decode cX0_root 44 = .ok (.iload 5, 2) := by decide +kernel
theorem dX0_root_46 : decode cX0_root 46 = .ok (.bipush 64, 2) := by decide +kernel
theorem dX0_root_48 : decode cX0_root 48 = .ok (.if_icmp .ge 26, 3) := by decide +kernel
theorem dX0_root_51 : decode cX0_root 51 = .ok (.iload 5, 2) := by decide +kernel
theorem dX0_root_53 : decode cX0_root 53 = .ok (.iconst 1, 1) := by decide +kernel
theorem dX0_root_54 : decode cX0_root 54 = .ok (.iadd, 1) := by decide +kernel
theorem dX0_root_55 : decode cX0_root 55 = .ok (.i2l, 1) := by decide +kernel
theorem dX0_root_56 : decode cX0_root 56 = .ok (.iload_n 1, 1) := by decide +kernel
theorem dX0_root_57 : decode cX0_root 57 = .ok (.lload_n 3, 1) := by decide +kernel
theorem dX0_root_58 : decode cX0_root 58 = .ok (.invokestatic 134, 3) := by decide +kernel
theorem dX0_root_61 : decode cX0_root 61 = .ok (.ldc2_w 138, 3) := by decide +kernel
theorem dX0_root_64 : decode cX0_root 64 = .ok (.lcmp, 1) := by decide +kernel
theorem dX0_root_65 : decode cX0_root 65 = .ok (.ifCond .eq 9, 3) := by decide +kernel
theorem dX0_root_68 : decode cX0_root 68 = .ok (.iinc 5 1, 3) := by decide +kernel
theorem dX0_root_71 : decode cX0_root 71 = .ok (.goto (-27), 3) := by decide +kernel
theorem dX0_root_74 : decode cX0_root 74 = .ok (.iload 5, 2) := by decide +kernel
theorem dX0_root_76 : decode cX0_root 76 = .ok (.ireturn, 1) := by decide +kernel
set_option maxRecDepth 20000 in
theorem ggX0_sum_X0_checkBaseAndExponent : GoodIn wsX0_sum wsX0_checkBaseAndExponent := goodIn_ca (goodIn_r _ [4, 5, 6, 3, 7, 8, 9] (by decide +kernel) (by decide +kernel)) (goodIn_sub (fun _ h => List.mem_cons_of_mem _ (List.mem_append_left _ (List.mem_append_left _ (List.mem_append_right _ h)))) (by decide +kernel))
set_option maxRecDepth 20000 in
theorem gX0_sum_X0_checkBaseAndExponent : GoodIn wsX0_sum (va_wsS RX0 62 yX0_checkBaseAndExponent wsX0_checkBaseAndExponent) := goodIn_app (goodIn_of _ (by decide +kernel)) ggX0_sum_X0_checkBaseAndExponent
set_option maxRecDepth 20000 in
theorem ggX0_sum_X0_checkPowerNear : GoodIn wsX0_sum wsX0_checkPowerNear := goodIn_ca (goodIn_ca (goodIn_r _ [12, 13, 14, 15, 16, 17, 18, 3, 19, 20, 21, 22] (by decide +kernel) (by decide +kernel)) (goodIn_sub (fun _ h => List.mem_cons_of_mem _ (List.mem_append_left _ (List.mem_append_right _ h))) (by decide +kernel))) (goodIn_sub (fun _ h => List.mem_cons_of_mem _ (List.mem_append_right _ h)) (by decide +kernel))
set_option maxRecDepth 20000 in
theorem gX0_sum_X0_checkPowerNear : GoodIn wsX0_sum (va_wsS RX0 140 yX0_checkPowerNear wsX0_checkPowerNear) := goodIn_app (goodIn_of _ (by decide +kernel)) ggX0_sum_X0_checkPowerNear
theorem dX0_sum_0 : decode cX0_sum 0 = .ok (.iload_n 1, 1) := by decide +kernel
theorem dX0_sum_1 : decode cX0_sum 1 = .ok (.iload_n 2, 1) := by decide +kernel
theorem dX0_sum_2 : decode cX0_sum 2 = .ok (.invokestatic 62, 3) := by decide +kernel
theorem dX0_sum_5 : decode cX0_sum 5 = .ok (.iload_n 1, 1) := by decide +kernel
theorem dX0_sum_6 : decode cX0_sum 6 = .ok (.iload_n 2, 1) := by decide +kernel
theorem dX0_sum_7 : decode cX0_sum 7 = .ok (.invokestatic 140, 3) := by decide +kernel
theorem dX0_sum_10 : decode cX0_sum 10 = .ok (.lconst 0, 1) := by decide +kernel
theorem dX0_sum_11 : decode cX0_sum 11 = .ok (.lstore_n 3, 1) := by decide +kernel
theorem dX0_sum_12 : decode cX0_sum 12 = .ok (.iconst 0, 1) := by decide +kernel
theorem dX0_sum_13 : decode cX0_sum 13 = .ok (.istore 5, 2) := by decide +kernel
theorem dX0_sum_15 : decode cX0_sum 15 = .ok (.iload 5, 2) := by decide +kernel
theorem dX0_sum_17 : decode cX0_sum 17 = .ok (.iload_n 2, 1) := by decide +kernel
theorem dX0_sum_18 : decode cX0_sum 18 = .ok (.if_icmp .ge 16, 3) := by decide +kernel
theorem dX0_sum_21 : decode cX0_sum 21 = .ok (.lload_n 3, 1) := by decide +kernel
theorem dX0_sum_22 : decode cX0_sum 22 = .ok (.iload_n 1, 1) := by decide +kernel
theorem dX0_sum_23 : decode cX0_sum 23 = .ok (.i2l, 1) := by decide +kernel
theorem dX0_sum_24 : decode cX0_sum 24 = .ok (.lmul, 1) := by decide +kernel
theorem dX0_sum_25 : decode cX0_sum 25 = .ok (.lconst 1, 1) := by decide +kernel
theorem dX0_sum_26 : decode cX0_sum 26 = .ok (.ladd, 1) := by decide +kernel
theorem dX0_sum_27 : decode cX0_sum 27 = .ok (.lstore_n 3, 1) := by decide +kernel
theorem dX0_sum_28 : decode cX0_sum 28 = .ok (.iinc 5 1, 3) := by decide +kernel
theorem dX0_sum_31 : decode cX0_sum 31 = .ok (.goto (-16), 3) := by decide +kernel
theorem dX0_sum_34 : decode cX0_sum 34 = .ok (.lload_n 3, 1) := by decide +kernel
theorem dX0_sum_35 : decode cX0_sum 35 = .ok (.lreturn, 1) := by decide +kernel
set_option maxRecDepth 20000 in
theorem ggX0_rest_X0_checkBaseAndExponent : GoodIn wsX0_rest wsX0_checkBaseAndExponent := goodIn_ca (goodIn_r _ [4, 5, 6, 3, 7, 8, 9] (by decide +kernel) (by decide +kernel)) (goodIn_sub (fun _ h => List.mem_cons_of_mem _ (List.mem_append_left _ (List.mem_append_left _ (List.mem_append_right _ h)))) (by decide +kernel))
set_option maxRecDepth 20000 in
theorem gX0_rest_X0_checkBaseAndExponent : GoodIn wsX0_rest (va_wsS RX0 62 yX0_checkBaseAndExponent wsX0_checkBaseAndExponent) := goodIn_app (goodIn_of _ (by decide +kernel)) ggX0_rest_X0_checkBaseAndExponent
set_option maxRecDepth 20000 in
theorem ggX0_rest_X0_checkRange : GoodIn wsX0_rest wsX0_checkRange := goodIn_ca (goodIn_r _ [7, 8, 9] (by decide +kernel) (by decide +kernel)) (goodIn_sub (fun _ h => List.mem_cons_of_mem _ (List.mem_append_left _ (List.mem_append_left _ (List.mem_append_right _ h)))) (by decide +kernel))
set_option maxRecDepth 20000 in
theorem gX0_rest_X0_checkRange : GoodIn wsX0_rest (va_wsS RX0 43 yX0_checkRange wsX0_checkRange) := goodIn_app (goodIn_of _ (by decide +kernel)) ggX0_rest_X0_checkRange
set_option maxRecDepth 20000 in
theorem ggX0_rest_X0_checkPowerNear : GoodIn wsX0_rest wsX0_checkPowerNear := goodIn_ca (goodIn_ca (goodIn_r _ [12, 13, 14, 15, 16, 17, 18, 3, 19, 20, 21, 22] (by decide +kernel) (by decide +kernel)) (goodIn_sub (fun _ h => List.mem_cons_of_mem _ (List.mem_append_left _ (List.mem_append_right _ h))) (by decide +kernel))) (goodIn_sub (fun _ h => List.mem_cons_of_mem _ (List.mem_append_right _ h)) (by decide +kernel))
set_option maxRecDepth 20000 in
theorem gX0_rest_X0_checkPowerNear : GoodIn wsX0_rest (va_wsS RX0 140 yX0_checkPowerNear wsX0_checkPowerNear) := goodIn_app (goodIn_of _ (by decide +kernel)) ggX0_rest_X0_checkPowerNear
set_option maxRecDepth 20000 in
theorem ggX0_rest_X0_nearPower : GoodIn wsX0_rest wsX0_nearPower := goodIn_ca (goodIn_r _ [25, 15, 26, 27, 3, 28, 29, 30, 31, 17, 18, 19, 20, 21, 22, 16] (by decide +kernel) (by decide +kernel)) (goodIn_sub (fun _ h => List.mem_cons_of_mem _ (List.mem_append_right _ h)) (by decide +kernel))
set_option maxRecDepth 20000 in
theorem gX0_rest_X0_nearPower : GoodIn wsX0_rest (va_wsS RX0 143 yX0_nearPower wsX0_nearPower) := goodIn_app (goodIn_of _ (by decide +kernel)) ggX0_rest_X0_nearPower
set_option maxRecDepth 20000 in
theorem ggX0_rest_J9_floorMod_f86c9 : GoodIn wsX0_rest wsJ9_floorMod_f86c9 := goodIn_r _ [35] (by decide +kernel) (by decide +kernel)
set_option maxRecDepth 20000 in
theorem gX0_rest_J9_floorMod_f86c9 : GoodIn wsX0_rest (va_wsS RX0 147 yJ9_floorMod_f86c9 wsJ9_floorMod_f86c9) := goodIn_app (goodIn_of _ (by decide +kernel)) ggX0_rest_J9_floorMod_f86c9
theorem dX0_rest_0 : decode cX0_rest 0 = .ok (.iload_n 1, 1) := by decide +kernel
theorem dX0_rest_1 : decode cX0_rest 1 = .ok (.iload_n 2, 1) := by decide +kernel
theorem dX0_rest_2 : decode cX0_rest 2 = .ok (.invokestatic 62, 3) := by decide +kernel
theorem dX0_rest_5 : decode cX0_rest 5 = .ok (.iload_n 3, 1) := by decide +kernel
theorem dX0_rest_6 : decode cX0_rest 6 = .ok (.iconst 1, 1) := by decide +kernel
theorem dX0_rest_7 : decode cX0_rest 7 = .ok (.sipush 1000, 3) := by decide +kernel
theorem dX0_rest_10 : decode cX0_rest 10 = .ok (.invokestatic 43, 3) := by decide +kernel
theorem dX0_rest_13 : decode cX0_rest 13 = .ok (.iload_n 1, 1) := by decide +kernel
theorem dX0_rest_14 : decode cX0_rest 14 = .ok (.iload_n 2, 1) := by decide +kernel
theorem dX0_rest_15 : decode cX0_rest 15 = .ok (.invokestatic 140, 3) := by decide +kernel
theorem dX0_rest_18 : decode cX0_rest 18 = .ok (.iload_n 1, 1) := by decide +kernel
theorem dX0_rest_19 : decode cX0_rest 19 = .ok (.iload_n 2, 1) := by decide +kernel
theorem dX0_rest_20 : decode cX0_rest 20 = .ok (.invokestatic 143, 3) := by decide +kernel
theorem dX0_rest_23 : decode cX0_rest 23 = .ok (.iload_n 3, 1) := by decide +kernel
theorem dX0_rest_24 : decode cX0_rest 24 = .ok (.i2l, 1) := by decide +kernel
theorem dX0_rest_25 : decode cX0_rest 25 = .ok (.invokestatic 147, 3) := by decide +kernel
theorem dX0_rest_28 : decode cX0_rest 28 = .ok (.l2i, 1) := by decide +kernel
theorem dX0_rest_29 : decode cX0_rest 29 = .ok (.ireturn, 1) := by decide +kernel
set_option maxRecDepth 20000 in
theorem ggX0_isFermat_X0_checkBaseAndExponent : GoodIn wsX0_isFermat wsX0_checkBaseAndExponent := goodIn_ca (goodIn_r _ [4, 5, 6, 3, 7, 8, 9] (by decide +kernel) (by decide +kernel)) (goodIn_sub (fun _ h => List.mem_cons_of_mem _ (List.mem_append_left _ (List.mem_append_right _ h))) (by decide +kernel))
set_option maxRecDepth 20000 in
theorem gX0_isFermat_X0_checkBaseAndExponent : GoodIn wsX0_isFermat (va_wsS RX0 62 yX0_checkBaseAndExponent wsX0_checkBaseAndExponent) := goodIn_app (goodIn_of _ (by decide +kernel)) ggX0_isFermat_X0_checkBaseAndExponent
set_option maxRecDepth 20000 in
theorem ggX0_isFermat_X0_checkRange : GoodIn wsX0_isFermat wsX0_checkRange := goodIn_ca (goodIn_r _ [7, 8, 9] (by decide +kernel) (by decide +kernel)) (goodIn_sub (fun _ h => List.mem_cons_of_mem _ (List.mem_append_left _ (List.mem_append_right _ h))) (by decide +kernel))
set_option maxRecDepth 20000 in
theorem gX0_isFermat_X0_checkRange : GoodIn wsX0_isFermat (va_wsS RX0 43 yX0_checkRange wsX0_checkRange) := goodIn_app (goodIn_of _ (by decide +kernel)) ggX0_isFermat_X0_checkRange
set_option maxRecDepth 20000 in
theorem ggX0_isFermat_X0_checkPowerNear : GoodIn wsX0_isFermat wsX0_checkPowerNear := goodIn_ca (goodIn_ca (goodIn_r _ [12, 13, 14, 15, 16, 17, 18, 3, 19, 20, 21, 22] (by decide +kernel) (by decide +kernel)) (goodIn_sub (fun _ h => List.mem_cons_of_mem _ (List.mem_append_right _ h)) (by decide +kernel))) (goodIn_sub (fun _ h => List.mem_cons_of_mem _ (List.mem_append_left _ (List.mem_append_left _ (List.mem_append_right _ h)))) (by decide +kernel))
set_option maxRecDepth 20000 in
theorem gX0_isFermat_X0_checkPowerNear : GoodIn wsX0_isFermat (va_wsS RX0 140 yX0_checkPowerNear wsX0_checkPowerNear) := goodIn_app (goodIn_of _ (by decide +kernel)) ggX0_isFermat_X0_checkPowerNear
set_option maxRecDepth 20000 in
theorem ggX0_isFermat_X0_nearPower : GoodIn wsX0_isFermat wsX0_nearPower := goodIn_ca (goodIn_r _ [25, 15, 26, 27, 3, 28, 29, 30, 31, 17, 18, 19, 20, 21, 22, 16] (by decide +kernel) (by decide +kernel)) (goodIn_sub (fun _ h => List.mem_cons_of_mem _ (List.mem_append_left _ (List.mem_append_left _ (List.mem_append_right _ h)))) (by decide +kernel))
set_option maxRecDepth 20000 in
theorem gX0_isFermat_X0_nearPower : GoodIn wsX0_isFermat (va_wsS RX0 143 yX0_nearPower wsX0_nearPower) := goodIn_app (goodIn_of _ (by decide +kernel)) ggX0_isFermat_X0_nearPower
theorem dX0_isFermat_0 : decode cX0_isFermat 0 = .ok (.iload_n 1, 1) := by decide +kernel
theorem dX0_isFermat_1 : decode cX0_isFermat 1 = .ok (.iload_n 2, 1) := by decide +kernel
theorem dX0_isFermat_2 : decode cX0_isFermat 2 = .ok (.invokestatic 62, 3) := by decide +kernel
theorem dX0_isFermat_5 : decode cX0_isFermat 5 = .ok (.iload_n 2, 1) := by decide +kernel
theorem dX0_isFermat_6 : decode cX0_isFermat 6 = .ok (.iconst 1, 1) := by decide +kernel
theorem dX0_isFermat_7 : decode cX0_isFermat 7 = .ok (.bipush 64, 2) := by decide +kernel
theorem dX0_isFermat_9 : decode cX0_isFermat 9 = .ok (.invokestatic 43, 3) := by decide +kernel
theorem dX0_isFermat_12 : decode cX0_isFermat 12 = .ok (.iload_n 1, 1) := by decide +kernel
theorem dX0_isFermat_13 : decode cX0_isFermat 13 = .ok (.iload_n 2, 1) := by decide +kernel
theorem dX0_isFermat_14 : decode cX0_isFermat 14 = .ok (.invokestatic 140, 3) := by decide +kernel
theorem dX0_isFermat_17 : decode cX0_isFermat 17 = .ok (.iload_n 1, 1) := by decide +kernel
theorem dX0_isFermat_18 : decode cX0_isFermat 18 = .ok (.iload_n 2, 1) := by decide +kernel
theorem dX0_isFermat_19 : decode cX0_isFermat 19 = .ok (.invokestatic 143, 3) := by decide +kernel
theorem dX0_isFermat_22 : decode cX0_isFermat 22 = .ok (.iload_n 1, 1) := by decide +kernel
theorem dX0_isFermat_23 : decode cX0_isFermat 23 = .ok (.i2l, 1) := by decide +kernel
theorem dX0_isFermat_24 : decode cX0_isFermat 24 = .ok (.lsub, 1) := by decide +kernel
theorem dX0_isFermat_25 : decode cX0_isFermat 25 = .ok (.iload_n 2, 1) := by decide +kernel
theorem dX0_isFermat_26 : decode cX0_isFermat 26 = .ok (.i2l, 1) := by decide +kernel
theorem dX0_isFermat_27 : decode cX0_isFermat 27 = .ok (.lrem, 1) := by decide +kernel
theorem dX0_isFermat_28 : decode cX0_isFermat 28 = .ok (.lconst 0, 1) := by decide +kernel
theorem dX0_isFermat_29 : decode cX0_isFermat 29 = .ok (.lcmp, 1) := by decide +kernel
theorem dX0_isFermat_30 : decode cX0_isFermat 30 = .ok (.ifCond .ne 7, 3) := by decide +kernel
theorem dX0_isFermat_33 : decode cX0_isFermat 33 = .ok (.iconst 1, 1) := by decide +kernel
theorem dX0_isFermat_34 : decode cX0_isFermat 34 = .ok (.goto 4, 3) := by decide +kernel
theorem dX0_isFermat_37 : decode cX0_isFermat 37 = .ok (.iconst 0, 1) := by decide +kernel
theorem dX0_isFermat_38 : decode cX0_isFermat 38 = .ok (.ireturn, 1) := by decide +kernel
set_option maxRecDepth 20000 in
theorem ggX0_isChain_X0_checkBaseAndExponent : GoodIn wsX0_isChain wsX0_checkBaseAndExponent := goodIn_ca (goodIn_r _ [4, 5, 6, 3, 7, 8, 9] (by decide +kernel) (by decide +kernel)) (goodIn_sub (fun _ h => List.mem_cons_of_mem _ (List.mem_append_left _ (List.mem_append_left _ (List.mem_append_right _ h)))) (by decide +kernel))
set_option maxRecDepth 20000 in
theorem gX0_isChain_X0_checkBaseAndExponent : GoodIn wsX0_isChain (va_wsS RX0 62 yX0_checkBaseAndExponent wsX0_checkBaseAndExponent) := goodIn_app (goodIn_of _ (by decide +kernel)) ggX0_isChain_X0_checkBaseAndExponent
set_option maxRecDepth 20000 in
theorem ggX0_isChain_X0_checkTold : GoodIn wsX0_isChain wsX0_checkTold := goodIn_ca (goodIn_ca (goodIn_r _ [12, 13, 14, 15, 16, 3, 17, 18, 19, 20, 21, 22, 23, 24, 25, 26, 27, 28, 29, 30, 31, 32, 33, 34] (by decide +kernel) (by decide +kernel)) (goodIn_sub (fun _ h => List.mem_cons_of_mem _ (List.mem_append_left _ (List.mem_append_right _ h))) (by decide +kernel))) (goodIn_sub (fun _ h => List.mem_cons_of_mem _ (List.mem_append_right _ h)) (by decide +kernel))
set_option maxRecDepth 20000 in
theorem gX0_isChain_X0_checkTold : GoodIn wsX0_isChain (va_wsS RX0 66 yX0_checkTold wsX0_checkTold) := goodIn_app (goodIn_of _ (by decide +kernel)) ggX0_isChain_X0_checkTold
set_option maxRecDepth 20000 in
theorem ggX0_isChain_X0_bitsOfDouble : GoodIn wsX0_isChain wsX0_bitsOfDouble := goodIn_r _ [37, 38, 39, 40, 3, 41, 42, 43, 44, 45, 46, 47, 48, 49, 50, 51, 52] (by decide +kernel) (by decide +kernel)
set_option maxRecDepth 20000 in
theorem gX0_isChain_X0_bitsOfDouble : GoodIn wsX0_isChain (va_wsS RX0 153 yX0_bitsOfDouble wsX0_bitsOfDouble) := goodIn_app (goodIn_of _ (by decide +kernel)) ggX0_isChain_X0_bitsOfDouble
set_option maxRecDepth 20000 in
theorem ggX0_isChain_X0_powerBits : GoodIn wsX0_isChain wsX0_powerBits := goodIn_ca (goodIn_r _ [55, 56, 57, 3, 58, 59, 60, 61, 15, 16, 17, 18, 19, 20, 21, 22, 23, 28, 29, 30, 31, 32, 33, 34, 27, 62, 63, 64, 65, 66, 67, 47, 48, 49, 50, 51, 52] (by decide +kernel) (by decide +kernel)) (goodIn_sub (fun _ h => List.mem_cons_of_mem _ (List.mem_append_right _ h)) (by decide +kernel))
set_option maxRecDepth 20000 in
theorem gX0_isChain_X0_powerBits : GoodIn wsX0_isChain (va_wsS RX0 157 yX0_powerBits wsX0_powerBits) := goodIn_app (goodIn_of _ (by decide +kernel)) ggX0_isChain_X0_powerBits
theorem dX0_isChain_0 : decode cX0_isChain 0 = .ok (.iload_n 1, 1) := by decide +kernel
theorem dX0_isChain_1 : decode cX0_isChain 1 = .ok (.iload_n 2, 1) := by decide +kernel
theorem dX0_isChain_2 : decode cX0_isChain 2 = .ok (.invokestatic 62, 3) := by decide +kernel
theorem dX0_isChain_5 : decode cX0_isChain 5 = .ok (.iload_n 1, 1) := by decide +kernel
theorem dX0_isChain_6 : decode cX0_isChain 6 = .ok (.iload_n 2, 1) := by decide +kernel
theorem dX0_isChain_7 : decode cX0_isChain 7 = .ok (.invokestatic 66, 3) := by decide +kernel
theorem dX0_isChain_10 : decode cX0_isChain 10 = .ok (.dconst 1, 1) := by decide +kernel
theorem dX0_isChain_11 : decode cX0_isChain 11 = .ok (.dstore_n 3, 1) := by decide +kernel
theorem dX0_isChain_12 : decode cX0_isChain 12 = .ok (.iconst 0, 1) := by decide +kernel
theorem dX0_isChain_13 : decode cX0_isChain 13 = .ok (.istore 5, 2) := by decide +kernel
theorem dX0_isChain_15 : decode cX0_isChain 15 = .ok (.iload 5, 2) := by decide +kernel
theorem dX0_isChain_17 : decode cX0_isChain 17 = .ok (.iload_n 2, 1) := by decide +kernel
theorem dX0_isChain_18 : decode cX0_isChain 18 = .ok (.if_icmp .ge 14, 3) := by decide +kernel
theorem dX0_isChain_21 : decode cX0_isChain 21 = .ok (.dload_n 3, 1) := by decide +kernel
theorem dX0_isChain_22 : decode cX0_isChain 22 = .ok (.iload_n 1, 1) := by decide +kernel
theorem dX0_isChain_23 : decode cX0_isChain 23 = .ok (.i2d, 1) := by decide +kernel
theorem dX0_isChain_24 : decode cX0_isChain 24 = .ok (.dmul, 1) := by decide +kernel
theorem dX0_isChain_25 : decode cX0_isChain 25 = .ok (.dstore_n 3, 1) := by decide +kernel
theorem dX0_isChain_26 : decode cX0_isChain 26 = .ok (.iinc 5 1, 3) := by decide +kernel
theorem dX0_isChain_29 : decode cX0_isChain 29 = .ok (.goto (-14), 3) := by decide +kernel
theorem dX0_isChain_32 : decode cX0_isChain 32 = .ok (.dload_n 3, 1) := by decide +kernel
theorem dX0_isChain_33 : decode cX0_isChain 33 = .ok (.invokestatic 153, 3) := by decide +kernel
theorem dX0_isChain_36 : decode cX0_isChain 36 = .ok (.iload_n 1, 1) := by decide +kernel
theorem dX0_isChain_37 : decode cX0_isChain 37 = .ok (.iload_n 2, 1) := by decide +kernel
theorem dX0_isChain_38 : decode cX0_isChain 38 = .ok (.invokestatic 157, 3) := by decide +kernel
theorem dX0_isChain_41 : decode cX0_isChain 41 = .ok (.lcmp, 1) := by decide +kernel
theorem dX0_isChain_42 : decode cX0_isChain 42 = .ok (.ifCond .ne 7, 3) := by decide +kernel
theorem dX0_isChain_45 : decode cX0_isChain 45 = .ok (.iconst 1, 1) := by decide +kernel
theorem dX0_isChain_46 : decode cX0_isChain 46 = .ok (.goto 4, 3) := by decide +kernel
theorem dX0_isChain_49 : decode cX0_isChain 49 = .ok (.iconst 0, 1) := by decide +kernel
theorem dX0_isChain_50 : decode cX0_isChain 50 = .ok (.ireturn, 1) := by decide +kernel
set_option maxRecDepth 20000 in
theorem ggX0_addsUp_X0_checkBaseAndExponent : GoodIn wsX0_addsUp wsX0_checkBaseAndExponent := goodIn_ca (goodIn_r _ [4, 5, 6, 3, 7, 8, 9] (by decide +kernel) (by decide +kernel)) (goodIn_sub (fun _ h => List.mem_cons_of_mem _ (List.mem_append_left _ (List.mem_append_left _ (List.mem_append_right _ h)))) (by decide +kernel))
set_option maxRecDepth 20000 in
theorem gX0_addsUp_X0_checkBaseAndExponent : GoodIn wsX0_addsUp (va_wsS RX0 62 yX0_checkBaseAndExponent wsX0_checkBaseAndExponent) := goodIn_app (goodIn_of _ (by decide +kernel)) ggX0_addsUp_X0_checkBaseAndExponent
set_option maxRecDepth 20000 in
theorem ggX0_addsUp_X0_checkRange : GoodIn wsX0_addsUp wsX0_checkRange := goodIn_ca (goodIn_r _ [7, 8, 9] (by decide +kernel) (by decide +kernel)) (goodIn_sub (fun _ h => List.mem_cons_of_mem _ (List.mem_append_left _ (List.mem_append_left _ (List.mem_append_right _ h)))) (by decide +kernel))
set_option maxRecDepth 20000 in
theorem gX0_addsUp_X0_checkRange : GoodIn wsX0_addsUp (va_wsS RX0 43 yX0_checkRange wsX0_checkRange) := goodIn_app (goodIn_of _ (by decide +kernel)) ggX0_addsUp_X0_checkRange
set_option maxRecDepth 20000 in
theorem ggX0_addsUp_X0_checkTold : GoodIn wsX0_addsUp wsX0_checkTold := goodIn_ca (goodIn_ca (goodIn_r _ [12, 13, 14, 15, 16, 3, 17, 18, 19, 20, 21, 22, 23, 24, 25, 26, 27, 28, 29, 30, 31, 32, 33, 34] (by decide +kernel) (by decide +kernel)) (goodIn_sub (fun _ h => List.mem_cons_of_mem _ (List.mem_append_left _ (List.mem_append_right _ h))) (by decide +kernel))) (goodIn_sub (fun _ h => List.mem_cons_of_mem _ (List.mem_append_right _ h)) (by decide +kernel))
set_option maxRecDepth 20000 in
theorem gX0_addsUp_X0_checkTold : GoodIn wsX0_addsUp (va_wsS RX0 66 yX0_checkTold wsX0_checkTold) := goodIn_app (goodIn_of _ (by decide +kernel)) ggX0_addsUp_X0_checkTold
set_option maxRecDepth 20000 in
theorem ggX0_addsUp_X0_powerAsDouble : GoodIn wsX0_addsUp wsX0_powerAsDouble := goodIn_ca (goodIn_r _ [37, 38, 39, 3, 40, 41, 42, 43, 15, 16, 17, 18, 19, 20, 21, 22, 23, 28, 29, 30, 31, 32, 33, 34, 27, 44, 45, 46, 47, 48, 49, 50, 51] (by decide +kernel) (by decide +kernel)) (goodIn_sub (fun _ h => List.mem_cons_of_mem _ (List.mem_append_right _ h)) (by decide +kernel))
set_option maxRecDepth 20000 in
theorem gX0_addsUp_X0_powerAsDouble : GoodIn wsX0_addsUp (va_wsS RX0 160 yX0_powerAsDouble wsX0_powerAsDouble) := goodIn_app (goodIn_of _ (by decide +kernel)) ggX0_addsUp_X0_powerAsDouble
set_option maxRecDepth 20000 in
theorem ggX0_addsUp_X0_bitsOfDouble : GoodIn wsX0_addsUp wsX0_bitsOfDouble := goodIn_r _ [54, 55, 56, 57, 3, 58, 47, 48, 49, 50, 51, 59, 60, 61, 62, 63, 64] (by decide +kernel) (by decide +kernel)
set_option maxRecDepth 20000 in
theorem gX0_addsUp_X0_bitsOfDouble : GoodIn wsX0_addsUp (va_wsS RX0 153 yX0_bitsOfDouble wsX0_bitsOfDouble) := goodIn_app (goodIn_of _ (by decide +kernel)) ggX0_addsUp_X0_bitsOfDouble
set_option maxRecDepth 20000 in
theorem ggX0_addsUp_X0_powerBits : GoodIn wsX0_addsUp wsX0_powerBits := goodIn_ca (goodIn_r _ [67, 38, 39, 3, 40, 41, 42, 43, 15, 16, 17, 18, 19, 20, 21, 22, 23, 28, 29, 30, 31, 32, 33, 34, 27, 68, 69, 70, 71, 72, 73, 59, 60, 61, 62, 63, 64] (by decide +kernel) (by decide +kernel)) (goodIn_sub (fun _ h => List.mem_cons_of_mem _ (List.mem_append_right _ h)) (by decide +kernel))
set_option maxRecDepth 20000 in
theorem gX0_addsUp_X0_powerBits : GoodIn wsX0_addsUp (va_wsS RX0 157 yX0_powerBits wsX0_powerBits) := goodIn_app (goodIn_of _ (by decide +kernel)) ggX0_addsUp_X0_powerBits
theorem dX0_addsUp_0 : decode cX0_addsUp 0 = .ok (.iload_n 1, 1) := by decide +kernel
theorem dX0_addsUp_1 : decode cX0_addsUp 1 = .ok (.iload_n 2, 1) := by decide +kernel
theorem dX0_addsUp_2 : decode cX0_addsUp 2 = .ok (.invokestatic 62, 3) := by decide +kernel
theorem dX0_addsUp_5 : decode cX0_addsUp 5 = .ok (.iload_n 3, 1) := by decide +kernel
theorem dX0_addsUp_6 : decode cX0_addsUp 6 = .ok (.iconst 0, 1) := by decide +kernel
theorem dX0_addsUp_7 : decode cX0_addsUp 7 = .ok (.bipush 64, 2) := by decide +kernel
theorem dX0_addsUp_9 : decode cX0_addsUp 9 = .ok (.invokestatic 43, 3) := by decide +kernel
theorem dX0_addsUp_12 : decode cX0_addsUp 12 = .ok (.iload_n 2, 1) := by decide +kernel
theorem dX0_addsUp_13 : decode cX0_addsUp 13 = .ok (.iload_n 3, 1) := by decide +kernel
theorem dX0_addsUp_14 : decode cX0_addsUp 14 = .ok (.iadd, 1) := by decide +kernel
theorem dX0_addsUp_15 : decode cX0_addsUp 15 = .ok (.iconst 0, 1) := by decide +kernel
theorem dX0_addsUp_16 : decode cX0_addsUp 16 = .ok (.bipush 64, 2) := by decide +kernel
theorem dX0_addsUp_18 : decode cX0_addsUp 18 = .ok (.invokestatic 43, 3) := by decide +kernel
theorem dX0_addsUp_21 : decode cX0_addsUp 21 = .ok (.iload_n 1, 1) := by decide +kernel
theorem dX0_addsUp_22 : decode cX0_addsUp 22 = .ok (.iload_n 2, 1) := by decide +kernel
theorem dX0_addsUp_23 : decode cX0_addsUp 23 = .ok (.iload_n 3, 1) := by decide +kernel
theorem dX0_addsUp_24 : decode cX0_addsUp 24 = .ok (.iadd, 1) := by decide +kernel
theorem dX0_addsUp_25 : decode cX0_addsUp 25 = .ok (.invokestatic 66, 3) := by decide +kernel
theorem dX0_addsUp_28 : decode cX0_addsUp 28 = .ok (.iload_n 1, 1) := by decide +kernel
theorem dX0_addsUp_29 : decode cX0_addsUp 29 = .ok (.iload_n 2, 1) := by decide +kernel
theorem dX0_addsUp_30 : decode cX0_addsUp 30 = .ok (.invokestatic 160, 3) := by decide +kernel
theorem dX0_addsUp_33 : decode cX0_addsUp 33 = .ok (.iload_n 1, 1) := by decide +kernel
theorem dX0_addsUp_34 : decode cX0_addsUp 34 = .ok (.iload_n 3, 1) := by decide +kernel
theorem dX0_addsUp_35 : decode cX0_addsUp 35 = .ok (.invokestatic 160, 3) := by decide +kernel
theorem dX0_addsUp_38 : decode cX0_addsUp 38 = .ok (.dmul, 1) := by decide +kernel
theorem dX0_addsUp_39 : decode cX0_addsUp 39 = .ok (.dstore 4, 2) := by decide +kernel
theorem dX0_addsUp_41 : decode cX0_addsUp 41 = .ok (.dload 4, 2) := by decide +kernel
theorem dX0_addsUp_43 : decode cX0_addsUp 43 = .ok (.invokestatic 153, 3) := by decide +kernel
theorem dX0_addsUp_46 : decode cX0_addsUp 46 = .ok (.iload_n 1, 1) := by decide +kernel
theorem dX0_addsUp_47 : decode cX0_addsUp 47 = .ok (.iload_n 2, 1) := by decide +kernel
theorem dX0_addsUp_48 : decode cX0_addsUp 48 = .ok (.iload_n 3, 1) := by decide +kernel
theorem dX0_addsUp_49 : decode cX0_addsUp 49 = .ok (.iadd, 1) := by decide +kernel
theorem dX0_addsUp_50 : decode cX0_addsUp 50 = .ok (.invokestatic 157, 3) := by decide +kernel
theorem dX0_addsUp_53 : decode cX0_addsUp 53 = .ok (.lcmp, 1) := by decide +kernel
theorem dX0_addsUp_54 : decode cX0_addsUp 54 = .ok (.ifCond .ne 7, 3) := by decide +kernel
theorem dX0_addsUp_57 : decode cX0_addsUp 57 = .ok (.iconst 1, 1) := by decide +kernel
theorem dX0_addsUp_58 : decode cX0_addsUp 58 = .ok (.goto 4, 3) := by decide +kernel
theorem dX0_addsUp_61 : decode cX0_addsUp 61 = .ok (.iconst 0, 1) := by decide +kernel
theorem dX0_addsUp_62 : decode cX0_addsUp 62 = .ok (.ireturn, 1) := by decide +kernel
set_option maxRecDepth 20000 in
theorem ggX0_isNested_X0_checkBaseAndExponent : GoodIn wsX0_isNested wsX0_checkBaseAndExponent := goodIn_ca (goodIn_r _ [4, 5, 6, 3, 7, 8, 9] (by decide +kernel) (by decide +kernel)) (goodIn_sub (fun _ h => List.mem_cons_of_mem _ (List.mem_append_left _ (List.mem_append_left _ (List.mem_append_right _ h)))) (by decide +kernel))
set_option maxRecDepth 20000 in
theorem gX0_isNested_X0_checkBaseAndExponent : GoodIn wsX0_isNested (va_wsS RX0 62 yX0_checkBaseAndExponent wsX0_checkBaseAndExponent) := goodIn_app (goodIn_of _ (by decide +kernel)) ggX0_isNested_X0_checkBaseAndExponent
set_option maxRecDepth 20000 in
theorem ggX0_isNested_X0_checkRange : GoodIn wsX0_isNested wsX0_checkRange := goodIn_ca (goodIn_r _ [7, 8, 9] (by decide +kernel) (by decide +kernel)) (goodIn_sub (fun _ h => List.mem_cons_of_mem _ (List.mem_append_left _ (List.mem_append_left _ (List.mem_append_right _ h)))) (by decide +kernel))
set_option maxRecDepth 20000 in
theorem gX0_isNested_X0_checkRange : GoodIn wsX0_isNested (va_wsS RX0 43 yX0_checkRange wsX0_checkRange) := goodIn_app (goodIn_of _ (by decide +kernel)) ggX0_isNested_X0_checkRange
set_option maxRecDepth 20000 in
theorem ggX0_isNested_X0_checkTold : GoodIn wsX0_isNested wsX0_checkTold := goodIn_ca (goodIn_ca (goodIn_r _ [12, 13, 14, 15, 16, 3, 17, 18, 19, 20, 21, 22, 23, 24, 25, 26, 27, 28, 29, 30, 31, 32, 33, 34] (by decide +kernel) (by decide +kernel)) (goodIn_sub (fun _ h => List.mem_cons_of_mem _ (List.mem_append_left _ (List.mem_append_right _ h))) (by decide +kernel))) (goodIn_sub (fun _ h => List.mem_cons_of_mem _ (List.mem_append_right _ h)) (by decide +kernel))
set_option maxRecDepth 20000 in
theorem gX0_isNested_X0_checkTold : GoodIn wsX0_isNested (va_wsS RX0 66 yX0_checkTold wsX0_checkTold) := goodIn_app (goodIn_of _ (by decide +kernel)) ggX0_isNested_X0_checkTold
set_option maxRecDepth 20000 in
theorem ggX0_isNested_X0_signOf : GoodIn wsX0_isNested wsX0_signOf := goodIn_r _ [37] (by decide +kernel) (by decide +kernel)
set_option maxRecDepth 20000 in
theorem gX0_isNested_X0_signOf : GoodIn wsX0_isNested (va_wsS RX0 47 yX0_signOf wsX0_signOf) := goodIn_app (goodIn_of _ (by decide +kernel)) ggX0_isNested_X0_signOf
set_option maxRecDepth 20000 in
theorem ggX0_isNested_X0_powerSign : GoodIn wsX0_isNested wsX0_powerSign := goodIn_r _ [40] (by decide +kernel) (by decide +kernel)
set_option maxRecDepth 20000 in
theorem gX0_isNested_X0_powerSign : GoodIn wsX0_isNested (va_wsS RX0 69 yX0_powerSign wsX0_powerSign) := goodIn_app (goodIn_of _ (by decide +kernel)) ggX0_isNested_X0_powerSign
set_option maxRecDepth 20000 in
theorem ggX0_isNested_X0_oddOf : GoodIn wsX0_isNested wsX0_oddOf := goodIn_r _ [17, 18, 19, 3, 20, 21, 22, 23] (by decide +kernel) (by decide +kernel)
set_option maxRecDepth 20000 in
theorem gX0_isNested_X0_oddOf : GoodIn wsX0_isNested (va_wsS RX0 51 yX0_oddOf wsX0_oddOf) := goodIn_app (goodIn_of _ (by decide +kernel)) ggX0_isNested_X0_oddOf
set_option maxRecDepth 20000 in
theorem ggX0_isNested_X0_powerOdd : GoodIn wsX0_isNested wsX0_powerOdd := goodIn_ca (goodIn_r _ [30, 31, 32, 33, 3, 34, 27] (by decide +kernel) (by decide +kernel)) (goodIn_sub (fun _ h => List.mem_cons_of_mem _ (List.mem_append_right _ h)) (by decide +kernel))
set_option maxRecDepth 20000 in
theorem gX0_isNested_X0_powerOdd : GoodIn wsX0_isNested (va_wsS RX0 73 yX0_powerOdd wsX0_powerOdd) := goodIn_app (goodIn_of _ (by decide +kernel)) ggX0_isNested_X0_powerOdd
set_option maxRecDepth 20000 in
theorem ggX0_isNested_X0_shiftOf : GoodIn wsX0_isNested wsX0_shiftOf := goodIn_r _ [23] (by decide +kernel) (by decide +kernel)
set_option maxRecDepth 20000 in
theorem gX0_isNested_X0_shiftOf : GoodIn wsX0_isNested (va_wsS RX0 55 yX0_shiftOf wsX0_shiftOf) := goodIn_app (goodIn_of _ (by decide +kernel)) ggX0_isNested_X0_shiftOf
set_option maxRecDepth 20000 in
theorem ggX0_isNested_X0_bitsOf : GoodIn wsX0_isNested wsX0_bitsOf := goodIn_r _ [43, 44, 45, 3, 46, 47, 48, 49, 50, 51, 52] (by decide +kernel) (by decide +kernel)
set_option maxRecDepth 20000 in
theorem gX0_isNested_X0_bitsOf : GoodIn wsX0_isNested (va_wsS RX0 164 yX0_bitsOf wsX0_bitsOf) := goodIn_app (goodIn_of _ (by decide +kernel)) ggX0_isNested_X0_bitsOf
set_option maxRecDepth 20000 in
theorem ggX0_isNested_X0_powerBits : GoodIn wsX0_isNested wsX0_powerBits := goodIn_ca (goodIn_r _ [55, 35, 36, 3, 37, 38, 39, 40, 15, 16, 17, 18, 19, 20, 21, 22, 23, 28, 29, 30, 31, 32, 33, 34, 27, 41, 42, 43, 44, 45, 46, 47, 48, 49, 50, 51, 52] (by decide +kernel) (by decide +kernel)) (goodIn_sub (fun _ h => List.mem_cons_of_mem _ (List.mem_append_right _ h)) (by decide +kernel))
set_option maxRecDepth 20000 in
theorem gX0_isNested_X0_powerBits : GoodIn wsX0_isNested (va_wsS RX0 157 yX0_powerBits wsX0_powerBits) := goodIn_app (goodIn_of _ (by decide +kernel)) ggX0_isNested_X0_powerBits
theorem dX0_isNested_0 : decode cX0_isNested 0 = .ok (.iload_n 1, 1) := by decide +kernel
theorem dX0_isNested_1 : decode cX0_isNested 1 = .ok (.iload_n 2, 1) := by decide +kernel
theorem dX0_isNested_2 : decode cX0_isNested 2 = .ok (.invokestatic 62, 3) := by decide +kernel
theorem dX0_isNested_5 : decode cX0_isNested 5 = .ok (.iload_n 3, 1) := by decide +kernel
theorem dX0_isNested_6 : decode cX0_isNested 6 = .ok (.iconst 0, 1) := by decide +kernel
theorem dX0_isNested_7 : decode cX0_isNested 7 = .ok (.bipush 64, 2) := by decide +kernel
theorem dX0_isNested_9 : decode cX0_isNested 9 = .ok (.invokestatic 43, 3) := by decide +kernel
theorem dX0_isNested_12 : decode cX0_isNested 12 = .ok (.iload_n 2, 1) := by decide +kernel
theorem dX0_isNested_13 : decode cX0_isNested 13 = .ok (.iload_n 3, 1) := by decide +kernel
theorem dX0_isNested_14 : decode cX0_isNested 14 = .ok (.imul, 1) := by decide +kernel
theorem dX0_isNested_15 : decode cX0_isNested 15 = .ok (.iconst 0, 1) := by decide +kernel
theorem dX0_isNested_16 : decode cX0_isNested 16 = .ok (.bipush 64, 2) := by decide +kernel
theorem dX0_isNested_18 : decode cX0_isNested 18 = .ok (.invokestatic 43, 3) := by decide +kernel
theorem dX0_isNested_21 : decode cX0_isNested 21 = .ok (.iload_n 1, 1) := by decide +kernel
theorem dX0_isNested_22 : decode cX0_isNested 22 = .ok (.iload_n 2, 1) := by decide +kernel
theorem dX0_isNested_23 : decode cX0_isNested 23 = .ok (.invokestatic 66, 3) := by decide +kernel
theorem dX0_isNested_26 : decode cX0_isNested 26 = .ok (.iload_n 1, 1) := by decide +kernel
theorem dX0_isNested_27 : decode cX0_isNested 27 = .ok (.iload_n 2, 1) := by decide +kernel
theorem dX0_isNested_28 : decode cX0_isNested 28 = .ok (.iload_n 3, 1) := by decide +kernel
theorem dX0_isNested_29 : decode cX0_isNested 29 = .ok (.imul, 1) := by decide +kernel
theorem dX0_isNested_30 : decode cX0_isNested 30 = .ok (.invokestatic 66, 3) := by decide +kernel
theorem dX0_isNested_33 : decode cX0_isNested 33 = .ok (.iload_n 1, 1) := by decide +kernel
theorem dX0_isNested_34 : decode cX0_isNested 34 = .ok (.invokestatic 47, 3) := by decide +kernel
theorem dX0_isNested_37 : decode cX0_isNested 37 = .ok (.iload_n 2, 1) := by decide +kernel
theorem dX0_isNested_38 : decode cX0_isNested 38 = .ok (.invokestatic 69, 3) := by decide +kernel
theorem dX0_isNested_41 : decode cX0_isNested 41 = .ok (.istore 4, 2) := by decide +kernel
theorem dX0_isNested_43 : decode cX0_isNested 43 = .ok (.iload_n 1, 1) := by decide +kernel
theorem dX0_isNested_44 : decode cX0_isNested 44 = .ok (.invokestatic 51, 3) := by decide +kernel
theorem dX0_isNested_47 : decode cX0_isNested 47 = .ok (.iload_n 2, 1) := by decide +kernel
theorem dX0_isNested_48 : decode cX0_isNested 48 = .ok (.invokestatic 73, 3) := by decide +kernel
theorem dX0_isNested_51 : decode cX0_isNested 51 = .ok (.lstore 5, 2) := by decide +kernel
theorem dX0_isNested_53 : decode cX0_isNested 53 = .ok (.iload_n 1, 1) := by decide +kernel
theorem dX0_isNested_54 : decode cX0_isNested 54 = .ok (.invokestatic 55, 3) := by decide +kernel
theorem dX0_isNested_57 : decode cX0_isNested 57 = .ok (.iload_n 2, 1) := by decide +kernel
theorem dX0_isNested_58 : decode cX0_isNested 58 = .ok (.imul, 1) := by decide +kernel
theorem dX0_isNested_59 : decode cX0_isNested 59 = .ok (.istore 7, 2) := by decide +kernel
theorem dX0_isNested_61 : decode cX0_isNested 61 = .ok (.iload 4, 2) := by decide +kernel
theorem dX0_isNested_63 : decode cX0_isNested 63 = .ok (.iload_n 3, 1) := by decide +kernel
theorem dX0_isNested_64 : decode cX0_isNested 64 = .ok (.invokestatic 69, 3) := by decide +kernel
theorem dX0_isNested_67 : decode cX0_isNested 67 = .ok (.lload 5, 2) := by decide +kernel
theorem dX0_isNested_69 : decode cX0_isNested 69 = .ok (.iload_n 3, 1) := by decide +kernel
theorem dX0_isNested_70 : decode cX0_isNested 70 = .ok (.invokestatic 73, 3) := by decide +kernel
theorem dX0_isNested_73 : decode cX0_isNested 73 = .ok (.iload 7, 2) := by decide +kernel
theorem dX0_isNested_75 : decode cX0_isNested 75 = .ok (.iload_n 3, 1) := by decide +kernel
theorem dX0_isNested_76 : decode cX0_isNested 76 = .ok (.imul, 1) := by decide +kernel
theorem dX0_isNested_77 : decode cX0_isNested 77 = .ok (.invokestatic 164, 3) := by decide +kernel
theorem dX0_isNested_80 : decode cX0_isNested 80 = .ok (.lstore 8, 2) := by decide +kernel
theorem dX0_isNested_82 : decode cX0_isNested 82 = .ok (.lload 8, 2) := by decide +kernel
theorem dX0_isNested_84 : decode cX0_isNested 84 = .ok (.iload_n 1, 1) := by decide +kernel
theorem dX0_isNested_85 : decode cX0_isNested 85 = .ok (.iload_n 2, 1) := by decide +kernel
theorem dX0_isNested_86 : decode cX0_isNested 86 = .ok (.iload_n 3, 1) := by decide +kernel
theorem dX0_isNested_87 : decode cX0_isNested 87 = .ok (.imul, 1) := by decide +kernel
theorem dX0_isNested_88 : decode cX0_isNested 88 = .ok (.invokestatic 157, 3) := by decide +kernel
theorem dX0_isNested_91 : decode cX0_isNested 91 = .ok (.lcmp, 1) := by decide +kernel
theorem dX0_isNested_92 : decode cX0_isNested 92 = .ok (.ifCond .ne 7, 3) := by decide +kernel
theorem dX0_isNested_95 : decode cX0_isNested 95 = .ok (.iconst 1, 1) := by decide +kernel
theorem dX0_isNested_96 : decode cX0_isNested 96 = .ok (.goto 4, 3) := by decide +kernel
theorem dX0_isNested_99 : decode cX0_isNested 99 = .ok (.iconst 0, 1) := by decide +kernel
theorem dX0_isNested_100 : decode cX0_isNested 100 = .ok (.ireturn, 1) := by decide +kernel
set_option maxRecDepth 20000 in
theorem ggX0_rootBits_X0_checkRange : GoodIn wsX0_rootBits wsX0_checkRange := goodIn_ca (goodIn_r _ [4, 5, 6] (by decide +kernel) (by decide +kernel)) (goodIn_sub (fun _ h => List.mem_cons_of_mem _ (List.mem_append_right _ h)) (by decide +kernel))
set_option maxRecDepth 20000 in
theorem gX0_rootBits_X0_checkRange : GoodIn wsX0_rootBits (va_wsS RX0 43 yX0_checkRange wsX0_checkRange) := goodIn_app (goodIn_of _ (by decide +kernel)) ggX0_rootBits_X0_checkRange
set_option maxRecDepth 20000 in
theorem ggX0_rootBits_X0_nearestRootBits : GoodIn wsX0_rootBits wsX0_nearestRootBits := goodIn_r _ [9, 10, 11, 3, 12, 13, 14, 15, 16, 17, 18, 19, 20, 21, 22, 23, 24, 25, 26, 27, 28, 29] (by decide +kernel) (by decide +kernel)
set_option maxRecDepth 20000 in
theorem gX0_rootBits_X0_nearestRootBits : GoodIn wsX0_rootBits (va_wsS RX0 168 yX0_nearestRootBits wsX0_nearestRootBits) := goodIn_app (goodIn_of _ (by decide +kernel)) ggX0_rootBits_X0_nearestRootBits
theorem dX0_rootBits_0 : decode cX0_rootBits 0 = .ok (.iload_n 1, 1) := by decide +kernel
theorem dX0_rootBits_1 : decode cX0_rootBits 1 = .ok (.iconst 0, 1) := by decide +kernel
theorem dX0_rootBits_2 : decode cX0_rootBits 2 = .ok (.sipush 4095, 3) := by decide +kernel
theorem dX0_rootBits_5 : decode cX0_rootBits 5 = .ok (.invokestatic 43, 3) := by decide +kernel
theorem dX0_rootBits_8 : decode cX0_rootBits 8 = .ok (.iload_n 1, 1) := by decide +kernel
theorem dX0_rootBits_9 : decode cX0_rootBits 9 = .ok (.invokestatic 168, 3) := by decide +kernel
theorem dX0_rootBits_12 : decode cX0_rootBits 12 = .ok (.lreturn, 1) := by decide +kernel
set_option maxRecDepth 20000 in
theorem ggX0_isRoot_X0_checkRange : GoodIn wsX0_isRoot wsX0_checkRange := goodIn_ca (goodIn_r _ [4, 5, 6] (by decide +kernel) (by decide +kernel)) (goodIn_sub (fun _ h => List.mem_cons_of_mem _ (List.mem_append_right _ h)) (by decide +kernel))
set_option maxRecDepth 20000 in
theorem gX0_isRoot_X0_checkRange : GoodIn wsX0_isRoot (va_wsS RX0 43 yX0_checkRange wsX0_checkRange) := goodIn_app (goodIn_of _ (by decide +kernel)) ggX0_isRoot_X0_checkRange
set_option maxRecDepth 20000 in
theorem ggX0_isRoot_X0_nearestRoot : GoodIn wsX0_isRoot wsX0_nearestRoot := goodIn_r _ [9, 10, 11, 3, 12, 13, 14, 15, 16, 17] (by decide +kernel) (by decide +kernel)
set_option maxRecDepth 20000 in
theorem gX0_isRoot_X0_nearestRoot : GoodIn wsX0_isRoot (va_wsS RX0 171 yX0_nearestRoot wsX0_nearestRoot) := goodIn_app (goodIn_of _ (by decide +kernel)) ggX0_isRoot_X0_nearestRoot
set_option maxRecDepth 20000 in
theorem ggX0_isRoot_X0_isNearestRoot : GoodIn wsX0_isRoot wsX0_isNearestRoot := goodIn_r _ [20, 10, 11, 3, 12, 21, 22, 23, 24, 25, 26, 27, 28, 29] (by decide +kernel) (by decide +kernel)
set_option maxRecDepth 20000 in
theorem gX0_isRoot_X0_isNearestRoot : GoodIn wsX0_isRoot (va_wsS RX0 174 yX0_isNearestRoot wsX0_isNearestRoot) := goodIn_app (goodIn_of _ (by decide +kernel)) ggX0_isRoot_X0_isNearestRoot
theorem dX0_isRoot_0 : decode cX0_isRoot 0 = .ok (.iload_n 1, 1) := by decide +kernel
theorem dX0_isRoot_1 : decode cX0_isRoot 1 = .ok (.iconst 0, 1) := by decide +kernel
theorem dX0_isRoot_2 : decode cX0_isRoot 2 = .ok (.sipush 4095, 3) := by decide +kernel
theorem dX0_isRoot_5 : decode cX0_isRoot 5 = .ok (.invokestatic 43, 3) := by decide +kernel
theorem dX0_isRoot_8 : decode cX0_isRoot 8 = .ok (.iload_n 1, 1) := by decide +kernel
theorem dX0_isRoot_9 : decode cX0_isRoot 9 = .ok (.iload_n 1, 1) := by decide +kernel
theorem dX0_isRoot_10 : decode cX0_isRoot 10 = .ok (.invokestatic 171, 3) := by decide +kernel
theorem dX0_isRoot_13 : decode cX0_isRoot 13 = .ok (.invokestatic 174, 3) := by decide +kernel
theorem dX0_isRoot_16 : decode cX0_isRoot 16 = .ok (.ireturn, 1) := by decide +kernel
set_option maxRecDepth 20000 in
theorem ggX0_rootAt_X0_checkRange : GoodIn wsX0_rootAt wsX0_checkRange := goodIn_ca (goodIn_r _ [4, 5, 6] (by decide +kernel) (by decide +kernel)) (goodIn_sub (fun _ h => List.mem_cons_of_mem _ (List.mem_append_right _ h)) (by decide +kernel))
set_option maxRecDepth 20000 in
theorem gX0_rootAt_X0_checkRange : GoodIn wsX0_rootAt (va_wsS RX0 43 yX0_checkRange wsX0_checkRange) := goodIn_app (goodIn_of _ (by decide +kernel)) ggX0_rootAt_X0_checkRange
set_option maxRecDepth 20000 in
theorem ggX0_rootAt_X0_floorRoot : GoodIn wsX0_rootAt wsX0_floorRoot := goodIn_r _ [9, 10, 11] (by decide +kernel) (by decide +kernel)
set_option maxRecDepth 20000 in
theorem gX0_rootAt_X0_floorRoot : GoodIn wsX0_rootAt (va_wsS RX0 178 yX0_floorRoot wsX0_floorRoot) := goodIn_app (goodIn_of _ (by decide +kernel)) ggX0_rootAt_X0_floorRoot
theorem dX0_rootAt_0 : decode cX0_rootAt 0 = .ok (.iload_n 1, 1) := by decide +kernel
theorem dX0_rootAt_1 : decode cX0_rootAt 1 = .ok (.iconst 0, 1) := by decide +kernel
theorem dX0_rootAt_2 : decode cX0_rootAt 2 = .ok (.sipush 4095, 3) := by decide +kernel
theorem dX0_rootAt_5 : decode cX0_rootAt 5 = .ok (.invokestatic 43, 3) := by decide +kernel
theorem dX0_rootAt_8 : decode cX0_rootAt 8 = .ok (.iload_n 2, 1) := by decide +kernel
theorem dX0_rootAt_9 : decode cX0_rootAt 9 = .ok (.iconst 0, 1) := by decide +kernel
theorem dX0_rootAt_10 : decode cX0_rootAt 10 = .ok (.bipush 16, 2) := by decide +kernel
theorem dX0_rootAt_12 : decode cX0_rootAt 12 = .ok (.invokestatic 43, 3) := by decide +kernel
theorem dX0_rootAt_15 : decode cX0_rootAt 15 = .ok (.iload_n 1, 1) := by decide +kernel
theorem dX0_rootAt_16 : decode cX0_rootAt 16 = .ok (.iload_n 2, 1) := by decide +kernel
theorem dX0_rootAt_17 : decode cX0_rootAt 17 = .ok (.invokestatic 178, 3) := by decide +kernel
theorem dX0_rootAt_20 : decode cX0_rootAt 20 = .ok (.lreturn, 1) := by decide +kernel
set_option maxRecDepth 20000 in
theorem ggX0_backBits_X0_checkRange : GoodIn wsX0_backBits wsX0_checkRange := goodIn_ca (goodIn_r _ [4, 5, 6] (by decide +kernel) (by decide +kernel)) (goodIn_sub (fun _ h => List.mem_cons_of_mem _ (List.mem_append_right _ h)) (by decide +kernel))
set_option maxRecDepth 20000 in
theorem gX0_backBits_X0_checkRange : GoodIn wsX0_backBits (va_wsS RX0 43 yX0_checkRange wsX0_checkRange) := goodIn_app (goodIn_of _ (by decide +kernel)) ggX0_backBits_X0_checkRange
set_option maxRecDepth 20000 in
theorem ggX0_backBits_X0_nearestBackBits : GoodIn wsX0_backBits wsX0_nearestBackBits := goodIn_r _ [9, 10, 11, 3, 12, 13, 14, 15, 16, 17, 18, 19, 20, 21, 22, 23, 24, 25, 26, 27, 28, 29, 30, 31, 32, 33, 34, 35, 36, 37, 38, 39, 40, 41, 42, 43, 44, 45] (by decide +kernel) (by decide +kernel)
set_option maxRecDepth 20000 in
theorem gX0_backBits_X0_nearestBackBits : GoodIn wsX0_backBits (va_wsS RX0 181 yX0_nearestBackBits wsX0_nearestBackBits) := goodIn_app (goodIn_of _ (by decide +kernel)) ggX0_backBits_X0_nearestBackBits
theorem dX0_backBits_0 : decode cX0_backBits 0 = .ok (.iload_n 1, 1) := by decide +kernel
theorem dX0_backBits_1 : decode cX0_backBits 1 = .ok (.iconst 0, 1) := by decide +kernel
theorem dX0_backBits_2 : decode cX0_backBits 2 = .ok (.sipush 4095, 3) := by decide +kernel
theorem dX0_backBits_5 : decode cX0_backBits 5 = .ok (.invokestatic 43, 3) := by decide +kernel
theorem dX0_backBits_8 : decode cX0_backBits 8 = .ok (.iload_n 1, 1) := by decide +kernel
theorem dX0_backBits_9 : decode cX0_backBits 9 = .ok (.invokestatic 181, 3) := by decide +kernel
theorem dX0_backBits_12 : decode cX0_backBits 12 = .ok (.lreturn, 1) := by decide +kernel
set_option maxRecDepth 20000 in
theorem ggX0_isBack_X0_checkRange : GoodIn wsX0_isBack wsX0_checkRange := goodIn_ca (goodIn_r _ [4, 5, 6] (by decide +kernel) (by decide +kernel)) (goodIn_sub (fun _ h => List.mem_cons_of_mem _ (List.mem_append_right _ h)) (by decide +kernel))
set_option maxRecDepth 20000 in
theorem gX0_isBack_X0_checkRange : GoodIn wsX0_isBack (va_wsS RX0 43 yX0_checkRange wsX0_checkRange) := goodIn_app (goodIn_of _ (by decide +kernel)) ggX0_isBack_X0_checkRange
set_option maxRecDepth 20000 in
theorem ggX0_isBack_X0_nearestBackBits : GoodIn wsX0_isBack wsX0_nearestBackBits := goodIn_r _ [9, 10, 11, 3, 12, 13, 14, 15, 16, 17, 18, 19, 20, 21, 22, 23, 24, 25, 26, 27, 28, 29, 30, 31, 32, 33, 34, 35, 36, 37, 38, 39, 40, 41, 42, 43, 44, 45] (by decide +kernel) (by decide +kernel)
set_option maxRecDepth 20000 in
theorem gX0_isBack_X0_nearestBackBits : GoodIn wsX0_isBack (va_wsS RX0 181 yX0_nearestBackBits wsX0_nearestBackBits) := goodIn_app (goodIn_of _ (by decide +kernel)) ggX0_isBack_X0_nearestBackBits
set_option maxRecDepth 20000 in
theorem ggX0_isBack_X0_signOf : GoodIn wsX0_isBack wsX0_signOf := goodIn_r _ [48] (by decide +kernel) (by decide +kernel)
set_option maxRecDepth 20000 in
theorem gX0_isBack_X0_signOf : GoodIn wsX0_isBack (va_wsS RX0 47 yX0_signOf wsX0_signOf) := goodIn_app (goodIn_of _ (by decide +kernel)) ggX0_isBack_X0_signOf
set_option maxRecDepth 20000 in
theorem ggX0_isBack_X0_oddOf : GoodIn wsX0_isBack wsX0_oddOf := goodIn_r _ [51, 52, 53, 3, 54, 55, 56, 57] (by decide +kernel) (by decide +kernel)
set_option maxRecDepth 20000 in
theorem gX0_isBack_X0_oddOf : GoodIn wsX0_isBack (va_wsS RX0 51 yX0_oddOf wsX0_oddOf) := goodIn_app (goodIn_of _ (by decide +kernel)) ggX0_isBack_X0_oddOf
set_option maxRecDepth 20000 in
theorem ggX0_isBack_X0_shiftOf : GoodIn wsX0_isBack wsX0_shiftOf := goodIn_r _ [57] (by decide +kernel) (by decide +kernel)
set_option maxRecDepth 20000 in
theorem gX0_isBack_X0_shiftOf : GoodIn wsX0_isBack (va_wsS RX0 55 yX0_shiftOf wsX0_shiftOf) := goodIn_app (goodIn_of _ (by decide +kernel)) ggX0_isBack_X0_shiftOf
set_option maxRecDepth 20000 in
theorem ggX0_isBack_X0_bitsOf : GoodIn wsX0_isBack wsX0_bitsOf := goodIn_r _ [60, 28, 29, 3, 30, 40, 41, 42, 43, 44, 45] (by decide +kernel) (by decide +kernel)
set_option maxRecDepth 20000 in
theorem gX0_isBack_X0_bitsOf : GoodIn wsX0_isBack (va_wsS RX0 164 yX0_bitsOf wsX0_bitsOf) := goodIn_app (goodIn_of _ (by decide +kernel)) ggX0_isBack_X0_bitsOf
theorem dX0_isBack_0 : decode cX0_isBack 0 = .ok (.iload_n 1, 1) := by decide +kernel
theorem dX0_isBack_1 : decode cX0_isBack 1 = .ok (.iconst 0, 1) := by decide +kernel
theorem dX0_isBack_2 : decode cX0_isBack 2 = .ok (.sipush 4095, 3) := by decide +kernel
theorem dX0_isBack_5 : decode cX0_isBack 5 = .ok (.invokestatic 43, 3) := by decide +kernel
theorem dX0_isBack_8 : decode cX0_isBack 8 = .ok (.iload_n 1, 1) := by decide +kernel
theorem dX0_isBack_9 : decode cX0_isBack 9 = .ok (.invokestatic 181, 3) := by decide +kernel
theorem dX0_isBack_12 : decode cX0_isBack 12 = .ok (.iload_n 1, 1) := by decide +kernel
theorem dX0_isBack_13 : decode cX0_isBack 13 = .ok (.invokestatic 47, 3) := by decide +kernel
theorem dX0_isBack_16 : decode cX0_isBack 16 = .ok (.iload_n 1, 1) := by decide +kernel
theorem dX0_isBack_17 : decode cX0_isBack 17 = .ok (.invokestatic 51, 3) := by decide +kernel
theorem dX0_isBack_20 : decode cX0_isBack 20 = .ok (.iload_n 1, 1) := by decide +kernel
theorem dX0_isBack_21 : decode cX0_isBack 21 = .ok (.invokestatic 55, 3) := by decide +kernel
theorem dX0_isBack_24 : decode cX0_isBack 24 = .ok (.invokestatic 164, 3) := by decide +kernel
theorem dX0_isBack_27 : decode cX0_isBack 27 = .ok (.lcmp, 1) := by decide +kernel
theorem dX0_isBack_28 : decode cX0_isBack 28 = .ok (.ifCond .ne 7, 3) := by decide +kernel
theorem dX0_isBack_31 : decode cX0_isBack 31 = .ok (.iconst 1, 1) := by decide +kernel
theorem dX0_isBack_32 : decode cX0_isBack 32 = .ok (.goto 4, 3) := by decide +kernel
theorem dX0_isBack_35 : decode cX0_isBack 35 = .ok (.iconst 0, 1) := by decide +kernel
theorem dX0_isBack_36 : decode cX0_isBack 36 = .ok (.ireturn, 1) := by decide +kernel
set_option maxRecDepth 20000 in
theorem ggX0_squareBits_X0_checkSlot : GoodIn wsX0_squareBits wsX0_checkSlot := goodIn_ca (goodIn_r _ [6, 7, 8] (by decide +kernel) (by decide +kernel)) (goodIn_sub (fun _ h => List.mem_cons_of_mem _ (List.mem_append_left _ (List.mem_append_right _ h))) (by decide +kernel))
set_option maxRecDepth 20000 in
theorem gX0_squareBits_X0_checkSlot : GoodIn wsX0_squareBits (va_wsS RX0 39 yX0_checkSlot wsX0_checkSlot) := goodIn_app (goodIn_of _ (by decide +kernel)) ggX0_squareBits_X0_checkSlot
set_option maxRecDepth 20000 in
theorem ggX0_squareBits_X0_checkSquared : GoodIn wsX0_squareBits wsX0_checkSquared := goodIn_ca (goodIn_ca (goodIn_r _ [12, 13, 14, 2, 37, 38, 39, 40, 41, 42, 43, 44, 45] (by decide +kernel) (by decide +kernel)) (goodIn_sub (fun _ h => List.mem_cons_of_mem _ (List.mem_append_left _ (List.mem_append_left _ (List.mem_append_right _ h)))) (by decide +kernel))) (goodIn_sub (fun _ h => List.mem_cons_of_mem _ (List.mem_append_right _ h)) (by decide +kernel))
set_option maxRecDepth 20000 in
theorem gX0_squareBits_X0_checkSquared : GoodIn wsX0_squareBits (wsV RX0 184 RX0 yX0_checkSquared wsX0_checkSquared) := goodIn_app (goodIn_of _ (by decide +kernel)) ggX0_squareBits_X0_checkSquared
set_option maxRecDepth 20000 in
theorem ggX0_squareBits_X0_nearestSquareBits : GoodIn wsX0_squareBits wsX0_nearestSquareBits := goodIn_r _ [17, 18, 19, 20, 5, 21, 22, 23, 24, 25, 26, 27, 28, 29, 30, 31, 32, 33, 34, 35, 36] (by decide +kernel) (by decide +kernel)
set_option maxRecDepth 20000 in
theorem gX0_squareBits_X0_nearestSquareBits : GoodIn wsX0_squareBits (va_wsS RX0 187 yX0_nearestSquareBits wsX0_nearestSquareBits) := goodIn_app (goodIn_of _ (by decide +kernel)) ggX0_squareBits_X0_nearestSquareBits
theorem dX0_squareBits_0 : decode cX0_squareBits 0 = .ok (.iload_n 1, 1) := by decide +kernel
theorem dX0_squareBits_1 : decode cX0_squareBits 1 = .ok (.invokestatic 39, 3) := by decide +kernel
theorem dX0_squareBits_4 : decode cX0_squareBits 4 = .ok (.aload_n 0, 1) := by decide +kernel
theorem dX0_squareBits_5 : decode cX0_squareBits 5 = .ok (.iload_n 1, 1) := by decide +kernel
theorem dX0_squareBits_6 : decode cX0_squareBits 6 = .ok (.invokevirtual 184, 3) := by decide +kernel
theorem dX0_squareBits_9 : decode cX0_squareBits 9 = .ok (.aload_n 0, 1) := by decide +kernel
theorem dX0_squareBits_10 : decode cX0_squareBits 10 = .ok (.getfield 13, 3) := by decide +kernel
theorem dX0_squareBits_13 : decode cX0_squareBits 13 = .ok (.iload_n 1, 1) := by decide +kernel
theorem dX0_squareBits_14 : decode cX0_squareBits 14 = .ok (.laload, 1) := by decide +kernel
theorem dX0_squareBits_15 : decode cX0_squareBits 15 = .ok (.aload_n 0, 1) := by decide +kernel
theorem dX0_squareBits_16 : decode cX0_squareBits 16 = .ok (.getfield 17, 3) := by decide +kernel
theorem dX0_squareBits_19 : decode cX0_squareBits 19 = .ok (.iload_n 1, 1) := by decide +kernel
theorem dX0_squareBits_20 : decode cX0_squareBits 20 = .ok (.iaload, 1) := by decide +kernel
theorem dX0_squareBits_21 : decode cX0_squareBits 21 = .ok (.invokestatic 187, 3) := by decide +kernel
theorem dX0_squareBits_24 : decode cX0_squareBits 24 = .ok (.lreturn, 1) := by decide +kernel
set_option maxRecDepth 20000 in
theorem ggX0_isTimes_X0_checkSlot : GoodIn wsX0_isTimes wsX0_checkSlot := goodIn_ca (goodIn_r _ [7, 8, 9] (by decide +kernel) (by decide +kernel)) (goodIn_sub (fun _ h => List.mem_cons_of_mem _ (List.mem_append_left _ (List.mem_append_right _ h))) (by decide +kernel))
set_option maxRecDepth 20000 in
theorem gX0_isTimes_X0_checkSlot : GoodIn wsX0_isTimes (va_wsS RX0 39 yX0_checkSlot wsX0_checkSlot) := goodIn_app (goodIn_of _ (by decide +kernel)) ggX0_isTimes_X0_checkSlot
set_option maxRecDepth 20000 in
theorem ggX0_isTimes_X0_checkSquared : GoodIn wsX0_isTimes wsX0_checkSquared := goodIn_ca (goodIn_ca (goodIn_r _ [13, 14, 15, 3, 53, 54, 55, 56, 57, 58, 59, 60, 61] (by decide +kernel) (by decide +kernel)) (goodIn_sub (fun _ h => List.mem_cons_of_mem _ (List.mem_append_left _ (List.mem_append_left _ (List.mem_append_right _ h)))) (by decide +kernel))) (goodIn_sub (fun _ h => List.mem_cons_of_mem _ (List.mem_append_right _ h)) (by decide +kernel))
set_option maxRecDepth 20000 in
theorem gX0_isTimes_X0_checkSquared : GoodIn wsX0_isTimes (wsV RX0 184 RX0 yX0_checkSquared wsX0_checkSquared) := goodIn_app (goodIn_of _ (by decide +kernel)) ggX0_isTimes_X0_checkSquared
set_option maxRecDepth 20000 in
theorem ggX0_isTimes_X0_asDouble : GoodIn wsX0_isTimes wsX0_asDouble := goodIn_r _ [18, 19, 20, 6, 21, 22, 23] (by decide +kernel) (by decide +kernel)
set_option maxRecDepth 20000 in
theorem gX0_isTimes_X0_asDouble : GoodIn wsX0_isTimes (va_wsS RX0 190 yX0_asDouble wsX0_asDouble) := goodIn_app (goodIn_of _ (by decide +kernel)) ggX0_isTimes_X0_asDouble
set_option maxRecDepth 20000 in
theorem ggX0_isTimes_X0_bitsOfDouble : GoodIn wsX0_isTimes wsX0_bitsOfDouble := goodIn_r _ [26, 27, 28, 29, 6, 30, 19, 20, 21, 22, 23, 31, 32, 33, 34, 35, 36] (by decide +kernel) (by decide +kernel)
set_option maxRecDepth 20000 in
theorem gX0_isTimes_X0_bitsOfDouble : GoodIn wsX0_isTimes (va_wsS RX0 153 yX0_bitsOfDouble wsX0_bitsOfDouble) := goodIn_app (goodIn_of _ (by decide +kernel)) ggX0_isTimes_X0_bitsOfDouble
set_option maxRecDepth 20000 in
theorem ggX0_isTimes_X0_nearestSquareBits : GoodIn wsX0_isTimes wsX0_nearestSquareBits := goodIn_r _ [39, 40, 41, 42, 6, 43, 44, 45, 46, 47, 48, 49, 50, 51, 52, 31, 32, 33, 34, 35, 36] (by decide +kernel) (by decide +kernel)
set_option maxRecDepth 20000 in
theorem gX0_isTimes_X0_nearestSquareBits : GoodIn wsX0_isTimes (va_wsS RX0 187 yX0_nearestSquareBits wsX0_nearestSquareBits) := goodIn_app (goodIn_of _ (by decide +kernel)) ggX0_isTimes_X0_nearestSquareBits
theorem dX0_isTimes_0 : decode cX0_isTimes 0 = .ok (.iload_n 1, 1) := by decide +kernel
theorem dX0_isTimes_1 : decode cX0_isTimes 1 = .ok (.invokestatic 39, 3) := by decide +kernel
theorem dX0_isTimes_4 : decode cX0_isTimes 4 = .ok (.aload_n 0, 1) := by decide +kernel
theorem dX0_isTimes_5 : decode cX0_isTimes 5 = .ok (.iload_n 1, 1) := by decide +kernel
theorem dX0_isTimes_6 : decode cX0_isTimes 6 = .ok (.invokevirtual 184, 3) := by decide +kernel
theorem dX0_isTimes_9 : decode cX0_isTimes 9 = .ok (.aload_n 0, 1) := by decide +kernel
theorem dX0_isTimes_10 : decode cX0_isTimes 10 = .ok (.getfield 9, 3) := by decide +kernel
theorem dX0_isTimes_13 : decode cX0_isTimes 13 = .ok (.iload_n 1, 1) := by decide +kernel
theorem dX0_isTimes_14 : decode cX0_isTimes 14 = .ok (.iaload, 1) := by decide +kernel
theorem dX0_isTimes_15 : decode cX0_isTimes 15 = .ok (.aload_n 0, 1) := by decide +kernel
theorem dX0_isTimes_16 : decode cX0_isTimes 16 = .ok (.getfield 13, 3) := by decide +kernel
theorem dX0_isTimes_19 : decode cX0_isTimes 19 = .ok (.iload_n 1, 1) := by decide +kernel
theorem dX0_isTimes_20 : decode cX0_isTimes 20 = .ok (.laload, 1) := by decide +kernel
theorem dX0_isTimes_21 : decode cX0_isTimes 21 = .ok (.aload_n 0, 1) := by decide +kernel
theorem dX0_isTimes_22 : decode cX0_isTimes 22 = .ok (.getfield 17, 3) := by decide +kernel
theorem dX0_isTimes_25 : decode cX0_isTimes 25 = .ok (.iload_n 1, 1) := by decide +kernel
theorem dX0_isTimes_26 : decode cX0_isTimes 26 = .ok (.iaload, 1) := by decide +kernel
theorem dX0_isTimes_27 : decode cX0_isTimes 27 = .ok (.invokestatic 190, 3) := by decide +kernel
theorem dX0_isTimes_30 : decode cX0_isTimes 30 = .ok (.dstore_n 2, 1) := by decide +kernel
theorem dX0_isTimes_31 : decode cX0_isTimes 31 = .ok (.dload_n 2, 1) := by decide +kernel
theorem dX0_isTimes_32 : decode cX0_isTimes 32 = .ok (.dload_n 2, 1) := by decide +kernel
theorem dX0_isTimes_33 : decode cX0_isTimes 33 = .ok (.dmul, 1) := by decide +kernel
theorem dX0_isTimes_34 : decode cX0_isTimes 34 = .ok (.invokestatic 153, 3) := by decide +kernel
theorem dX0_isTimes_37 : decode cX0_isTimes 37 = .ok (.aload_n 0, 1) := by decide +kernel
theorem dX0_isTimes_38 : decode cX0_isTimes 38 = .ok (.getfield 13, 3) := by decide +kernel
theorem dX0_isTimes_41 : decode cX0_isTimes 41 = .ok (.iload_n 1, 1) := by decide +kernel
theorem dX0_isTimes_42 : decode cX0_isTimes 42 = .ok (.laload, 1) := by decide +kernel
theorem dX0_isTimes_43 : decode cX0_isTimes 43 = .ok (.aload_n 0, 1) := by decide +kernel
theorem dX0_isTimes_44 : decode cX0_isTimes 44 = .ok (.getfield 17, 3) := by decide +kernel
theorem dX0_isTimes_47 : decode cX0_isTimes 47 = .ok (.iload_n 1, 1) := by decide +kernel
theorem dX0_isTimes_48 : decode cX0_isTimes 48 = .ok (.iaload, 1) := by decide +kernel
theorem dX0_isTimes_49 : decode cX0_isTimes 49 = .ok (.invokestatic 187, 3) := by decide +kernel
theorem dX0_isTimes_52 : decode cX0_isTimes 52 = .ok (.lcmp, 1) := by decide +kernel
theorem dX0_isTimes_53 : decode cX0_isTimes 53 = .ok (.ifCond .ne 7, 3) := by decide +kernel
theorem dX0_isTimes_56 : decode cX0_isTimes 56 = .ok (.iconst 1, 1) := by decide +kernel
theorem dX0_isTimes_57 : decode cX0_isTimes 57 = .ok (.goto 4, 3) := by decide +kernel
theorem dX0_isTimes_60 : decode cX0_isTimes 60 = .ok (.iconst 0, 1) := by decide +kernel
theorem dX0_isTimes_61 : decode cX0_isTimes 61 = .ok (.ireturn, 1) := by decide +kernel
set_option maxRecDepth 20000 in
theorem ggX0_isSound_X0_asDouble : GoodIn wsX0_isSound wsX0_asDouble := goodIn_r _ [7, 8, 9, 6, 10, 11, 12] (by decide +kernel) (by decide +kernel)
set_option maxRecDepth 20000 in
theorem gX0_isSound_X0_asDouble : GoodIn wsX0_isSound (va_wsS RX0 190 yX0_asDouble wsX0_asDouble) := goodIn_app (goodIn_of _ (by decide +kernel)) ggX0_isSound_X0_asDouble
set_option maxRecDepth 20000 in
theorem ggX0_isSound_X0_bitsOfDouble : GoodIn wsX0_isSound wsX0_bitsOfDouble := goodIn_r _ [15, 16, 17, 18, 6, 19, 8, 9, 10, 11, 12, 20, 21, 22, 23, 24, 25] (by decide +kernel) (by decide +kernel)
set_option maxRecDepth 20000 in
theorem gX0_isSound_X0_bitsOfDouble : GoodIn wsX0_isSound (va_wsS RX0 153 yX0_bitsOfDouble wsX0_bitsOfDouble) := goodIn_app (goodIn_of _ (by decide +kernel)) ggX0_isSound_X0_bitsOfDouble
set_option maxRecDepth 20000 in
theorem ggX0_isSound_X0_slotBits : GoodIn wsX0_isSound wsX0_slotBits := goodIn_ca (goodIn_r _ [29, 1, 2, 3, 30, 31, 6, 32, 33, 34, 35, 20, 21, 22, 23, 24, 25, 36, 37, 38, 39, 40, 41, 42, 43, 44] (by decide +kernel) (by decide +kernel)) (goodIn_sub (fun _ h => List.mem_cons_of_mem _ (List.mem_append_right _ h)) (by decide +kernel))
set_option maxRecDepth 20000 in
theorem gX0_isSound_X0_slotBits : GoodIn wsX0_isSound (wsV RX0 103 RX0 yX0_slotBits wsX0_slotBits) := goodIn_app (goodIn_of _ (by decide +kernel)) ggX0_isSound_X0_slotBits
theorem dX0_isSound_0 : decode cX0_isSound 0 = .ok (.iconst 0, 1) := by decide +kernel
theorem dX0_isSound_1 : decode cX0_isSound 1 = .ok (.istore_n 1, 1) := by decide +kernel
theorem dX0_isSound_2 : decode cX0_isSound 2 = .ok (.iload_n 1, 1) := by decide +kernel
theorem dX0_isSound_3 : decode cX0_isSound 3 = .ok (.bipush 8, 2) := by decide +kernel
theorem dX0_isSound_5 : decode cX0_isSound 5 = .ok (.if_icmp .ge 44, 3) := by decide +kernel
theorem dX0_isSound_8 : decode cX0_isSound 8 = .ok (.aload_n 0, 1) := by decide +kernel
theorem dX0_isSound_9 : decode cX0_isSound 9 = .ok (.getfield 9, 3) := by decide +kernel
theorem dX0_isSound_12 : decode cX0_isSound 12 = .ok (.iload_n 1, 1) := by decide +kernel
theorem dX0_isSound_13 : decode cX0_isSound 13 = .ok (.iaload, 1) := by decide +kernel
theorem dX0_isSound_14 : decode cX0_isSound 14 = .ok (.aload_n 0, 1) := by decide +kernel
theorem dX0_isSound_15 : decode cX0_isSound 15 = .ok (.getfield 13, 3) := by decide +kernel
theorem dX0_isSound_18 : decode cX0_isSound 18 = .ok (.iload_n 1, 1) := by decide +kernel
theorem dX0_isSound_19 : decode cX0_isSound 19 = .ok (.laload, 1) := by decide +kernel
theorem dX0_isSound_20 : decode cX0_isSound 20 = .ok (.aload_n 0, 1) := by decide +kernel
theorem dX0_isSound_21 : decode cX0_isSound 21 = .ok (.getfield 17, 3) := by decide +kernel
theorem dX0_isSound_24 : decode cX0_isSound 24 = .ok (.iload_n 1, 1) := by decide +kernel
theorem dX0_isSound_25 : decode cX0_isSound 25 = .ok (.iaload, 1) := by decide +kernel
theorem dX0_isSound_26 : decode cX0_isSound 26 = .ok (.invokestatic 190, 3) := by decide +kernel
theorem dX0_isSound_29 : decode cX0_isSound 29 = .ok (.invokestatic 153, 3) := by decide +kernel
theorem dX0_isSound_32 : decode cX0_isSound 32 = .ok (.aload_n 0, 1) := by decide +kernel
theorem dX0_isSound_33 : decode cX0_isSound 33 = .ok (.iload_n 1, 1) := by decide +kernel
theorem dX0_isSound_34 : decode cX0_isSound 34 = .ok (.invokevirtual 103, 3) := by decide +kernel
theorem dX0_isSound_37 : decode cX0_isSound 37 = .ok (.lcmp, 1) := by decide +kernel
theorem dX0_isSound_38 : decode cX0_isSound 38 = .ok (.ifCond .eq 5, 3) := by decide +kernel
theorem dX0_isSound_41 : decode cX0_isSound 41 = .ok (.iconst 0, 1) := by decide +kernel
theorem dX0_isSound_42 : decode cX0_isSound 42 = .ok (.ireturn, 1) := by decide +kernel
theorem dX0_isSound_43 : decode cX0_isSound 43 = .ok (.iinc 1 1, 3) := by decide +kernel
theorem dX0_isSound_46 : decode cX0_isSound 46 = .ok (.goto (-44), 3) := by decide +kernel
theorem dX0_isSound_49 : decode cX0_isSound 49 = .ok (.iconst 1, 1) := by decide +kernel
theorem dX0_isSound_50 : decode cX0_isSound 50 = .ok (.ireturn, 1) := by decide +kernel
theorem dX0_checkSlot_0 : decode cX0_checkSlot 0 = .ok (.iload_n 0, 1) := by decide +kernel
theorem dX0_checkSlot_1 : decode cX0_checkSlot 1 = .ok (.ifCond .lt 9, 3) := by decide +kernel
theorem dX0_checkSlot_4 : decode cX0_checkSlot 4 = .ok (.iload_n 0, 1) := by decide +kernel
theorem dX0_checkSlot_5 : decode cX0_checkSlot 5 = .ok (.bipush 8, 2) := by decide +kernel
theorem dX0_checkSlot_7 : decode cX0_checkSlot 7 = .ok (.if_icmp .lt 13, 3) := by decide +kernel
theorem dX0_checkSlot_10 : decode cX0_checkSlot 10 = .ok (.new 194, 3) := by decide +kernel
theorem dX0_checkSlot_13 : decode cX0_checkSlot 13 = .ok (.dup, 1) := by decide +kernel
theorem dX0_checkSlot_14 : decode cX0_checkSlot 14 = .ok (.ldc 196, 2) := by decide +kernel
theorem dX0_checkSlot_16 : decode cX0_checkSlot 16 = .ok (.invokespecial 198, 3) := by decide +kernel
theorem dX0_checkSlot_19 : decode cX0_checkSlot 19 = .ok (.athrow, 1) := by decide +kernel
theorem dX0_checkSlot_20 : decode cX0_checkSlot 20 = .ok (.return_, 1) := by decide +kernel
theorem dX0_checkRange_0 : decode cX0_checkRange 0 = .ok (.iload_n 0, 1) := by decide +kernel
theorem dX0_checkRange_1 : decode cX0_checkRange 1 = .ok (.iload_n 1, 1) := by decide +kernel
theorem dX0_checkRange_2 : decode cX0_checkRange 2 = .ok (.if_icmp .lt 8, 3) := by decide +kernel
theorem dX0_checkRange_5 : decode cX0_checkRange 5 = .ok (.iload_n 0, 1) := by decide +kernel
theorem dX0_checkRange_6 : decode cX0_checkRange 6 = .ok (.iload_n 2, 1) := by decide +kernel
theorem dX0_checkRange_7 : decode cX0_checkRange 7 = .ok (.if_icmp .le 13, 3) := by decide +kernel
theorem dX0_checkRange_10 : decode cX0_checkRange 10 = .ok (.new 127, 3) := by decide +kernel
theorem dX0_checkRange_13 : decode cX0_checkRange 13 = .ok (.dup, 1) := by decide +kernel
theorem dX0_checkRange_14 : decode cX0_checkRange 14 = .ok (.ldc 199, 2) := by decide +kernel
theorem dX0_checkRange_16 : decode cX0_checkRange 16 = .ok (.invokespecial 131, 3) := by decide +kernel
theorem dX0_checkRange_19 : decode cX0_checkRange 19 = .ok (.athrow, 1) := by decide +kernel
theorem dX0_checkRange_20 : decode cX0_checkRange 20 = .ok (.return_, 1) := by decide +kernel
set_option maxRecDepth 20000 in
theorem ggX0_checkBaseAndExponent_X0_checkRange : GoodIn wsX0_checkBaseAndExponent wsX0_checkRange := goodIn_ca (goodIn_r _ [4, 5, 6] (by decide +kernel) (by decide +kernel)) (goodIn_sub (fun _ h => List.mem_cons_of_mem _ (List.mem_append_right _ h)) (by decide +kernel))
set_option maxRecDepth 20000 in
theorem gX0_checkBaseAndExponent_X0_checkRange : GoodIn wsX0_checkBaseAndExponent (va_wsS RX0 43 yX0_checkRange wsX0_checkRange) := goodIn_app (goodIn_of _ (by decide +kernel)) ggX0_checkBaseAndExponent_X0_checkRange
theorem dX0_checkBaseAndExponent_0 : decode cX0_checkBaseAndExponent 0 = .ok (.iload_n 0, 1) := by decide +kernel
theorem dX0_checkBaseAndExponent_1 : decode cX0_checkBaseAndExponent 1 = .ok (.bipush (-64), 2) := by decide +kernel
theorem dX0_checkBaseAndExponent_3 : decode cX0_checkBaseAndExponent 3 = .ok (.bipush 64, 2) := by decide +kernel
theorem dX0_checkBaseAndExponent_5 : decode cX0_checkBaseAndExponent 5 = .ok (.invokestatic 43, 3) := by decide +kernel
theorem dX0_checkBaseAndExponent_8 : decode cX0_checkBaseAndExponent 8 = .ok (.iload_n 1, 1) := by decide +kernel
theorem dX0_checkBaseAndExponent_9 : decode cX0_checkBaseAndExponent 9 = .ok (.iconst 0, 1) := by decide +kernel
theorem dX0_checkBaseAndExponent_10 : decode cX0_checkBaseAndExponent 10 = .ok (.bipush 64, 2) := by decide +kernel
theorem dX0_checkBaseAndExponent_12 : decode cX0_checkBaseAndExponent 12 = .ok (.invokestatic 43, 3) := by decide +kernel
theorem dX0_checkBaseAndExponent_15 : decode cX0_checkBaseAndExponent 15 = .ok (.return_, 1) := by decide +kernel
set_option maxRecDepth 20000 in
theorem ggX0_checkDigitBase_X0_checkRange : GoodIn wsX0_checkDigitBase wsX0_checkRange := goodIn_ca (goodIn_r _ [4, 5, 6] (by decide +kernel) (by decide +kernel)) (goodIn_sub (fun _ h => List.mem_cons_of_mem _ (List.mem_append_right _ h)) (by decide +kernel))
set_option maxRecDepth 20000 in
theorem gX0_checkDigitBase_X0_checkRange : GoodIn wsX0_checkDigitBase (va_wsS RX0 43 yX0_checkRange wsX0_checkRange) := goodIn_app (goodIn_of _ (by decide +kernel)) ggX0_checkDigitBase_X0_checkRange
theorem dX0_checkDigitBase_0 : decode cX0_checkDigitBase 0 = .ok (.iload_n 0, 1) := by decide +kernel
theorem dX0_checkDigitBase_1 : decode cX0_checkDigitBase 1 = .ok (.iconst 2, 1) := by decide +kernel
theorem dX0_checkDigitBase_2 : decode cX0_checkDigitBase 2 = .ok (.bipush 64, 2) := by decide +kernel
theorem dX0_checkDigitBase_4 : decode cX0_checkDigitBase 4 = .ok (.invokestatic 43, 3) := by decide +kernel
theorem dX0_checkDigitBase_7 : decode cX0_checkDigitBase 7 = .ok (.return_, 1) := by decide +kernel
set_option maxRecDepth 20000 in
theorem ggX0_checkTold_X0_oddOf : GoodIn wsX0_checkTold wsX0_oddOf := goodIn_r _ [6, 7, 8, 5, 9, 10, 11, 12] (by decide +kernel) (by decide +kernel)
set_option maxRecDepth 20000 in
theorem gX0_checkTold_X0_oddOf : GoodIn wsX0_checkTold (va_wsS RX0 51 yX0_oddOf wsX0_oddOf) := goodIn_app (goodIn_of _ (by decide +kernel)) ggX0_checkTold_X0_oddOf
set_option maxRecDepth 20000 in
theorem ggX0_checkTold_X0_shiftOf : GoodIn wsX0_checkTold wsX0_shiftOf := goodIn_r _ [12] (by decide +kernel) (by decide +kernel)
set_option maxRecDepth 20000 in
theorem gX0_checkTold_X0_shiftOf : GoodIn wsX0_checkTold (va_wsS RX0 55 yX0_shiftOf wsX0_shiftOf) := goodIn_app (goodIn_of _ (by decide +kernel)) ggX0_checkTold_X0_shiftOf
set_option maxRecDepth 20000 in
theorem ggX0_checkTold_X0_isTold : GoodIn wsX0_checkTold wsX0_isTold := goodIn_ca (goodIn_r _ [15, 16, 17, 18, 5, 19, 20, 21, 22, 23] (by decide +kernel) (by decide +kernel)) (goodIn_sub (fun _ h => List.mem_cons_of_mem _ (List.mem_append_right _ h)) (by decide +kernel))
set_option maxRecDepth 20000 in
theorem gX0_checkTold_X0_isTold : GoodIn wsX0_checkTold (va_wsS RX0 89 yX0_isTold wsX0_isTold) := goodIn_app (goodIn_of _ (by decide +kernel)) ggX0_checkTold_X0_isTold
theorem dX0_checkTold_0 : decode cX0_checkTold 0 = .ok (.iload_n 0, 1) := by decide +kernel
theorem dX0_checkTold_1 : decode cX0_checkTold 1 = .ok (.invokestatic 51, 3) := by decide +kernel
theorem dX0_checkTold_4 : decode cX0_checkTold 4 = .ok (.iload_n 0, 1) := by decide +kernel
theorem dX0_checkTold_5 : decode cX0_checkTold 5 = .ok (.invokestatic 55, 3) := by decide +kernel
theorem dX0_checkTold_8 : decode cX0_checkTold 8 = .ok (.iload_n 1, 1) := by decide +kernel
theorem dX0_checkTold_9 : decode cX0_checkTold 9 = .ok (.invokestatic 89, 3) := by decide +kernel
theorem dX0_checkTold_12 : decode cX0_checkTold 12 = .ok (.ifCond .ne 13, 3) := by decide +kernel
theorem dX0_checkTold_15 : decode cX0_checkTold 15 = .ok (.new 93, 3) := by decide +kernel
theorem dX0_checkTold_18 : decode cX0_checkTold 18 = .ok (.dup, 1) := by decide +kernel
theorem dX0_checkTold_19 : decode cX0_checkTold 19 = .ok (.ldc 95, 2) := by decide +kernel
theorem dX0_checkTold_21 : decode cX0_checkTold 21 = .ok (.invokespecial 97, 3) := by decide +kernel
theorem dX0_checkTold_24 : decode cX0_checkTold 24 = .ok (.athrow, 1) := by decide +kernel
theorem dX0_checkTold_25 : decode cX0_checkTold 25 = .ok (.return_, 1) := by decide +kernel
set_option maxRecDepth 20000 in
theorem ggX0_checkPowerNear_X0_sizeOf : GoodIn wsX0_checkPowerNear wsX0_sizeOf := goodIn_r _ [8] (by decide +kernel) (by decide +kernel)
set_option maxRecDepth 20000 in
theorem gX0_checkPowerNear_X0_sizeOf : GoodIn wsX0_checkPowerNear (va_wsS RX0 201 yX0_sizeOf wsX0_sizeOf) := goodIn_app (goodIn_of _ (by decide +kernel)) ggX0_checkPowerNear_X0_sizeOf
set_option maxRecDepth 20000 in
theorem ggX0_checkPowerNear_X0_powerUpTo : GoodIn wsX0_checkPowerNear wsX0_powerUpTo := goodIn_ca (goodIn_r _ [11, 4] (by decide +kernel) (by decide +kernel)) (goodIn_sub (fun _ h => List.mem_cons_of_mem _ (List.mem_append_right _ h)) (by decide +kernel))
set_option maxRecDepth 20000 in
theorem gX0_checkPowerNear_X0_powerUpTo : GoodIn wsX0_checkPowerNear (va_wsS RX0 134 yX0_powerUpTo wsX0_powerUpTo) := goodIn_app (goodIn_of _ (by decide +kernel)) ggX0_checkPowerNear_X0_powerUpTo
theorem dX0_checkPowerNear_0 : decode cX0_checkPowerNear 0 = .ok (.iload_n 0, 1) := by decide +kernel
theorem dX0_checkPowerNear_1 : decode cX0_checkPowerNear 1 = .ok (.invokestatic 201, 3) := by decide +kernel
theorem dX0_checkPowerNear_4 : decode cX0_checkPowerNear 4 = .ok (.iload_n 1, 1) := by decide +kernel
theorem dX0_checkPowerNear_5 : decode cX0_checkPowerNear 5 = .ok (.ldc2_w 204, 3) := by decide +kernel
theorem dX0_checkPowerNear_8 : decode cX0_checkPowerNear 8 = .ok (.invokestatic 134, 3) := by decide +kernel
theorem dX0_checkPowerNear_11 : decode cX0_checkPowerNear 11 = .ok (.ldc2_w 138, 3) := by decide +kernel
theorem dX0_checkPowerNear_14 : decode cX0_checkPowerNear 14 = .ok (.lcmp, 1) := by decide +kernel
theorem dX0_checkPowerNear_15 : decode cX0_checkPowerNear 15 = .ok (.ifCond .ne 13, 3) := by decide +kernel
theorem dX0_checkPowerNear_18 : decode cX0_checkPowerNear 18 = .ok (.new 93, 3) := by decide +kernel
theorem dX0_checkPowerNear_21 : decode cX0_checkPowerNear 21 = .ok (.dup, 1) := by decide +kernel
theorem dX0_checkPowerNear_22 : decode cX0_checkPowerNear 22 = .ok (.ldc 206, 2) := by decide +kernel
theorem dX0_checkPowerNear_24 : decode cX0_checkPowerNear 24 = .ok (.invokespecial 97, 3) := by decide +kernel
theorem dX0_checkPowerNear_27 : decode cX0_checkPowerNear 27 = .ok (.athrow, 1) := by decide +kernel
theorem dX0_checkPowerNear_28 : decode cX0_checkPowerNear 28 = .ok (.return_, 1) := by decide +kernel
set_option maxRecDepth 20000 in
theorem ggX0_checkNear_X0_isNear : GoodIn wsX0_checkNear wsX0_isNear := goodIn_r _ [8, 9] (by decide +kernel) (by decide +kernel)
set_option maxRecDepth 20000 in
theorem gX0_checkNear_X0_isNear : GoodIn wsX0_checkNear (va_wsS RX0 208 yX0_isNear wsX0_isNear) := goodIn_app (goodIn_of _ (by decide +kernel)) ggX0_checkNear_X0_isNear
theorem dX0_checkNear_0 : decode cX0_checkNear 0 = .ok (.aload_n 0, 1) := by decide +kernel
theorem dX0_checkNear_1 : decode cX0_checkNear 1 = .ok (.getfield 13, 3) := by decide +kernel
theorem dX0_checkNear_4 : decode cX0_checkNear 4 = .ok (.iload_n 1, 1) := by decide +kernel
theorem dX0_checkNear_5 : decode cX0_checkNear 5 = .ok (.laload, 1) := by decide +kernel
theorem dX0_checkNear_6 : decode cX0_checkNear 6 = .ok (.aload_n 0, 1) := by decide +kernel
theorem dX0_checkNear_7 : decode cX0_checkNear 7 = .ok (.getfield 17, 3) := by decide +kernel
theorem dX0_checkNear_10 : decode cX0_checkNear 10 = .ok (.iload_n 1, 1) := by decide +kernel
theorem dX0_checkNear_11 : decode cX0_checkNear 11 = .ok (.iaload, 1) := by decide +kernel
theorem dX0_checkNear_12 : decode cX0_checkNear 12 = .ok (.invokestatic 208, 3) := by decide +kernel
theorem dX0_checkNear_15 : decode cX0_checkNear 15 = .ok (.ifCond .ne 13, 3) := by decide +kernel
theorem dX0_checkNear_18 : decode cX0_checkNear 18 = .ok (.new 77, 3) := by decide +kernel
theorem dX0_checkNear_21 : decode cX0_checkNear 21 = .ok (.dup, 1) := by decide +kernel
theorem dX0_checkNear_22 : decode cX0_checkNear 22 = .ok (.ldc 212, 2) := by decide +kernel
theorem dX0_checkNear_24 : decode cX0_checkNear 24 = .ok (.invokespecial 81, 3) := by decide +kernel
theorem dX0_checkNear_27 : decode cX0_checkNear 27 = .ok (.athrow, 1) := by decide +kernel
theorem dX0_checkNear_28 : decode cX0_checkNear 28 = .ok (.return_, 1) := by decide +kernel
theorem dX0_checkSquared_0 : decode cX0_checkSquared 0 = .ok (.aload_n 0, 1) := by decide +kernel
theorem dX0_checkSquared_1 : decode cX0_checkSquared 1 = .ok (.getfield 17, 3) := by decide +kernel
theorem dX0_checkSquared_4 : decode cX0_checkSquared 4 = .ok (.iload_n 1, 1) := by decide +kernel
theorem dX0_checkSquared_5 : decode cX0_checkSquared 5 = .ok (.iaload, 1) := by decide +kernel
theorem dX0_checkSquared_6 : decode cX0_checkSquared 6 = .ok (.istore_n 2, 1) := by decide +kernel
theorem dX0_checkSquared_7 : decode cX0_checkSquared 7 = .ok (.iload_n 2, 1) := by decide +kernel
theorem dX0_checkSquared_8 : decode cX0_checkSquared 8 = .ok (.sipush (-400), 3) := by decide +kernel
theorem dX0_checkSquared_11 : decode cX0_checkSquared 11 = .ok (.if_icmp .lt 10, 3) := by decide +kernel
theorem dX0_checkSquared_14 : decode cX0_checkSquared 14 = .ok (.iload_n 2, 1) := by decide +kernel
theorem dX0_checkSquared_15 : decode cX0_checkSquared 15 = .ok (.sipush 400, 3) := by decide +kernel
theorem dX0_checkSquared_18 : decode cX0_checkSquared 18 = .ok (.if_icmp .le 13, 3) := by decide +kernel
theorem dX0_checkSquared_21 : decode cX0_checkSquared 21 = .ok (.new 93, 3) := by decide +kernel
theorem dX0_checkSquared_24 : decode cX0_checkSquared 24 = .ok (.dup, 1) := by decide +kernel
theorem dX0_checkSquared_25 : decode cX0_checkSquared 25 = .ok (.ldc 214, 2) := by decide +kernel
theorem dX0_checkSquared_27 : decode cX0_checkSquared 27 = .ok (.invokespecial 97, 3) := by decide +kernel
theorem dX0_checkSquared_30 : decode cX0_checkSquared 30 = .ok (.athrow, 1) := by decide +kernel
theorem dX0_checkSquared_31 : decode cX0_checkSquared 31 = .ok (.return_, 1) := by decide +kernel
theorem dX0_become_0 : decode cX0_become 0 = .ok (.aload_n 0, 1) := by decide +kernel
theorem dX0_become_1 : decode cX0_become 1 = .ok (.getfield 20, 3) := by decide +kernel
theorem dX0_become_4 : decode cX0_become 4 = .ok (.aload_n 0, 1) := by decide +kernel
theorem dX0_become_5 : decode cX0_become 5 = .ok (.getfield 32, 3) := by decide +kernel
theorem dX0_become_8 : decode cX0_become 8 = .ok (.iload_n 1, 1) := by decide +kernel
theorem dX0_become_9 : decode cX0_become 9 = .ok (.iastore, 1) := by decide +kernel
theorem dX0_become_10 : decode cX0_become 10 = .ok (.aload_n 0, 1) := by decide +kernel
theorem dX0_become_11 : decode cX0_become 11 = .ok (.getfield 23, 3) := by decide +kernel
theorem dX0_become_14 : decode cX0_become 14 = .ok (.aload_n 0, 1) := by decide +kernel
theorem dX0_become_15 : decode cX0_become 15 = .ok (.getfield 32, 3) := by decide +kernel
theorem dX0_become_18 : decode cX0_become 18 = .ok (.aload_n 0, 1) := by decide +kernel
theorem dX0_become_19 : decode cX0_become 19 = .ok (.getfield 9, 3) := by decide +kernel
theorem dX0_become_22 : decode cX0_become 22 = .ok (.iload_n 1, 1) := by decide +kernel
theorem dX0_become_23 : decode cX0_become 23 = .ok (.iaload, 1) := by decide +kernel
theorem dX0_become_24 : decode cX0_become 24 = .ok (.iastore, 1) := by decide +kernel
theorem dX0_become_25 : decode cX0_become 25 = .ok (.aload_n 0, 1) := by decide +kernel
theorem dX0_become_26 : decode cX0_become 26 = .ok (.getfield 26, 3) := by decide +kernel
theorem dX0_become_29 : decode cX0_become 29 = .ok (.aload_n 0, 1) := by decide +kernel
theorem dX0_become_30 : decode cX0_become 30 = .ok (.getfield 32, 3) := by decide +kernel
theorem dX0_become_33 : decode cX0_become 33 = .ok (.aload_n 0, 1) := by decide +kernel
theorem dX0_become_34 : decode cX0_become 34 = .ok (.getfield 13, 3) := by decide +kernel
theorem dX0_become_37 : decode cX0_become 37 = .ok (.iload_n 1, 1) := by decide +kernel
theorem dX0_become_38 : decode cX0_become 38 = .ok (.laload, 1) := by decide +kernel
theorem dX0_become_39 : decode cX0_become 39 = .ok (.lastore, 1) := by decide +kernel
theorem dX0_become_40 : decode cX0_become 40 = .ok (.aload_n 0, 1) := by decide +kernel
theorem dX0_become_41 : decode cX0_become 41 = .ok (.getfield 29, 3) := by decide +kernel
theorem dX0_become_44 : decode cX0_become 44 = .ok (.aload_n 0, 1) := by decide +kernel
theorem dX0_become_45 : decode cX0_become 45 = .ok (.getfield 32, 3) := by decide +kernel
theorem dX0_become_48 : decode cX0_become 48 = .ok (.aload_n 0, 1) := by decide +kernel
theorem dX0_become_49 : decode cX0_become 49 = .ok (.getfield 17, 3) := by decide +kernel
theorem dX0_become_52 : decode cX0_become 52 = .ok (.iload_n 1, 1) := by decide +kernel
theorem dX0_become_53 : decode cX0_become 53 = .ok (.iaload, 1) := by decide +kernel
theorem dX0_become_54 : decode cX0_become 54 = .ok (.iastore, 1) := by decide +kernel
theorem dX0_become_55 : decode cX0_become 55 = .ok (.aload_n 0, 1) := by decide +kernel
theorem dX0_become_56 : decode cX0_become 56 = .ok (.aload_n 0, 1) := by decide +kernel

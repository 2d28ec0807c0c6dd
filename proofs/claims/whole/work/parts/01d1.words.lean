theorem dX0_become_57 : decode cX0_become 57 = .ok (.getfield 32, 3) := by decide +kernel
theorem dX0_become_60 : decode cX0_become 60 = .ok (.iconst 1, 1) := by decide +kernel
theorem dX0_become_61 : decode cX0_become 61 = .ok (.iadd, 1) := by decide +kernel
theorem dX0_become_62 : decode cX0_become 62 = .ok (.bipush 8, 2) := by decide +kernel
theorem dX0_become_64 : decode cX0_become 64 = .ok (.irem, 1) := by decide +kernel
theorem dX0_become_65 : decode cX0_become 65 = .ok (.putfield 32, 3) := by decide +kernel
theorem dX0_become_68 : decode cX0_become 68 = .ok (.aload_n 0, 1) := by decide +kernel
theorem dX0_become_69 : decode cX0_become 69 = .ok (.getfield 36, 3) := by decide +kernel
theorem dX0_become_72 : decode cX0_become 72 = .ok (.bipush 8, 2) := by decide +kernel
theorem dX0_become_74 : decode cX0_become 74 = .ok (.if_icmp .ge 13, 3) := by decide +kernel
theorem dX0_become_77 : decode cX0_become 77 = .ok (.aload_n 0, 1) := by decide +kernel
theorem dX0_become_78 : decode cX0_become 78 = .ok (.dup, 1) := by decide +kernel
theorem dX0_become_79 : decode cX0_become 79 = .ok (.getfield 36, 3) := by decide +kernel
theorem dX0_become_82 : decode cX0_become 82 = .ok (.iconst 1, 1) := by decide +kernel
theorem dX0_become_83 : decode cX0_become 83 = .ok (.iadd, 1) := by decide +kernel
theorem dX0_become_84 : decode cX0_become 84 = .ok (.putfield 36, 3) := by decide +kernel
theorem dX0_become_87 : decode cX0_become 87 = .ok (.aload_n 0, 1) := by decide +kernel
theorem dX0_become_88 : decode cX0_become 88 = .ok (.getfield 9, 3) := by decide +kernel
theorem dX0_become_91 : decode cX0_become 91 = .ok (.iload_n 1, 1) := by decide +kernel
theorem dX0_become_92 : decode cX0_become 92 = .ok (.iload_n 2, 1) := by decide +kernel
theorem dX0_become_93 : decode cX0_become 93 = .ok (.iastore, 1) := by decide +kernel
theorem dX0_become_94 : decode cX0_become 94 = .ok (.aload_n 0, 1) := by decide +kernel
theorem dX0_become_95 : decode cX0_become 95 = .ok (.getfield 13, 3) := by decide +kernel
theorem dX0_become_98 : decode cX0_become 98 = .ok (.iload_n 1, 1) := by decide +kernel
theorem dX0_become_99 : decode cX0_become 99 = .ok (.lload_n 3, 1) := by decide +kernel
theorem dX0_become_100 : decode cX0_become 100 = .ok (.lastore, 1) := by decide +kernel
theorem dX0_become_101 : decode cX0_become 101 = .ok (.aload_n 0, 1) := by decide +kernel
theorem dX0_become_102 : decode cX0_become 102 = .ok (.getfield 17, 3) := by decide +kernel
theorem dX0_become_105 : decode cX0_become 105 = .ok (.iload_n 1, 1) := by decide +kernel
theorem dX0_become_106 : decode cX0_become 106 = .ok (.iload 5, 2) := by decide +kernel
theorem dX0_become_108 : decode cX0_become 108 = .ok (.iastore, 1) := by decide +kernel
theorem dX0_become_109 : decode cX0_become 109 = .ok (.iload 5, 2) := by decide +kernel
theorem dX0_become_111 : decode cX0_become 111 = .ok (.ireturn, 1) := by decide +kernel
set_option maxRecDepth 20000 in
theorem ggX0_slotBits_X0_bitsOf : GoodIn wsX0_slotBits wsX0_bitsOf := goodIn_r _ [7, 8, 9, 6, 10, 11, 12, 13, 14, 15, 16] (by decide +kernel) (by decide +kernel)
set_option maxRecDepth 20000 in
theorem gX0_slotBits_X0_bitsOf : GoodIn wsX0_slotBits (va_wsS RX0 164 yX0_bitsOf wsX0_bitsOf) := goodIn_app (goodIn_of _ (by decide +kernel)) ggX0_slotBits_X0_bitsOf
theorem dX0_slotBits_0 : decode cX0_slotBits 0 = .ok (.aload_n 0, 1) := by decide +kernel
theorem dX0_slotBits_1 : decode cX0_slotBits 1 = .ok (.getfield 9, 3) := by decide +kernel
theorem dX0_slotBits_4 : decode cX0_slotBits 4 = .ok (.iload_n 1, 1) := by decide +kernel
theorem dX0_slotBits_5 : decode cX0_slotBits 5 = .ok (.iaload, 1) := by decide +kernel
theorem dX0_slotBits_6 : decode cX0_slotBits 6 = .ok (.aload_n 0, 1) := by decide +kernel
theorem dX0_slotBits_7 : decode cX0_slotBits 7 = .ok (.getfield 13, 3) := by decide +kernel
theorem dX0_slotBits_10 : decode cX0_slotBits 10 = .ok (.iload_n 1, 1) := by decide +kernel
theorem dX0_slotBits_11 : decode cX0_slotBits 11 = .ok (.laload, 1) := by decide +kernel
theorem dX0_slotBits_12 : decode cX0_slotBits 12 = .ok (.aload_n 0, 1) := by decide +kernel
theorem dX0_slotBits_13 : decode cX0_slotBits 13 = .ok (.getfield 17, 3) := by decide +kernel
theorem dX0_slotBits_16 : decode cX0_slotBits 16 = .ok (.iload_n 1, 1) := by decide +kernel
theorem dX0_slotBits_17 : decode cX0_slotBits 17 = .ok (.iaload, 1) := by decide +kernel
theorem dX0_slotBits_18 : decode cX0_slotBits 18 = .ok (.invokestatic 164, 3) := by decide +kernel
theorem dX0_slotBits_21 : decode cX0_slotBits 21 = .ok (.lreturn, 1) := by decide +kernel
theorem dX0_nearSize_0 : decode cX0_nearSize 0 = .ok (.aload_n 0, 1) := by decide +kernel
theorem dX0_nearSize_1 : decode cX0_nearSize 1 = .ok (.getfield 13, 3) := by decide +kernel
theorem dX0_nearSize_4 : decode cX0_nearSize 4 = .ok (.iload_n 1, 1) := by decide +kernel
theorem dX0_nearSize_5 : decode cX0_nearSize 5 = .ok (.laload, 1) := by decide +kernel
theorem dX0_nearSize_6 : decode cX0_nearSize 6 = .ok (.aload_n 0, 1) := by decide +kernel
theorem dX0_nearSize_7 : decode cX0_nearSize 7 = .ok (.getfield 17, 3) := by decide +kernel
theorem dX0_nearSize_10 : decode cX0_nearSize 10 = .ok (.iload_n 1, 1) := by decide +kernel
theorem dX0_nearSize_11 : decode cX0_nearSize 11 = .ok (.iaload, 1) := by decide +kernel
theorem dX0_nearSize_12 : decode cX0_nearSize 12 = .ok (.lshl, 1) := by decide +kernel
theorem dX0_nearSize_13 : decode cX0_nearSize 13 = .ok (.lreturn, 1) := by decide +kernel
set_option maxRecDepth 20000 in
theorem ggX0_orderKey_X0_slotBits : GoodIn wsX0_orderKey wsX0_slotBits := goodIn_ca (goodIn_r _ [6, 7, 8, 9, 10, 11, 5, 12, 13, 14, 15, 16, 17, 18, 19, 20, 1, 21, 22, 23, 24, 25, 26, 27, 28, 29] (by decide +kernel) (by decide +kernel)) (goodIn_sub (fun _ h => List.mem_cons_of_mem _ (List.mem_append_right _ h)) (by decide +kernel))
set_option maxRecDepth 20000 in
theorem gX0_orderKey_X0_slotBits : GoodIn wsX0_orderKey (wsV RX0 103 RX0 yX0_slotBits wsX0_slotBits) := goodIn_app (goodIn_of _ (by decide +kernel)) ggX0_orderKey_X0_slotBits
theorem dX0_orderKey_0 : decode cX0_orderKey 0 = .ok (.aload_n 0, 1) := by decide +kernel
theorem dX0_orderKey_1 : decode cX0_orderKey 1 = .ok (.iload_n 1, 1) := by decide +kernel
theorem dX0_orderKey_2 : decode cX0_orderKey 2 = .ok (.invokevirtual 103, 3) := by decide +kernel
theorem dX0_orderKey_5 : decode cX0_orderKey 5 = .ok (.lstore_n 2, 1) := by decide +kernel
theorem dX0_orderKey_6 : decode cX0_orderKey 6 = .ok (.lload_n 2, 1) := by decide +kernel
theorem dX0_orderKey_7 : decode cX0_orderKey 7 = .ok (.lconst 0, 1) := by decide +kernel
theorem dX0_orderKey_8 : decode cX0_orderKey 8 = .ok (.lcmp, 1) := by decide +kernel
theorem dX0_orderKey_9 : decode cX0_orderKey 9 = .ok (.ifCond .ge 11, 3) := by decide +kernel
theorem dX0_orderKey_12 : decode cX0_orderKey 12 = .ok (.ldc2_w 216, 3) := by decide +kernel
theorem dX0_orderKey_15 : decode cX0_orderKey 15 = .ok (.lload_n 2, 1) := by decide +kernel
theorem dX0_orderKey_16 : decode cX0_orderKey 16 = .ok (.lsub, 1) := by decide +kernel
theorem dX0_orderKey_17 : decode cX0_orderKey 17 = .ok (.goto 4, 3) := by decide +kernel
theorem dX0_orderKey_20 : decode cX0_orderKey 20 = .ok (.lload_n 2, 1) := by decide +kernel
theorem dX0_orderKey_21 : decode cX0_orderKey 21 = .ok (.lreturn, 1) := by decide +kernel
set_option maxRecDepth 20000 in
theorem ggX0_placeOf_X0_orderKey : GoodIn wsX0_placeOf wsX0_orderKey := goodIn_ca (goodIn_r _ [5, 6, 7, 8, 9, 4, 10, 11, 12, 13, 14, 15, 16, 17, 18, 19, 20, 21, 22, 23, 24, 25, 26, 27, 28, 29, 30, 31, 32, 33] (by decide +kernel) (by decide +kernel)) (goodIn_sub (fun _ h => List.mem_cons_of_mem _ (List.mem_append_right _ h)) (by decide +kernel))
set_option maxRecDepth 20000 in
theorem gX0_placeOf_X0_orderKey : GoodIn wsX0_placeOf (wsV RX0 112 RX0 yX0_orderKey wsX0_orderKey) := goodIn_app (goodIn_of _ (by decide +kernel)) ggX0_placeOf_X0_orderKey
theorem dX0_placeOf_0 : decode cX0_placeOf 0 = .ok (.aload_n 0, 1) := by decide +kernel
theorem dX0_placeOf_1 : decode cX0_placeOf 1 = .ok (.iload_n 1, 1) := by decide +kernel
theorem dX0_placeOf_2 : decode cX0_placeOf 2 = .ok (.invokevirtual 112, 3) := by decide +kernel
theorem dX0_placeOf_5 : decode cX0_placeOf 5 = .ok (.lstore_n 2, 1) := by decide +kernel
theorem dX0_placeOf_6 : decode cX0_placeOf 6 = .ok (.iconst 0, 1) := by decide +kernel
theorem dX0_placeOf_7 : decode cX0_placeOf 7 = .ok (.istore 4, 2) := by decide +kernel
theorem dX0_placeOf_9 : decode cX0_placeOf 9 = .ok (.iconst 0, 1) := by decide +kernel
theorem dX0_placeOf_10 : decode cX0_placeOf 10 = .ok (.istore 5, 2) := by decide +kernel
theorem dX0_placeOf_12 : decode cX0_placeOf 12 = .ok (.iload 5, 2) := by decide +kernel
theorem dX0_placeOf_14 : decode cX0_placeOf 14 = .ok (.bipush 8, 2) := by decide +kernel
theorem dX0_placeOf_16 : decode cX0_placeOf 16 = .ok (.if_icmp .ge 40, 3) := by decide +kernel
theorem dX0_placeOf_19 : decode cX0_placeOf 19 = .ok (.aload_n 0, 1) := by decide +kernel
theorem dX0_placeOf_20 : decode cX0_placeOf 20 = .ok (.iload 5, 2) := by decide +kernel
theorem dX0_placeOf_22 : decode cX0_placeOf 22 = .ok (.invokevirtual 112, 3) := by decide +kernel
theorem dX0_placeOf_25 : decode cX0_placeOf 25 = .ok (.lstore 6, 2) := by decide +kernel
theorem dX0_placeOf_27 : decode cX0_placeOf 27 = .ok (.lload 6, 2) := by decide +kernel
theorem dX0_placeOf_29 : decode cX0_placeOf 29 = .ok (.lload_n 2, 1) := by decide +kernel
theorem dX0_placeOf_30 : decode cX0_placeOf 30 = .ok (.lcmp, 1) := by decide +kernel
theorem dX0_placeOf_31 : decode cX0_placeOf 31 = .ok (.ifCond .lt 16, 3) := by decide +kernel
theorem dX0_placeOf_34 : decode cX0_placeOf 34 = .ok (.lload 6, 2) := by decide +kernel
theorem dX0_placeOf_36 : decode cX0_placeOf 36 = .ok (.lload_n 2, 1) := by decide +kernel
theorem dX0_placeOf_37 : decode cX0_placeOf 37 = .ok (.lcmp, 1) := by decide +kernel
theorem dX0_placeOf_38 : decode cX0_placeOf 38 = .ok (.ifCond .ne 12, 3) := by decide +kernel
theorem dX0_placeOf_41 : decode cX0_placeOf 41 = .ok (.iload 5, 2) := by decide +kernel
theorem dX0_placeOf_43 : decode cX0_placeOf 43 = .ok (.iload_n 1, 1) := by decide +kernel
theorem dX0_placeOf_44 : decode cX0_placeOf 44 = .ok (.if_icmp .ge 6, 3) := by decide +kernel
theorem dX0_placeOf_47 : decode cX0_placeOf 47 = .ok (.iinc 4 1, 3) := by decide +kernel
theorem dX0_placeOf_50 : decode cX0_placeOf 50 = .ok (.iinc 5 1, 3) := by decide +kernel
theorem dX0_placeOf_53 : decode cX0_placeOf 53 = .ok (.goto (-41), 3) := by decide +kernel
theorem dX0_placeOf_56 : decode cX0_placeOf 56 = .ok (.iload 4, 2) := by decide +kernel
theorem dX0_placeOf_58 : decode cX0_placeOf 58 = .ok (.ireturn, 1) := by decide +kernel
theorem dX0_signOf_0 : decode cX0_signOf 0 = .ok (.iload_n 0, 1) := by decide +kernel
theorem dX0_signOf_1 : decode cX0_signOf 1 = .ok (.ifCond .ne 5, 3) := by decide +kernel
theorem dX0_signOf_4 : decode cX0_signOf 4 = .ok (.iconst 0, 1) := by decide +kernel
theorem dX0_signOf_5 : decode cX0_signOf 5 = .ok (.ireturn, 1) := by decide +kernel
theorem dX0_signOf_6 : decode cX0_signOf 6 = .ok (.iload_n 0, 1) := by decide +kernel
theorem dX0_signOf_7 : decode cX0_signOf 7 = .ok (.ifCond .ge 7, 3) := by decide +kernel
theorem dX0_signOf_10 : decode cX0_signOf 10 = .ok (.iconst (-1), 1) := by decide +kernel
theorem dX0_signOf_11 : decode cX0_signOf 11 = .ok (.goto 4, 3) := by decide +kernel
theorem dX0_signOf_14 : decode cX0_signOf 14 = .ok (.iconst 1, 1) := by decide +kernel
theorem dX0_signOf_15 : decode cX0_signOf 15 = .ok (.ireturn, 1) := by decide +kernel
theorem dX0_sizeOf_0 : decode cX0_sizeOf 0 = .ok (.iload_n 0, 1) := by decide +kernel
theorem dX0_sizeOf_1 : decode cX0_sizeOf 1 = .ok (.ifCond .ge 9, 3) := by decide +kernel
theorem dX0_sizeOf_4 : decode cX0_sizeOf 4 = .ok (.iload_n 0, 1) := by decide +kernel
theorem dX0_sizeOf_5 : decode cX0_sizeOf 5 = .ok (.i2l, 1) := by decide +kernel
theorem dX0_sizeOf_6 : decode cX0_sizeOf 6 = .ok (.lneg, 1) := by decide +kernel
theorem dX0_sizeOf_7 : decode cX0_sizeOf 7 = .ok (.goto 5, 3) := by decide +kernel
theorem dX0_sizeOf_10 : decode cX0_sizeOf 10 = .ok (.iload_n 0, 1) := by decide +kernel
theorem dX0_sizeOf_11 : decode cX0_sizeOf 11 = .ok (.i2l, 1) := by decide +kernel
theorem dX0_sizeOf_12 : decode cX0_sizeOf 12 = .ok (.lreturn, 1) := by decide +kernel
theorem dX0_shiftOf_0 : decode cX0_shiftOf 0 = .ok (.iload_n 0, 1) := by decide +kernel
theorem dX0_shiftOf_1 : decode cX0_shiftOf 1 = .ok (.ifCond .ne 5, 3) := by decide +kernel
theorem dX0_shiftOf_4 : decode cX0_shiftOf 4 = .ok (.iconst 0, 1) := by decide +kernel
theorem dX0_shiftOf_5 : decode cX0_shiftOf 5 = .ok (.ireturn, 1) := by decide +kernel
theorem dX0_shiftOf_6 : decode cX0_shiftOf 6 = .ok (.iconst 0, 1) := by decide +kernel
theorem dX0_shiftOf_7 : decode cX0_shiftOf 7 = .ok (.istore_n 1, 1) := by decide +kernel
theorem dX0_shiftOf_8 : decode cX0_shiftOf 8 = .ok (.iload_n 1, 1) := by decide +kernel
theorem dX0_shiftOf_9 : decode cX0_shiftOf 9 = .ok (.bipush 31, 2) := by decide +kernel
theorem dX0_shiftOf_11 : decode cX0_shiftOf 11 = .ok (.if_icmp .ge 17, 3) := by decide +kernel
theorem dX0_shiftOf_14 : decode cX0_shiftOf 14 = .ok (.iload_n 0, 1) := by decide +kernel
theorem dX0_shiftOf_15 : decode cX0_shiftOf 15 = .ok (.iload_n 1, 1) := by decide +kernel
theorem dX0_shiftOf_16 : decode cX0_shiftOf 16 = .ok (.ishr, 1) := by decide +kernel
theorem dX0_shiftOf_17 : decode cX0_shiftOf 17 = .ok (.iconst 1, 1) := by decide +kernel
theorem dX0_shiftOf_18 : decode cX0_shiftOf 18 = .ok (.iand, 1) := by decide +kernel
theorem dX0_shiftOf_19 : decode cX0_shiftOf 19 = .ok (.ifCond .ne 9, 3) := by decide +kernel
theorem dX0_shiftOf_22 : decode cX0_shiftOf 22 = .ok (.iinc 1 1, 3) := by decide +kernel
theorem dX0_shiftOf_25 : decode cX0_shiftOf 25 = .ok (.goto (-17), 3) := by decide +kernel
theorem dX0_shiftOf_28 : decode cX0_shiftOf 28 = .ok (.iload_n 1, 1) := by decide +kernel
theorem dX0_shiftOf_29 : decode cX0_shiftOf 29 = .ok (.ireturn, 1) := by decide +kernel
set_option maxRecDepth 20000 in
theorem ggX0_oddOf_X0_sizeOf : GoodIn wsX0_oddOf wsX0_sizeOf := goodIn_r _ [4] (by decide +kernel) (by decide +kernel)
set_option maxRecDepth 20000 in
theorem gX0_oddOf_X0_sizeOf : GoodIn wsX0_oddOf (va_wsS RX0 201 yX0_sizeOf wsX0_sizeOf) := goodIn_app (goodIn_of _ (by decide +kernel)) ggX0_oddOf_X0_sizeOf
set_option maxRecDepth 20000 in
theorem ggX0_oddOf_X0_shiftOf : GoodIn wsX0_oddOf wsX0_shiftOf := goodIn_r _ [7] (by decide +kernel) (by decide +kernel)
set_option maxRecDepth 20000 in
theorem gX0_oddOf_X0_shiftOf : GoodIn wsX0_oddOf (va_wsS RX0 55 yX0_shiftOf wsX0_shiftOf) := goodIn_app (goodIn_of _ (by decide +kernel)) ggX0_oddOf_X0_shiftOf
theorem dX0_oddOf_0 : decode cX0_oddOf 0 = .ok (.iload_n 0, 1) := by decide +kernel
theorem dX0_oddOf_1 : decode cX0_oddOf 1 = .ok (.invokestatic 201, 3) := by decide +kernel
theorem dX0_oddOf_4 : decode cX0_oddOf 4 = .ok (.iload_n 0, 1) := by decide +kernel
theorem dX0_oddOf_5 : decode cX0_oddOf 5 = .ok (.invokestatic 55, 3) := by decide +kernel
theorem dX0_oddOf_8 : decode cX0_oddOf 8 = .ok (.lshr, 1) := by decide +kernel
theorem dX0_oddOf_9 : decode cX0_oddOf 9 = .ok (.lreturn, 1) := by decide +kernel
theorem dX0_isNear_0 : decode cX0_isNear 0 = .ok (.iload_n 2, 1) := by decide +kernel
theorem dX0_isNear_1 : decode cX0_isNear 1 = .ok (.ifCond .lt 23, 3) := by decide +kernel
theorem dX0_isNear_4 : decode cX0_isNear 4 = .ok (.iload_n 2, 1) := by decide +kernel
theorem dX0_isNear_5 : decode cX0_isNear 5 = .ok (.bipush 52, 2) := by decide +kernel
theorem dX0_isNear_7 : decode cX0_isNear 7 = .ok (.if_icmp .gt 17, 3) := by decide +kernel
theorem dX0_isNear_10 : decode cX0_isNear 10 = .ok (.lload_n 0, 1) := by decide +kernel
theorem dX0_isNear_11 : decode cX0_isNear 11 = .ok (.ldc2_w 204, 3) := by decide +kernel
theorem dX0_isNear_14 : decode cX0_isNear 14 = .ok (.iload_n 2, 1) := by decide +kernel
theorem dX0_isNear_15 : decode cX0_isNear 15 = .ok (.lshr, 1) := by decide +kernel
theorem dX0_isNear_16 : decode cX0_isNear 16 = .ok (.lcmp, 1) := by decide +kernel
theorem dX0_isNear_17 : decode cX0_isNear 17 = .ok (.ifCond .gt 7, 3) := by decide +kernel
theorem dX0_isNear_20 : decode cX0_isNear 20 = .ok (.iconst 1, 1) := by decide +kernel
theorem dX0_isNear_21 : decode cX0_isNear 21 = .ok (.goto 4, 3) := by decide +kernel
theorem dX0_isNear_24 : decode cX0_isNear 24 = .ok (.iconst 0, 1) := by decide +kernel
theorem dX0_isNear_25 : decode cX0_isNear 25 = .ok (.ireturn, 1) := by decide +kernel
theorem dX0_countDigits_0 : decode cX0_countDigits 0 = .ok (.iconst 1, 1) := by decide +kernel
theorem dX0_countDigits_1 : decode cX0_countDigits 1 = .ok (.istore_n 3, 1) := by decide +kernel
theorem dX0_countDigits_2 : decode cX0_countDigits 2 = .ok (.lload_n 1, 1) := by decide +kernel
theorem dX0_countDigits_3 : decode cX0_countDigits 3 = .ok (.iload_n 0, 1) := by decide +kernel
theorem dX0_countDigits_4 : decode cX0_countDigits 4 = .ok (.i2l, 1) := by decide +kernel
theorem dX0_countDigits_5 : decode cX0_countDigits 5 = .ok (.ldiv, 1) := by decide +kernel
theorem dX0_countDigits_6 : decode cX0_countDigits 6 = .ok (.lstore 4, 2) := by decide +kernel
theorem dX0_countDigits_8 : decode cX0_countDigits 8 = .ok (.iload_n 3, 1) := by decide +kernel
theorem dX0_countDigits_9 : decode cX0_countDigits 9 = .ok (.bipush 53, 2) := by decide +kernel
theorem dX0_countDigits_11 : decode cX0_countDigits 11 = .ok (.if_icmp .ge 23, 3) := by decide +kernel
theorem dX0_countDigits_14 : decode cX0_countDigits 14 = .ok (.lload 4, 2) := by decide +kernel
theorem dX0_countDigits_16 : decode cX0_countDigits 16 = .ok (.lconst 0, 1) := by decide +kernel
theorem dX0_countDigits_17 : decode cX0_countDigits 17 = .ok (.lcmp, 1) := by decide +kernel
theorem dX0_countDigits_18 : decode cX0_countDigits 18 = .ok (.ifCond .le 16, 3) := by decide +kernel
theorem dX0_countDigits_21 : decode cX0_countDigits 21 = .ok (.lload 4, 2) := by decide +kernel
theorem dX0_countDigits_23 : decode cX0_countDigits 23 = .ok (.iload_n 0, 1) := by decide +kernel
theorem dX0_countDigits_24 : decode cX0_countDigits 24 = .ok (.i2l, 1) := by decide +kernel
theorem dX0_countDigits_25 : decode cX0_countDigits 25 = .ok (.ldiv, 1) := by decide +kernel
theorem dX0_countDigits_26 : decode cX0_countDigits 26 = .ok (.lstore 4, 2) := by decide +kernel
theorem dX0_countDigits_28 : decode cX0_countDigits 28 = .ok (.iinc 3 1, 3) := by decide +kernel
theorem dX0_countDigits_31 : decode cX0_countDigits 31 = .ok (.goto (-23), 3) := by decide +kernel
theorem dX0_countDigits_34 : decode cX0_countDigits 34 = .ok (.iload_n 3, 1) := by decide +kernel
theorem dX0_countDigits_35 : decode cX0_countDigits 35 = .ok (.ireturn, 1) := by decide +kernel
theorem dX0_powerUpTo_0 : decode cX0_powerUpTo 0 = .ok (.lconst 1, 1) := by decide +kernel
theorem dX0_powerUpTo_1 : decode cX0_powerUpTo 1 = .ok (.lstore 5, 2) := by decide +kernel
theorem dX0_powerUpTo_3 : decode cX0_powerUpTo 3 = .ok (.iconst 0, 1) := by decide +kernel
theorem dX0_powerUpTo_4 : decode cX0_powerUpTo 4 = .ok (.istore 7, 2) := by decide +kernel
theorem dX0_powerUpTo_6 : decode cX0_powerUpTo 6 = .ok (.iload 7, 2) := by decide +kernel
theorem dX0_powerUpTo_8 : decode cX0_powerUpTo 8 = .ok (.iload_n 2, 1) := by decide +kernel
theorem dX0_powerUpTo_9 : decode cX0_powerUpTo 9 = .ok (.if_icmp .ge 34, 3) := by decide +kernel
theorem dX0_powerUpTo_12 : decode cX0_powerUpTo 12 = .ok (.lload_n 0, 1) := by decide +kernel
theorem dX0_powerUpTo_13 : decode cX0_powerUpTo 13 = .ok (.lconst 0, 1) := by decide +kernel
theorem dX0_powerUpTo_14 : decode cX0_powerUpTo 14 = .ok (.lcmp, 1) := by decide +kernel
theorem dX0_powerUpTo_15 : decode cX0_powerUpTo 15 = .ok (.ifCond .le 16, 3) := by decide +kernel
theorem dX0_powerUpTo_18 : decode cX0_powerUpTo 18 = .ok (.lload 5, 2) := by decide +kernel
theorem dX0_powerUpTo_20 : decode cX0_powerUpTo 20 = .ok (.lload_n 3, 1) := by decide +kernel
theorem dX0_powerUpTo_21 : decode cX0_powerUpTo 21 = .ok (.lload_n 0, 1) := by decide +kernel
theorem dX0_powerUpTo_22 : decode cX0_powerUpTo 22 = .ok (.ldiv, 1) := by decide +kernel
theorem dX0_powerUpTo_23 : decode cX0_powerUpTo 23 = .ok (.lcmp, 1) := by decide +kernel
theorem dX0_powerUpTo_24 : decode cX0_powerUpTo 24 = .ok (.ifCond .le 7, 3) := by decide +kernel
theorem dX0_powerUpTo_27 : decode cX0_powerUpTo 27 = .ok (.ldc2_w 138, 3) := by decide +kernel
theorem dX0_powerUpTo_30 : decode cX0_powerUpTo 30 = .ok (.lreturn, 1) := by decide +kernel
theorem dX0_powerUpTo_31 : decode cX0_powerUpTo 31 = .ok (.lload 5, 2) := by decide +kernel
theorem dX0_powerUpTo_33 : decode cX0_powerUpTo 33 = .ok (.lload_n 0, 1) := by decide +kernel
theorem dX0_powerUpTo_34 : decode cX0_powerUpTo 34 = .ok (.lmul, 1) := by decide +kernel
theorem dX0_powerUpTo_35 : decode cX0_powerUpTo 35 = .ok (.lstore 5, 2) := by decide +kernel
theorem dX0_powerUpTo_37 : decode cX0_powerUpTo 37 = .ok (.iinc 7 1, 3) := by decide +kernel
theorem dX0_powerUpTo_40 : decode cX0_powerUpTo 40 = .ok (.goto (-34), 3) := by decide +kernel
theorem dX0_powerUpTo_43 : decode cX0_powerUpTo 43 = .ok (.lload 5, 2) := by decide +kernel
theorem dX0_powerUpTo_45 : decode cX0_powerUpTo 45 = .ok (.lreturn, 1) := by decide +kernel
theorem dX0_powerSign_0 : decode cX0_powerSign 0 = .ok (.iload_n 1, 1) := by decide +kernel
theorem dX0_powerSign_1 : decode cX0_powerSign 1 = .ok (.ifCond .ne 5, 3) := by decide +kernel
theorem dX0_powerSign_4 : decode cX0_powerSign 4 = .ok (.iconst 1, 1) := by decide +kernel
theorem dX0_powerSign_5 : decode cX0_powerSign 5 = .ok (.ireturn, 1) := by decide +kernel
theorem dX0_powerSign_6 : decode cX0_powerSign 6 = .ok (.iload_n 1, 1) := by decide +kernel
theorem dX0_powerSign_7 : decode cX0_powerSign 7 = .ok (.iconst 1, 1) := by decide +kernel
theorem dX0_powerSign_8 : decode cX0_powerSign 8 = .ok (.iand, 1) := by decide +kernel
theorem dX0_powerSign_9 : decode cX0_powerSign 9 = .ok (.ifCond .ne 9, 3) := by decide +kernel
theorem dX0_powerSign_12 : decode cX0_powerSign 12 = .ok (.iload_n 0, 1) := by decide +kernel
theorem dX0_powerSign_13 : decode cX0_powerSign 13 = .ok (.iload_n 0, 1) := by decide +kernel
theorem dX0_powerSign_14 : decode cX0_powerSign 14 = .ok (.imul, 1) := by decide +kernel
theorem dX0_powerSign_15 : decode cX0_powerSign 15 = .ok (.goto 4, 3) := by decide +kernel
theorem dX0_powerSign_18 : decode cX0_powerSign 18 = .ok (.iload_n 0, 1) := by decide +kernel
theorem dX0_powerSign_19 : decode cX0_powerSign 19 = .ok (.ireturn, 1) := by decide +kernel
set_option maxRecDepth 20000 in
theorem ggX0_powerOdd_X0_powerUpTo : GoodIn wsX0_powerOdd wsX0_powerUpTo := goodIn_ca (goodIn_r _ [5, 6] (by decide +kernel) (by decide +kernel)) (goodIn_sub (fun _ h => List.mem_cons_of_mem _ (List.mem_append_right _ h)) (by decide +kernel))
set_option maxRecDepth 20000 in
theorem gX0_powerOdd_X0_powerUpTo : GoodIn wsX0_powerOdd (va_wsS RX0 134 yX0_powerUpTo wsX0_powerUpTo) := goodIn_app (goodIn_of _ (by decide +kernel)) ggX0_powerOdd_X0_powerUpTo
theorem dX0_powerOdd_0 : decode cX0_powerOdd 0 = .ok (.lload_n 0, 1) := by decide +kernel
theorem dX0_powerOdd_1 : decode cX0_powerOdd 1 = .ok (.iload_n 2, 1) := by decide +kernel
theorem dX0_powerOdd_2 : decode cX0_powerOdd 2 = .ok (.ldc2_w 204, 3) := by decide +kernel
theorem dX0_powerOdd_5 : decode cX0_powerOdd 5 = .ok (.invokestatic 134, 3) := by decide +kernel
theorem dX0_powerOdd_8 : decode cX0_powerOdd 8 = .ok (.lreturn, 1) := by decide +kernel
set_option maxRecDepth 20000 in
theorem ggX0_isTold_X0_powerOdd : GoodIn wsX0_isTold wsX0_powerOdd := goodIn_ca (goodIn_r _ [5, 6, 7, 8, 4, 9, 1] (by decide +kernel) (by decide +kernel)) (goodIn_sub (fun _ h => List.mem_cons_of_mem _ (List.mem_append_right _ h)) (by decide +kernel))
set_option maxRecDepth 20000 in
theorem gX0_isTold_X0_powerOdd : GoodIn wsX0_isTold (va_wsS RX0 73 yX0_powerOdd wsX0_powerOdd) := goodIn_app (goodIn_of _ (by decide +kernel)) ggX0_isTold_X0_powerOdd
theorem dX0_isTold_0 : decode cX0_isTold 0 = .ok (.iload_n 2, 1) := by decide +kernel
theorem dX0_isTold_1 : decode cX0_isTold 1 = .ok (.iload_n 3, 1) := by decide +kernel
theorem dX0_isTold_2 : decode cX0_isTold 2 = .ok (.imul, 1) := by decide +kernel
theorem dX0_isTold_3 : decode cX0_isTold 3 = .ok (.istore 4, 2) := by decide +kernel
theorem dX0_isTold_5 : decode cX0_isTold 5 = .ok (.iload_n 3, 1) := by decide +kernel
theorem dX0_isTold_6 : decode cX0_isTold 6 = .ok (.ifCond .ge 9, 3) := by decide +kernel
theorem dX0_isTold_9 : decode cX0_isTold 9 = .ok (.lload_n 0, 1) := by decide +kernel
theorem dX0_isTold_10 : decode cX0_isTold 10 = .ok (.lconst 1, 1) := by decide +kernel
theorem dX0_isTold_11 : decode cX0_isTold 11 = .ok (.lcmp, 1) := by decide +kernel
theorem dX0_isTold_12 : decode cX0_isTold 12 = .ok (.ifCond .ne 35, 3) := by decide +kernel
theorem dX0_isTold_15 : decode cX0_isTold 15 = .ok (.lload_n 0, 1) := by decide +kernel
theorem dX0_isTold_16 : decode cX0_isTold 16 = .ok (.iload_n 3, 1) := by decide +kernel
theorem dX0_isTold_17 : decode cX0_isTold 17 = .ok (.invokestatic 73, 3) := by decide +kernel
theorem dX0_isTold_20 : decode cX0_isTold 20 = .ok (.ldc2_w 138, 3) := by decide +kernel
theorem dX0_isTold_23 : decode cX0_isTold 23 = .ok (.lcmp, 1) := by decide +kernel
theorem dX0_isTold_24 : decode cX0_isTold 24 = .ok (.ifCond .eq 23, 3) := by decide +kernel
theorem dX0_isTold_27 : decode cX0_isTold 27 = .ok (.iload 4, 2) := by decide +kernel
theorem dX0_isTold_29 : decode cX0_isTold 29 = .ok (.sipush (-1000), 3) := by decide +kernel
theorem dX0_isTold_32 : decode cX0_isTold 32 = .ok (.if_icmp .lt 15, 3) := by decide +kernel
theorem dX0_isTold_35 : decode cX0_isTold 35 = .ok (.iload 4, 2) := by decide +kernel
theorem dX0_isTold_37 : decode cX0_isTold 37 = .ok (.sipush 1000, 3) := by decide +kernel
theorem dX0_isTold_40 : decode cX0_isTold 40 = .ok (.if_icmp .gt 7, 3) := by decide +kernel
theorem dX0_isTold_43 : decode cX0_isTold 43 = .ok (.iconst 1, 1) := by decide +kernel
theorem dX0_isTold_44 : decode cX0_isTold 44 = .ok (.goto 4, 3) := by decide +kernel
theorem dX0_isTold_47 : decode cX0_isTold 47 = .ok (.iconst 0, 1) := by decide +kernel
theorem dX0_isTold_48 : decode cX0_isTold 48 = .ok (.ireturn, 1) := by decide +kernel
set_option maxRecDepth 20000 in
theorem ggX0_powerBits_X0_signOf : GoodIn wsX0_powerBits wsX0_signOf := goodIn_r _ [4] (by decide +kernel) (by decide +kernel)
set_option maxRecDepth 20000 in
theorem gX0_powerBits_X0_signOf : GoodIn wsX0_powerBits (va_wsS RX0 47 yX0_signOf wsX0_signOf) := goodIn_app (goodIn_of _ (by decide +kernel)) ggX0_powerBits_X0_signOf
set_option maxRecDepth 20000 in
theorem ggX0_powerBits_X0_powerSign : GoodIn wsX0_powerBits wsX0_powerSign := goodIn_r _ [7] (by decide +kernel) (by decide +kernel)
set_option maxRecDepth 20000 in
theorem gX0_powerBits_X0_powerSign : GoodIn wsX0_powerBits (va_wsS RX0 69 yX0_powerSign wsX0_powerSign) := goodIn_app (goodIn_of _ (by decide +kernel)) ggX0_powerBits_X0_powerSign
set_option maxRecDepth 20000 in
theorem ggX0_powerBits_X0_oddOf : GoodIn wsX0_powerBits wsX0_oddOf := goodIn_r _ [10, 11, 12, 3, 13, 14, 15, 16] (by decide +kernel) (by decide +kernel)
set_option maxRecDepth 20000 in
theorem gX0_powerBits_X0_oddOf : GoodIn wsX0_powerBits (va_wsS RX0 51 yX0_oddOf wsX0_oddOf) := goodIn_app (goodIn_of _ (by decide +kernel)) ggX0_powerBits_X0_oddOf
set_option maxRecDepth 20000 in
theorem ggX0_powerBits_X0_powerOdd : GoodIn wsX0_powerBits wsX0_powerOdd := goodIn_ca (goodIn_r _ [19, 20, 21, 22, 3, 23, 24] (by decide +kernel) (by decide +kernel)) (goodIn_sub (fun _ h => List.mem_cons_of_mem _ (List.mem_append_right _ h)) (by decide +kernel))
set_option maxRecDepth 20000 in
theorem gX0_powerBits_X0_powerOdd : GoodIn wsX0_powerBits (va_wsS RX0 73 yX0_powerOdd wsX0_powerOdd) := goodIn_app (goodIn_of _ (by decide +kernel)) ggX0_powerBits_X0_powerOdd
set_option maxRecDepth 20000 in
theorem ggX0_powerBits_X0_shiftOf : GoodIn wsX0_powerBits wsX0_shiftOf := goodIn_r _ [16] (by decide +kernel) (by decide +kernel)
set_option maxRecDepth 20000 in
theorem gX0_powerBits_X0_shiftOf : GoodIn wsX0_powerBits (va_wsS RX0 55 yX0_shiftOf wsX0_shiftOf) := goodIn_app (goodIn_of _ (by decide +kernel)) ggX0_powerBits_X0_shiftOf
set_option maxRecDepth 20000 in
theorem ggX0_powerBits_X0_bitsOf : GoodIn wsX0_powerBits wsX0_bitsOf := goodIn_r _ [27, 28, 29, 3, 30, 31, 32, 33, 34, 35, 36] (by decide +kernel) (by decide +kernel)
set_option maxRecDepth 20000 in
theorem gX0_powerBits_X0_bitsOf : GoodIn wsX0_powerBits (va_wsS RX0 164 yX0_bitsOf wsX0_bitsOf) := goodIn_app (goodIn_of _ (by decide +kernel)) ggX0_powerBits_X0_bitsOf
theorem dX0_powerBits_0 : decode cX0_powerBits 0 = .ok (.iload_n 0, 1) := by decide +kernel
theorem dX0_powerBits_1 : decode cX0_powerBits 1 = .ok (.invokestatic 47, 3) := by decide +kernel
theorem dX0_powerBits_4 : decode cX0_powerBits 4 = .ok (.iload_n 1, 1) := by decide +kernel
theorem dX0_powerBits_5 : decode cX0_powerBits 5 = .ok (.invokestatic 69, 3) := by decide +kernel
theorem dX0_powerBits_8 : decode cX0_powerBits 8 = .ok (.iload_n 0, 1) := by decide +kernel
theorem dX0_powerBits_9 : decode cX0_powerBits 9 = .ok (.invokestatic 51, 3) := by decide +kernel
theorem dX0_powerBits_12 : decode cX0_powerBits 12 = .ok (.iload_n 1, 1) := by decide +kernel
theorem dX0_powerBits_13 : decode cX0_powerBits 13 = .ok (.invokestatic 73, 3) := by decide +kernel
theorem dX0_powerBits_16 : decode cX0_powerBits 16 = .ok (.iload_n 0, 1) := by decide +kernel
theorem dX0_powerBits_17 : decode cX0_powerBits 17 = .ok (.invokestatic 55, 3) := by decide +kernel
theorem dX0_powerBits_20 : decode cX0_powerBits 20 = .ok (.iload_n 1, 1) := by decide +kernel
theorem dX0_powerBits_21 : decode cX0_powerBits 21 = .ok (.imul, 1) := by decide +kernel
theorem dX0_powerBits_22 : decode cX0_powerBits 22 = .ok (.invokestatic 164, 3) := by decide +kernel
theorem dX0_powerBits_25 : decode cX0_powerBits 25 = .ok (.lreturn, 1) := by decide +kernel
set_option maxRecDepth 20000 in
theorem ggX0_powerAsDouble_X0_signOf : GoodIn wsX0_powerAsDouble wsX0_signOf := goodIn_r _ [4] (by decide +kernel) (by decide +kernel)
set_option maxRecDepth 20000 in
theorem gX0_powerAsDouble_X0_signOf : GoodIn wsX0_powerAsDouble (va_wsS RX0 47 yX0_signOf wsX0_signOf) := goodIn_app (goodIn_of _ (by decide +kernel)) ggX0_powerAsDouble_X0_signOf
set_option maxRecDepth 20000 in
theorem ggX0_powerAsDouble_X0_powerSign : GoodIn wsX0_powerAsDouble wsX0_powerSign := goodIn_r _ [7] (by decide +kernel) (by decide +kernel)
set_option maxRecDepth 20000 in
theorem gX0_powerAsDouble_X0_powerSign : GoodIn wsX0_powerAsDouble (va_wsS RX0 69 yX0_powerSign wsX0_powerSign) := goodIn_app (goodIn_of _ (by decide +kernel)) ggX0_powerAsDouble_X0_powerSign
set_option maxRecDepth 20000 in
theorem ggX0_powerAsDouble_X0_oddOf : GoodIn wsX0_powerAsDouble wsX0_oddOf := goodIn_r _ [10, 11, 12, 3, 13, 14, 15, 16] (by decide +kernel) (by decide +kernel)
set_option maxRecDepth 20000 in
theorem gX0_powerAsDouble_X0_oddOf : GoodIn wsX0_powerAsDouble (va_wsS RX0 51 yX0_oddOf wsX0_oddOf) := goodIn_app (goodIn_of _ (by decide +kernel)) ggX0_powerAsDouble_X0_oddOf
set_option maxRecDepth 20000 in
theorem ggX0_powerAsDouble_X0_powerOdd : GoodIn wsX0_powerAsDouble wsX0_powerOdd := goodIn_ca (goodIn_r _ [19, 20, 21, 22, 3, 23, 24] (by decide +kernel) (by decide +kernel)) (goodIn_sub (fun _ h => List.mem_cons_of_mem _ (List.mem_append_right _ h)) (by decide +kernel))
set_option maxRecDepth 20000 in
theorem gX0_powerAsDouble_X0_powerOdd : GoodIn wsX0_powerAsDouble (va_wsS RX0 73 yX0_powerOdd wsX0_powerOdd) := goodIn_app (goodIn_of _ (by decide +kernel)) ggX0_powerAsDouble_X0_powerOdd
set_option maxRecDepth 20000 in
theorem ggX0_powerAsDouble_X0_shiftOf : GoodIn wsX0_powerAsDouble wsX0_shiftOf := goodIn_r _ [16] (by decide +kernel) (by decide +kernel)
set_option maxRecDepth 20000 in
theorem gX0_powerAsDouble_X0_shiftOf : GoodIn wsX0_powerAsDouble (va_wsS RX0 55 yX0_shiftOf wsX0_shiftOf) := goodIn_app (goodIn_of _ (by decide +kernel)) ggX0_powerAsDouble_X0_shiftOf
set_option maxRecDepth 20000 in
theorem ggX0_powerAsDouble_X0_asDouble : GoodIn wsX0_powerAsDouble wsX0_asDouble := goodIn_r _ [27, 28, 29, 3, 30, 31, 32] (by decide +kernel) (by decide +kernel)
set_option maxRecDepth 20000 in
theorem gX0_powerAsDouble_X0_asDouble : GoodIn wsX0_powerAsDouble (va_wsS RX0 190 yX0_asDouble wsX0_asDouble) := goodIn_app (goodIn_of _ (by decide +kernel)) ggX0_powerAsDouble_X0_asDouble
theorem dX0_powerAsDouble_0 : decode cX0_powerAsDouble 0 = .ok (.iload_n 0, 1) := by decide +kernel
theorem dX0_powerAsDouble_1 : decode cX0_powerAsDouble 1 = .ok (.invokestatic 47, 3) := by decide +kernel
theorem dX0_powerAsDouble_4 : decode cX0_powerAsDouble 4 = .ok (.iload_n 1, 1) := by decide +kernel
theorem dX0_powerAsDouble_5 : decode cX0_powerAsDouble 5 = .ok (.invokestatic 69, 3) := by decide +kernel
theorem dX0_powerAsDouble_8 : decode cX0_powerAsDouble 8 = .ok (.iload_n 0, 1) := by decide +kernel
theorem dX0_powerAsDouble_9 : decode cX0_powerAsDouble 9 = .ok (.invokestatic 51, 3) := by decide +kernel
theorem dX0_powerAsDouble_12 : decode cX0_powerAsDouble 12 = .ok (.iload_n 1, 1) := by decide +kernel
theorem dX0_powerAsDouble_13 : decode cX0_powerAsDouble 13 = .ok (.invokestatic 73, 3) := by decide +kernel
theorem dX0_powerAsDouble_16 : decode cX0_powerAsDouble 16 = .ok (.iload_n 0, 1) := by decide +kernel
theorem dX0_powerAsDouble_17 : decode cX0_powerAsDouble 17 = .ok (.invokestatic 55, 3) := by decide +kernel
theorem dX0_powerAsDouble_20 : decode cX0_powerAsDouble 20 = .ok (.iload_n 1, 1) := by decide +kernel
theorem dX0_powerAsDouble_21 : decode cX0_powerAsDouble 21 = .ok (.imul, 1) := by decide +kernel
theorem dX0_powerAsDouble_22 : decode cX0_powerAsDouble 22 = .ok (.invokestatic 190, 3) := by decide +kernel
theorem dX0_powerAsDouble_25 : decode cX0_powerAsDouble 25 = .ok (.dreturn, 1) := by decide +kernel
set_option maxRecDepth 20000 in
theorem ggX0_nearPower_X0_signOf : GoodIn wsX0_nearPower wsX0_signOf := goodIn_r _ [5] (by decide +kernel) (by decide +kernel)
set_option maxRecDepth 20000 in
theorem gX0_nearPower_X0_signOf : GoodIn wsX0_nearPower (va_wsS RX0 47 yX0_signOf wsX0_signOf) := goodIn_app (goodIn_of _ (by decide +kernel)) ggX0_nearPower_X0_signOf
set_option maxRecDepth 20000 in
theorem ggX0_nearPower_X0_powerSign : GoodIn wsX0_nearPower wsX0_powerSign := goodIn_r _ [8] (by decide +kernel) (by decide +kernel)
set_option maxRecDepth 20000 in
theorem gX0_nearPower_X0_powerSign : GoodIn wsX0_nearPower (va_wsS RX0 69 yX0_powerSign wsX0_powerSign) := goodIn_app (goodIn_of _ (by decide +kernel)) ggX0_nearPower_X0_powerSign
set_option maxRecDepth 20000 in
theorem ggX0_nearPower_X0_sizeOf : GoodIn wsX0_nearPower wsX0_sizeOf := goodIn_r _ [11] (by decide +kernel) (by decide +kernel)
set_option maxRecDepth 20000 in
theorem gX0_nearPower_X0_sizeOf : GoodIn wsX0_nearPower (va_wsS RX0 201 yX0_sizeOf wsX0_sizeOf) := goodIn_app (goodIn_of _ (by decide +kernel)) ggX0_nearPower_X0_sizeOf
set_option maxRecDepth 20000 in
theorem ggX0_nearPower_X0_powerUpTo : GoodIn wsX0_nearPower wsX0_powerUpTo := goodIn_ca (goodIn_r _ [14, 15] (by decide +kernel) (by decide +kernel)) (goodIn_sub (fun _ h => List.mem_cons_of_mem _ (List.mem_append_right _ h)) (by decide +kernel))
set_option maxRecDepth 20000 in
theorem gX0_nearPower_X0_powerUpTo : GoodIn wsX0_nearPower (va_wsS RX0 134 yX0_powerUpTo wsX0_powerUpTo) := goodIn_app (goodIn_of _ (by decide +kernel)) ggX0_nearPower_X0_powerUpTo
theorem dX0_nearPower_0 : decode cX0_nearPower 0 = .ok (.iload_n 0, 1) := by decide +kernel
theorem dX0_nearPower_1 : decode cX0_nearPower 1 = .ok (.invokestatic 47, 3) := by decide +kernel
theorem dX0_nearPower_4 : decode cX0_nearPower 4 = .ok (.iload_n 1, 1) := by decide +kernel
theorem dX0_nearPower_5 : decode cX0_nearPower 5 = .ok (.invokestatic 69, 3) := by decide +kernel
theorem dX0_nearPower_8 : decode cX0_nearPower 8 = .ok (.i2l, 1) := by decide +kernel
theorem dX0_nearPower_9 : decode cX0_nearPower 9 = .ok (.iload_n 0, 1) := by decide +kernel
theorem dX0_nearPower_10 : decode cX0_nearPower 10 = .ok (.invokestatic 201, 3) := by decide +kernel
theorem dX0_nearPower_13 : decode cX0_nearPower 13 = .ok (.iload_n 1, 1) := by decide +kernel
theorem dX0_nearPower_14 : decode cX0_nearPower 14 = .ok (.ldc2_w 204, 3) := by decide +kernel
theorem dX0_nearPower_17 : decode cX0_nearPower 17 = .ok (.invokestatic 134, 3) := by decide +kernel
theorem dX0_nearPower_20 : decode cX0_nearPower 20 = .ok (.lmul, 1) := by decide +kernel
theorem dX0_nearPower_21 : decode cX0_nearPower 21 = .ok (.lreturn, 1) := by decide +kernel
theorem dX0_doublings_0 : decode cX0_doublings 0 = .ok (.iconst 0, 1) := by decide +kernel
theorem dX0_doublings_1 : decode cX0_doublings 1 = .ok (.istore_n 2, 1) := by decide +kernel
theorem dX0_doublings_2 : decode cX0_doublings 2 = .ok (.bipush 32, 2) := by decide +kernel
theorem dX0_doublings_4 : decode cX0_doublings 4 = .ok (.istore_n 3, 1) := by decide +kernel
theorem dX0_doublings_5 : decode cX0_doublings 5 = .ok (.iload_n 3, 1) := by decide +kernel
theorem dX0_doublings_6 : decode cX0_doublings 6 = .ok (.ifCond .le 27, 3) := by decide +kernel
theorem dX0_doublings_9 : decode cX0_doublings 9 = .ok (.lload_n 0, 1) := by decide +kernel
theorem dX0_doublings_10 : decode cX0_doublings 10 = .ok (.iload_n 2, 1) := by decide +kernel
theorem dX0_doublings_11 : decode cX0_doublings 11 = .ok (.lshl, 1) := by decide +kernel
theorem dX0_doublings_12 : decode cX0_doublings 12 = .ok (.lconst 1, 1) := by decide +kernel
theorem dX0_doublings_13 : decode cX0_doublings 13 = .ok (.bipush 53, 2) := by decide +kernel
theorem dX0_doublings_15 : decode cX0_doublings 15 = .ok (.iload_n 3, 1) := by decide +kernel
theorem dX0_doublings_16 : decode cX0_doublings 16 = .ok (.isub, 1) := by decide +kernel
theorem dX0_doublings_17 : decode cX0_doublings 17 = .ok (.lshl, 1) := by decide +kernel
theorem dX0_doublings_18 : decode cX0_doublings 18 = .ok (.lcmp, 1) := by decide +kernel
theorem dX0_doublings_19 : decode cX0_doublings 19 = .ok (.ifCond .ge 7, 3) := by decide +kernel
theorem dX0_doublings_22 : decode cX0_doublings 22 = .ok (.iload_n 2, 1) := by decide +kernel
theorem dX0_doublings_23 : decode cX0_doublings 23 = .ok (.iload_n 3, 1) := by decide +kernel
theorem dX0_doublings_24 : decode cX0_doublings 24 = .ok (.iadd, 1) := by decide +kernel
theorem dX0_doublings_25 : decode cX0_doublings 25 = .ok (.istore_n 2, 1) := by decide +kernel
theorem dX0_doublings_26 : decode cX0_doublings 26 = .ok (.iload_n 3, 1) := by decide +kernel
theorem dX0_doublings_27 : decode cX0_doublings 27 = .ok (.iconst 1, 1) := by decide +kernel
theorem dX0_doublings_28 : decode cX0_doublings 28 = .ok (.ishr, 1) := by decide +kernel
theorem dX0_doublings_29 : decode cX0_doublings 29 = .ok (.istore_n 3, 1) := by decide +kernel
theorem dX0_doublings_30 : decode cX0_doublings 30 = .ok (.goto (-25), 3) := by decide +kernel
theorem dX0_doublings_33 : decode cX0_doublings 33 = .ok (.iload_n 2, 1) := by decide +kernel
theorem dX0_doublings_34 : decode cX0_doublings 34 = .ok (.ireturn, 1) := by decide +kernel
theorem dX0_pack_0 : decode cX0_pack 0 = .ok (.lload_n 1, 1) := by decide +kernel
theorem dX0_pack_1 : decode cX0_pack 1 = .ok (.ldc2_w 218, 3) := by decide +kernel
theorem dX0_pack_4 : decode cX0_pack 4 = .ok (.lsub, 1) := by decide +kernel
theorem dX0_pack_5 : decode cX0_pack 5 = .ok (.iload_n 3, 1) := by decide +kernel
theorem dX0_pack_6 : decode cX0_pack 6 = .ok (.i2l, 1) := by decide +kernel
theorem dX0_pack_7 : decode cX0_pack 7 = .ok (.ldc2_w 220, 3) := by decide +kernel
theorem dX0_pack_10 : decode cX0_pack 10 = .ok (.ladd, 1) := by decide +kernel
theorem dX0_pack_11 : decode cX0_pack 11 = .ok (.ldc2_w 218, 3) := by decide +kernel
theorem dX0_pack_14 : decode cX0_pack 14 = .ok (.lmul, 1) := by decide +kernel
theorem dX0_pack_15 : decode cX0_pack 15 = .ok (.ladd, 1) := by decide +kernel
theorem dX0_pack_16 : decode cX0_pack 16 = .ok (.lstore 4, 2) := by decide +kernel
theorem dX0_pack_18 : decode cX0_pack 18 = .ok (.iload_n 0, 1) := by decide +kernel
theorem dX0_pack_19 : decode cX0_pack 19 = .ok (.ifCond .eq 12, 3) := by decide +kernel
theorem dX0_pack_22 : decode cX0_pack 22 = .ok (.lload 4, 2) := by decide +kernel
theorem dX0_pack_24 : decode cX0_pack 24 = .ok (.ldc2_w 216, 3) := by decide +kernel
theorem dX0_pack_27 : decode cX0_pack 27 = .ok (.lor, 1) := by decide +kernel
theorem dX0_pack_28 : decode cX0_pack 28 = .ok (.goto 5, 3) := by decide +kernel
theorem dX0_pack_31 : decode cX0_pack 31 = .ok (.lload 4, 2) := by decide +kernel
theorem dX0_pack_33 : decode cX0_pack 33 = .ok (.lreturn, 1) := by decide +kernel
set_option maxRecDepth 20000 in
theorem ggX0_bitsOf_X0_doublings : GoodIn wsX0_bitsOf wsX0_doublings := goodIn_r _ [4] (by decide +kernel) (by decide +kernel)
set_option maxRecDepth 20000 in
theorem gX0_bitsOf_X0_doublings : GoodIn wsX0_bitsOf (va_wsS RX0 222 yX0_doublings wsX0_doublings) := goodIn_app (goodIn_of _ (by decide +kernel)) ggX0_bitsOf_X0_doublings
set_option maxRecDepth 20000 in
theorem ggX0_bitsOf_X0_pack : GoodIn wsX0_bitsOf wsX0_pack := goodIn_r _ [7, 8, 9, 10] (by decide +kernel) (by decide +kernel)
set_option maxRecDepth 20000 in
theorem gX0_bitsOf_X0_pack : GoodIn wsX0_bitsOf (va_wsS RX0 226 yX0_pack wsX0_pack) := goodIn_app (goodIn_of _ (by decide +kernel)) ggX0_bitsOf_X0_pack
theorem dX0_bitsOf_0 : decode cX0_bitsOf 0 = .ok (.iload_n 0, 1) := by decide +kernel
theorem dX0_bitsOf_1 : decode cX0_bitsOf 1 = .ok (.ifCond .ne 5, 3) := by decide +kernel
theorem dX0_bitsOf_4 : decode cX0_bitsOf 4 = .ok (.lconst 0, 1) := by decide +kernel
theorem dX0_bitsOf_5 : decode cX0_bitsOf 5 = .ok (.lreturn, 1) := by decide +kernel
theorem dX0_bitsOf_6 : decode cX0_bitsOf 6 = .ok (.lload_n 1, 1) := by decide +kernel
theorem dX0_bitsOf_7 : decode cX0_bitsOf 7 = .ok (.invokestatic 222, 3) := by decide +kernel
theorem dX0_bitsOf_10 : decode cX0_bitsOf 10 = .ok (.istore 4, 2) := by decide +kernel
theorem dX0_bitsOf_12 : decode cX0_bitsOf 12 = .ok (.iload_n 0, 1) := by decide +kernel
theorem dX0_bitsOf_13 : decode cX0_bitsOf 13 = .ok (.ifCond .ge 7, 3) := by decide +kernel
theorem dX0_bitsOf_16 : decode cX0_bitsOf 16 = .ok (.iconst 1, 1) := by decide +kernel
theorem dX0_bitsOf_17 : decode cX0_bitsOf 17 = .ok (.goto 4, 3) := by decide +kernel
theorem dX0_bitsOf_20 : decode cX0_bitsOf 20 = .ok (.iconst 0, 1) := by decide +kernel
theorem dX0_bitsOf_21 : decode cX0_bitsOf 21 = .ok (.lload_n 1, 1) := by decide +kernel
theorem dX0_bitsOf_22 : decode cX0_bitsOf 22 = .ok (.iload 4, 2) := by decide +kernel
theorem dX0_bitsOf_24 : decode cX0_bitsOf 24 = .ok (.lshl, 1) := by decide +kernel
theorem dX0_bitsOf_25 : decode cX0_bitsOf 25 = .ok (.iload_n 3, 1) := by decide +kernel
theorem dX0_bitsOf_26 : decode cX0_bitsOf 26 = .ok (.iload 4, 2) := by decide +kernel
theorem dX0_bitsOf_28 : decode cX0_bitsOf 28 = .ok (.isub, 1) := by decide +kernel
theorem dX0_bitsOf_29 : decode cX0_bitsOf 29 = .ok (.invokestatic 226, 3) := by decide +kernel
theorem dX0_bitsOf_32 : decode cX0_bitsOf 32 = .ok (.lreturn, 1) := by decide +kernel
set_option maxRecDepth 20000 in
theorem ggX0_asDouble_X0_twoAsDouble : GoodIn wsX0_asDouble wsX0_twoAsDouble := goodIn_r _ [4, 5, 6] (by decide +kernel) (by decide +kernel)
set_option maxRecDepth 20000 in
theorem gX0_asDouble_X0_twoAsDouble : GoodIn wsX0_asDouble (va_wsS RX0 230 yX0_twoAsDouble wsX0_twoAsDouble) := goodIn_app (goodIn_of _ (by decide +kernel)) ggX0_asDouble_X0_twoAsDouble
theorem dX0_asDouble_0 : decode cX0_asDouble 0 = .ok (.iload_n 0, 1) := by decide +kernel
theorem dX0_asDouble_1 : decode cX0_asDouble 1 = .ok (.i2d, 1) := by decide +kernel
theorem dX0_asDouble_2 : decode cX0_asDouble 2 = .ok (.lload_n 1, 1) := by decide +kernel
theorem dX0_asDouble_3 : decode cX0_asDouble 3 = .ok (.l2d, 1) := by decide +kernel
theorem dX0_asDouble_4 : decode cX0_asDouble 4 = .ok (.dmul, 1) := by decide +kernel
theorem dX0_asDouble_5 : decode cX0_asDouble 5 = .ok (.iload_n 3, 1) := by decide +kernel
theorem dX0_asDouble_6 : decode cX0_asDouble 6 = .ok (.invokestatic 230, 3) := by decide +kernel
theorem dX0_asDouble_9 : decode cX0_asDouble 9 = .ok (.dmul, 1) := by decide +kernel
theorem dX0_asDouble_10 : decode cX0_asDouble 10 = .ok (.dreturn, 1) := by decide +kernel
theorem dX0_twoAsDouble_0 : decode cX0_twoAsDouble 0 = .ok (.dconst 1, 1) := by decide +kernel
theorem dX0_twoAsDouble_1 : decode cX0_twoAsDouble 1 = .ok (.dstore_n 1, 1) := by decide +kernel
theorem dX0_twoAsDouble_2 : decode cX0_twoAsDouble 2 = .ok (.iload_n 0, 1) := by decide +kernel
theorem dX0_twoAsDouble_3 : decode cX0_twoAsDouble 3 = .ok (.ifCond .ge 9, 3) := by decide +kernel
theorem dX0_twoAsDouble_6 : decode cX0_twoAsDouble 6 = .ok (.ldc2_w 234, 3) := by decide +kernel
theorem dX0_twoAsDouble_9 : decode cX0_twoAsDouble 9 = .ok (.goto 6, 3) := by decide +kernel
theorem dX0_twoAsDouble_12 : decode cX0_twoAsDouble 12 = .ok (.ldc2_w 236, 3) := by decide +kernel
theorem dX0_twoAsDouble_15 : decode cX0_twoAsDouble 15 = .ok (.dstore_n 3, 1) := by decide +kernel
theorem dX0_twoAsDouble_16 : decode cX0_twoAsDouble 16 = .ok (.iload_n 0, 1) := by decide +kernel
theorem dX0_twoAsDouble_17 : decode cX0_twoAsDouble 17 = .ok (.ifCond .ge 8, 3) := by decide +kernel
theorem dX0_twoAsDouble_20 : decode cX0_twoAsDouble 20 = .ok (.iload_n 0, 1) := by decide +kernel
theorem dX0_twoAsDouble_21 : decode cX0_twoAsDouble 21 = .ok (.ineg, 1) := by decide +kernel
theorem dX0_twoAsDouble_22 : decode cX0_twoAsDouble 22 = .ok (.goto 4, 3) := by decide +kernel
theorem dX0_twoAsDouble_25 : decode cX0_twoAsDouble 25 = .ok (.iload_n 0, 1) := by decide +kernel
theorem dX0_twoAsDouble_26 : decode cX0_twoAsDouble 26 = .ok (.istore 5, 2) := by decide +kernel
theorem dX0_twoAsDouble_28 : decode cX0_twoAsDouble 28 = .ok (.iconst 0, 1) := by decide +kernel
theorem dX0_twoAsDouble_29 : decode cX0_twoAsDouble 29 = .ok (.istore 6, 2) := by decide +kernel
theorem dX0_twoAsDouble_31 : decode cX0_twoAsDouble 31 = .ok (.iload 6, 2) := by decide +kernel
theorem dX0_twoAsDouble_33 : decode cX0_twoAsDouble 33 = .ok (.bipush 10, 2) := by decide +kernel
theorem dX0_twoAsDouble_35 : decode cX0_twoAsDouble 35 = .ok (.if_icmp .ge 35, 3) := by decide +kernel
theorem dX0_twoAsDouble_38 : decode cX0_twoAsDouble 38 = .ok (.iload 5, 2) := by decide +kernel
theorem dX0_twoAsDouble_40 : decode cX0_twoAsDouble 40 = .ok (.iload 6, 2) := by decide +kernel
theorem dX0_twoAsDouble_42 : decode cX0_twoAsDouble 42 = .ok (.ishr, 1) := by decide +kernel
theorem dX0_twoAsDouble_43 : decode cX0_twoAsDouble 43 = .ok (.iconst 1, 1) := by decide +kernel
theorem dX0_twoAsDouble_44 : decode cX0_twoAsDouble 44 = .ok (.iand, 1) := by decide +kernel
theorem dX0_twoAsDouble_45 : decode cX0_twoAsDouble 45 = .ok (.iconst 1, 1) := by decide +kernel
theorem dX0_twoAsDouble_46 : decode cX0_twoAsDouble 46 = .ok (.if_icmp .ne 7, 3) := by decide +kernel
theorem dX0_twoAsDouble_49 : decode cX0_twoAsDouble 49 = .ok (.dload_n 1, 1) := by decide +kernel
theorem dX0_twoAsDouble_50 : decode cX0_twoAsDouble 50 = .ok (.dload_n 3, 1) := by decide +kernel
theorem dX0_twoAsDouble_51 : decode cX0_twoAsDouble 51 = .ok (.dmul, 1) := by decide +kernel
theorem dX0_twoAsDouble_52 : decode cX0_twoAsDouble 52 = .ok (.dstore_n 1, 1) := by decide +kernel
theorem dX0_twoAsDouble_53 : decode cX0_twoAsDouble 53 = .ok (.iload 6, 2) := by decide +kernel
theorem dX0_twoAsDouble_55 : decode cX0_twoAsDouble 55 = .ok (.bipush 9, 2) := by decide +kernel
theorem dX0_twoAsDouble_57 : decode cX0_twoAsDouble 57 = .ok (.if_icmp .ge 7, 3) := by decide +kernel
theorem dX0_twoAsDouble_60 : decode cX0_twoAsDouble 60 = .ok (.dload_n 3, 1) := by decide +kernel
theorem dX0_twoAsDouble_61 : decode cX0_twoAsDouble 61 = .ok (.dload_n 3, 1) := by decide +kernel
theorem dX0_twoAsDouble_62 : decode cX0_twoAsDouble 62 = .ok (.dmul, 1) := by decide +kernel
theorem dX0_twoAsDouble_63 : decode cX0_twoAsDouble 63 = .ok (.dstore_n 3, 1) := by decide +kernel
theorem dX0_twoAsDouble_64 : decode cX0_twoAsDouble 64 = .ok (.iinc 6 1, 3) := by decide +kernel
theorem dX0_twoAsDouble_67 : decode cX0_twoAsDouble 67 = .ok (.goto (-36), 3) := by decide +kernel
theorem dX0_twoAsDouble_70 : decode cX0_twoAsDouble 70 = .ok (.dload_n 1, 1) := by decide +kernel
theorem dX0_twoAsDouble_71 : decode cX0_twoAsDouble 71 = .ok (.dreturn, 1) := by decide +kernel
set_option maxRecDepth 20000 in
theorem ggX0_bitsOfDouble_X0_exponentOf : GoodIn wsX0_bitsOfDouble wsX0_exponentOf := goodIn_r _ [5, 6, 7, 4, 8, 9, 10] (by decide +kernel) (by decide +kernel)
set_option maxRecDepth 20000 in
theorem gX0_bitsOfDouble_X0_exponentOf : GoodIn wsX0_bitsOfDouble (va_wsS RX0 238 yX0_exponentOf wsX0_exponentOf) := goodIn_app (goodIn_of _ (by decide +kernel)) ggX0_bitsOfDouble_X0_exponentOf
set_option maxRecDepth 20000 in
theorem ggX0_bitsOfDouble_X0_twoAsDouble : GoodIn wsX0_bitsOfDouble wsX0_twoAsDouble := goodIn_r _ [8, 9, 10] (by decide +kernel) (by decide +kernel)
set_option maxRecDepth 20000 in
theorem gX0_bitsOfDouble_X0_twoAsDouble : GoodIn wsX0_bitsOfDouble (va_wsS RX0 230 yX0_twoAsDouble wsX0_twoAsDouble) := goodIn_app (goodIn_of _ (by decide +kernel)) ggX0_bitsOfDouble_X0_twoAsDouble
set_option maxRecDepth 20000 in
theorem ggX0_bitsOfDouble_X0_pack : GoodIn wsX0_bitsOfDouble wsX0_pack := goodIn_r _ [13, 14, 15, 16] (by decide +kernel) (by decide +kernel)
set_option maxRecDepth 20000 in
theorem gX0_bitsOfDouble_X0_pack : GoodIn wsX0_bitsOfDouble (va_wsS RX0 226 yX0_pack wsX0_pack) := goodIn_app (goodIn_of _ (by decide +kernel)) ggX0_bitsOfDouble_X0_pack
theorem dX0_bitsOfDouble_0 : decode cX0_bitsOfDouble 0 = .ok (.dload_n 0, 1) := by decide +kernel
theorem dX0_bitsOfDouble_1 : decode cX0_bitsOfDouble 1 = .ok (.dconst 0, 1) := by decide +kernel
theorem dX0_bitsOfDouble_2 : decode cX0_bitsOfDouble 2 = .ok (.dcmp .l, 1) := by decide +kernel
theorem dX0_bitsOfDouble_3 : decode cX0_bitsOfDouble 3 = .ok (.ifCond .ne 5, 3) := by decide +kernel
theorem dX0_bitsOfDouble_6 : decode cX0_bitsOfDouble 6 = .ok (.lconst 0, 1) := by decide +kernel
theorem dX0_bitsOfDouble_7 : decode cX0_bitsOfDouble 7 = .ok (.lreturn, 1) := by decide +kernel
theorem dX0_bitsOfDouble_8 : decode cX0_bitsOfDouble 8 = .ok (.dload_n 0, 1) := by decide +kernel
theorem dX0_bitsOfDouble_9 : decode cX0_bitsOfDouble 9 = .ok (.dconst 0, 1) := by decide +kernel
theorem dX0_bitsOfDouble_10 : decode cX0_bitsOfDouble 10 = .ok (.dcmp .g, 1) := by decide +kernel
theorem dX0_bitsOfDouble_11 : decode cX0_bitsOfDouble 11 = .ok (.ifCond .ge 8, 3) := by decide +kernel
theorem dX0_bitsOfDouble_14 : decode cX0_bitsOfDouble 14 = .ok (.dload_n 0, 1) := by decide +kernel
theorem dX0_bitsOfDouble_15 : decode cX0_bitsOfDouble 15 = .ok (.dneg, 1) := by decide +kernel
theorem dX0_bitsOfDouble_16 : decode cX0_bitsOfDouble 16 = .ok (.goto 4, 3) := by decide +kernel
theorem dX0_bitsOfDouble_19 : decode cX0_bitsOfDouble 19 = .ok (.dload_n 0, 1) := by decide +kernel
theorem dX0_bitsOfDouble_20 : decode cX0_bitsOfDouble 20 = .ok (.dstore_n 2, 1) := by decide +kernel
theorem dX0_bitsOfDouble_21 : decode cX0_bitsOfDouble 21 = .ok (.dload_n 2, 1) := by decide +kernel
theorem dX0_bitsOfDouble_22 : decode cX0_bitsOfDouble 22 = .ok (.invokestatic 238, 3) := by decide +kernel
theorem dX0_bitsOfDouble_25 : decode cX0_bitsOfDouble 25 = .ok (.istore 4, 2) := by decide +kernel
theorem dX0_bitsOfDouble_27 : decode cX0_bitsOfDouble 27 = .ok (.dload_n 2, 1) := by decide +kernel
theorem dX0_bitsOfDouble_28 : decode cX0_bitsOfDouble 28 = .ok (.iload 4, 2) := by decide +kernel
theorem dX0_bitsOfDouble_30 : decode cX0_bitsOfDouble 30 = .ok (.ineg, 1) := by decide +kernel
theorem dX0_bitsOfDouble_31 : decode cX0_bitsOfDouble 31 = .ok (.invokestatic 230, 3) := by decide +kernel
theorem dX0_bitsOfDouble_34 : decode cX0_bitsOfDouble 34 = .ok (.dmul, 1) := by decide +kernel
theorem dX0_bitsOfDouble_35 : decode cX0_bitsOfDouble 35 = .ok (.ldc2_w 242, 3) := by decide +kernel
theorem dX0_bitsOfDouble_38 : decode cX0_bitsOfDouble 38 = .ok (.dmul, 1) := by decide +kernel
theorem dX0_bitsOfDouble_39 : decode cX0_bitsOfDouble 39 = .ok (.d2l, 1) := by decide +kernel
theorem dX0_bitsOfDouble_40 : decode cX0_bitsOfDouble 40 = .ok (.lstore 5, 2) := by decide +kernel
theorem dX0_bitsOfDouble_42 : decode cX0_bitsOfDouble 42 = .ok (.dload_n 0, 1) := by decide +kernel
theorem dX0_bitsOfDouble_43 : decode cX0_bitsOfDouble 43 = .ok (.dconst 0, 1) := by decide +kernel
theorem dX0_bitsOfDouble_44 : decode cX0_bitsOfDouble 44 = .ok (.dcmp .g, 1) := by decide +kernel
theorem dX0_bitsOfDouble_45 : decode cX0_bitsOfDouble 45 = .ok (.ifCond .ge 7, 3) := by decide +kernel
theorem dX0_bitsOfDouble_48 : decode cX0_bitsOfDouble 48 = .ok (.iconst 1, 1) := by decide +kernel
theorem dX0_bitsOfDouble_49 : decode cX0_bitsOfDouble 49 = .ok (.goto 4, 3) := by decide +kernel
theorem dX0_bitsOfDouble_52 : decode cX0_bitsOfDouble 52 = .ok (.iconst 0, 1) := by decide +kernel
theorem dX0_bitsOfDouble_53 : decode cX0_bitsOfDouble 53 = .ok (.lload 5, 2) := by decide +kernel
theorem dX0_bitsOfDouble_55 : decode cX0_bitsOfDouble 55 = .ok (.iload 4, 2) := by decide +kernel
theorem dX0_bitsOfDouble_57 : decode cX0_bitsOfDouble 57 = .ok (.bipush 52, 2) := by decide +kernel
theorem dX0_bitsOfDouble_59 : decode cX0_bitsOfDouble 59 = .ok (.isub, 1) := by decide +kernel
theorem dX0_bitsOfDouble_60 : decode cX0_bitsOfDouble 60 = .ok (.invokestatic 226, 3) := by decide +kernel
theorem dX0_bitsOfDouble_63 : decode cX0_bitsOfDouble 63 = .ok (.lreturn, 1) := by decide +kernel
set_option maxRecDepth 20000 in
theorem ggX0_exponentOf_X0_twoAsDouble : GoodIn wsX0_exponentOf wsX0_twoAsDouble := goodIn_r _ [4, 5, 6] (by decide +kernel) (by decide +kernel)
set_option maxRecDepth 20000 in
theorem gX0_exponentOf_X0_twoAsDouble : GoodIn wsX0_exponentOf (va_wsS RX0 230 yX0_twoAsDouble wsX0_twoAsDouble) := goodIn_app (goodIn_of _ (by decide +kernel)) ggX0_exponentOf_X0_twoAsDouble
theorem dX0_exponentOf_0 : decode cX0_exponentOf 0 = .ok (.sipush (-1000), 3) := by decide +kernel
theorem dX0_exponentOf_3 : decode cX0_exponentOf 3 = .ok (.istore_n 2, 1) := by decide +kernel
theorem dX0_exponentOf_4 : decode cX0_exponentOf 4 = .ok (.sipush 1001, 3) := by decide +kernel
theorem dX0_exponentOf_7 : decode cX0_exponentOf 7 = .ok (.istore_n 3, 1) := by decide +kernel
theorem dX0_exponentOf_8 : decode cX0_exponentOf 8 = .ok (.iconst 0, 1) := by decide +kernel
theorem dX0_exponentOf_9 : decode cX0_exponentOf 9 = .ok (.istore 4, 2) := by decide +kernel
theorem dX0_exponentOf_11 : decode cX0_exponentOf 11 = .ok (.iload 4, 2) := by decide +kernel
theorem dX0_exponentOf_13 : decode cX0_exponentOf 13 = .ok (.bipush 11, 2) := by decide +kernel
theorem dX0_exponentOf_15 : decode cX0_exponentOf 15 = .ok (.if_icmp .ge 35, 3) := by decide +kernel
theorem dX0_exponentOf_18 : decode cX0_exponentOf 18 = .ok (.iload_n 2, 1) := by decide +kernel
theorem dX0_exponentOf_19 : decode cX0_exponentOf 19 = .ok (.iload_n 3, 1) := by decide +kernel
theorem dX0_exponentOf_20 : decode cX0_exponentOf 20 = .ok (.iadd, 1) := by decide +kernel
theorem dX0_exponentOf_21 : decode cX0_exponentOf 21 = .ok (.iconst 1, 1) := by decide +kernel
theorem dX0_exponentOf_22 : decode cX0_exponentOf 22 = .ok (.ishr, 1) := by decide +kernel
theorem dX0_exponentOf_23 : decode cX0_exponentOf 23 = .ok (.istore 5, 2) := by decide +kernel
theorem dX0_exponentOf_25 : decode cX0_exponentOf 25 = .ok (.dload_n 0, 1) := by decide +kernel
theorem dX0_exponentOf_26 : decode cX0_exponentOf 26 = .ok (.iload 5, 2) := by decide +kernel
theorem dX0_exponentOf_28 : decode cX0_exponentOf 28 = .ok (.invokestatic 230, 3) := by decide +kernel
theorem dX0_exponentOf_31 : decode cX0_exponentOf 31 = .ok (.dcmp .l, 1) := by decide +kernel
theorem dX0_exponentOf_32 : decode cX0_exponentOf 32 = .ok (.ifCond .lt 9, 3) := by decide +kernel
theorem dX0_exponentOf_35 : decode cX0_exponentOf 35 = .ok (.iload 5, 2) := by decide +kernel
theorem dX0_exponentOf_37 : decode cX0_exponentOf 37 = .ok (.istore_n 2, 1) := by decide +kernel
theorem dX0_exponentOf_38 : decode cX0_exponentOf 38 = .ok (.goto 6, 3) := by decide +kernel
theorem dX0_exponentOf_41 : decode cX0_exponentOf 41 = .ok (.iload 5, 2) := by decide +kernel
theorem dX0_exponentOf_43 : decode cX0_exponentOf 43 = .ok (.istore_n 3, 1) := by decide +kernel
theorem dX0_exponentOf_44 : decode cX0_exponentOf 44 = .ok (.iinc 4 1, 3) := by decide +kernel
theorem dX0_exponentOf_47 : decode cX0_exponentOf 47 = .ok (.goto (-36), 3) := by decide +kernel
theorem dX0_exponentOf_50 : decode cX0_exponentOf 50 = .ok (.iload_n 2, 1) := by decide +kernel
theorem dX0_exponentOf_51 : decode cX0_exponentOf 51 = .ok (.ireturn, 1) := by decide +kernel
theorem dX0_floorRoot_0 : decode cX0_floorRoot 0 = .ok (.lconst 0, 1) := by decide +kernel
theorem dX0_floorRoot_1 : decode cX0_floorRoot 1 = .ok (.lstore_n 2, 1) := by decide +kernel
theorem dX0_floorRoot_2 : decode cX0_floorRoot 2 = .ok (.lconst 0, 1) := by decide +kernel
theorem dX0_floorRoot_3 : decode cX0_floorRoot 3 = .ok (.lstore 4, 2) := by decide +kernel
theorem dX0_floorRoot_5 : decode cX0_floorRoot 5 = .ok (.iconst 5, 1) := by decide +kernel
theorem dX0_floorRoot_6 : decode cX0_floorRoot 6 = .ok (.istore 6, 2) := by decide +kernel
theorem dX0_floorRoot_8 : decode cX0_floorRoot 8 = .ok (.iload 6, 2) := by decide +kernel
theorem dX0_floorRoot_10 : decode cX0_floorRoot 10 = .ok (.iload_n 1, 1) := by decide +kernel
theorem dX0_floorRoot_11 : decode cX0_floorRoot 11 = .ok (.ineg, 1) := by decide +kernel
theorem dX0_floorRoot_12 : decode cX0_floorRoot 12 = .ok (.if_icmp .lt 74, 3) := by decide +kernel
theorem dX0_floorRoot_15 : decode cX0_floorRoot 15 = .ok (.iload 6, 2) := by decide +kernel
theorem dX0_floorRoot_17 : decode cX0_floorRoot 17 = .ok (.ifCond .lt 14, 3) := by decide +kernel
theorem dX0_floorRoot_20 : decode cX0_floorRoot 20 = .ok (.iload_n 0, 1) := by decide +kernel
theorem dX0_floorRoot_21 : decode cX0_floorRoot 21 = .ok (.iconst 2, 1) := by decide +kernel
theorem dX0_floorRoot_22 : decode cX0_floorRoot 22 = .ok (.iload 6, 2) := by decide +kernel
theorem dX0_floorRoot_24 : decode cX0_floorRoot 24 = .ok (.imul, 1) := by decide +kernel
theorem dX0_floorRoot_25 : decode cX0_floorRoot 25 = .ok (.ishr, 1) := by decide +kernel
theorem dX0_floorRoot_26 : decode cX0_floorRoot 26 = .ok (.iconst 3, 1) := by decide +kernel
theorem dX0_floorRoot_27 : decode cX0_floorRoot 27 = .ok (.iand, 1) := by decide +kernel
theorem dX0_floorRoot_28 : decode cX0_floorRoot 28 = .ok (.goto 4, 3) := by decide +kernel
theorem dX0_floorRoot_31 : decode cX0_floorRoot 31 = .ok (.iconst 0, 1) := by decide +kernel
theorem dX0_floorRoot_32 : decode cX0_floorRoot 32 = .ok (.istore 7, 2) := by decide +kernel
theorem dX0_floorRoot_34 : decode cX0_floorRoot 34 = .ok (.lload 4, 2) := by decide +kernel
theorem dX0_floorRoot_36 : decode cX0_floorRoot 36 = .ok (.ldc2_w 244, 3) := by decide +kernel
theorem dX0_floorRoot_39 : decode cX0_floorRoot 39 = .ok (.lmul, 1) := by decide +kernel
theorem dX0_floorRoot_40 : decode cX0_floorRoot 40 = .ok (.iload 7, 2) := by decide +kernel
theorem dX0_floorRoot_42 : decode cX0_floorRoot 42 = .ok (.i2l, 1) := by decide +kernel
theorem dX0_floorRoot_43 : decode cX0_floorRoot 43 = .ok (.ladd, 1) := by decide +kernel
theorem dX0_floorRoot_44 : decode cX0_floorRoot 44 = .ok (.lstore 4, 2) := by decide +kernel
theorem dX0_floorRoot_46 : decode cX0_floorRoot 46 = .ok (.lload_n 2, 1) := by decide +kernel
theorem dX0_floorRoot_47 : decode cX0_floorRoot 47 = .ok (.ldc2_w 244, 3) := by decide +kernel
theorem dX0_floorRoot_50 : decode cX0_floorRoot 50 = .ok (.lmul, 1) := by decide +kernel
theorem dX0_floorRoot_51 : decode cX0_floorRoot 51 = .ok (.lconst 1, 1) := by decide +kernel
theorem dX0_floorRoot_52 : decode cX0_floorRoot 52 = .ok (.ladd, 1) := by decide +kernel
theorem dX0_floorRoot_53 : decode cX0_floorRoot 53 = .ok (.lstore 8, 2) := by decide +kernel
theorem dX0_floorRoot_55 : decode cX0_floorRoot 55 = .ok (.lload_n 2, 1) := by decide +kernel
theorem dX0_floorRoot_56 : decode cX0_floorRoot 56 = .ok (.ldc2_w 246, 3) := by decide +kernel
theorem dX0_floorRoot_59 : decode cX0_floorRoot 59 = .ok (.lmul, 1) := by decide +kernel
theorem dX0_floorRoot_60 : decode cX0_floorRoot 60 = .ok (.lstore_n 2, 1) := by decide +kernel
theorem dX0_floorRoot_61 : decode cX0_floorRoot 61 = .ok (.lload 4, 2) := by decide +kernel
theorem dX0_floorRoot_63 : decode cX0_floorRoot 63 = .ok (.lload 8, 2) := by decide +kernel
theorem dX0_floorRoot_65 : decode cX0_floorRoot 65 = .ok (.lcmp, 1) := by decide +kernel
theorem dX0_floorRoot_66 : decode cX0_floorRoot 66 = .ok (.ifCond .lt 14, 3) := by decide +kernel
theorem dX0_floorRoot_69 : decode cX0_floorRoot 69 = .ok (.lload 4, 2) := by decide +kernel
theorem dX0_floorRoot_71 : decode cX0_floorRoot 71 = .ok (.lload 8, 2) := by decide +kernel
theorem dX0_floorRoot_73 : decode cX0_floorRoot 73 = .ok (.lsub, 1) := by decide +kernel
theorem dX0_floorRoot_74 : decode cX0_floorRoot 74 = .ok (.lstore 4, 2) := by decide +kernel
theorem dX0_floorRoot_76 : decode cX0_floorRoot 76 = .ok (.lload_n 2, 1) := by decide +kernel
theorem dX0_floorRoot_77 : decode cX0_floorRoot 77 = .ok (.lconst 1, 1) := by decide +kernel
theorem dX0_floorRoot_78 : decode cX0_floorRoot 78 = .ok (.ladd, 1) := by decide +kernel
theorem dX0_floorRoot_79 : decode cX0_floorRoot 79 = .ok (.lstore_n 2, 1) := by decide +kernel
theorem dX0_floorRoot_80 : decode cX0_floorRoot 80 = .ok (.iinc 6 (-1), 3) := by decide +kernel
theorem dX0_floorRoot_83 : decode cX0_floorRoot 83 = .ok (.goto (-75), 3) := by decide +kernel
theorem dX0_floorRoot_86 : decode cX0_floorRoot 86 = .ok (.lload_n 2, 1) := by decide +kernel
theorem dX0_floorRoot_87 : decode cX0_floorRoot 87 = .ok (.lreturn, 1) := by decide +kernel
theorem dX0_rootLength_0 : decode cX0_rootLength 0 = .ok (.iconst 0, 1) := by decide +kernel
theorem dX0_rootLength_1 : decode cX0_rootLength 1 = .ok (.istore_n 1, 1) := by decide +kernel
theorem dX0_rootLength_2 : decode cX0_rootLength 2 = .ok (.iload_n 1, 1) := by decide +kernel
theorem dX0_rootLength_3 : decode cX0_rootLength 3 = .ok (.bipush 6, 2) := by decide +kernel
theorem dX0_rootLength_5 : decode cX0_rootLength 5 = .ok (.if_icmp .ge 17, 3) := by decide +kernel
theorem dX0_rootLength_8 : decode cX0_rootLength 8 = .ok (.iload_n 0, 1) := by decide +kernel
theorem dX0_rootLength_9 : decode cX0_rootLength 9 = .ok (.iconst 2, 1) := by decide +kernel
theorem dX0_rootLength_10 : decode cX0_rootLength 10 = .ok (.iload_n 1, 1) := by decide +kernel
theorem dX0_rootLength_11 : decode cX0_rootLength 11 = .ok (.imul, 1) := by decide +kernel
theorem dX0_rootLength_12 : decode cX0_rootLength 12 = .ok (.ishr, 1) := by decide +kernel
theorem dX0_rootLength_13 : decode cX0_rootLength 13 = .ok (.ifCond .le 9, 3) := by decide +kernel
theorem dX0_rootLength_16 : decode cX0_rootLength 16 = .ok (.iinc 1 1, 3) := by decide +kernel
theorem dX0_rootLength_19 : decode cX0_rootLength 19 = .ok (.goto (-17), 3) := by decide +kernel
theorem dX0_rootLength_22 : decode cX0_rootLength 22 = .ok (.iload_n 1, 1) := by decide +kernel
theorem dX0_rootLength_23 : decode cX0_rootLength 23 = .ok (.ireturn, 1) := by decide +kernel
set_option maxRecDepth 20000 in
theorem ggX0_nearestRoot_X0_rootLength : GoodIn wsX0_nearestRoot wsX0_rootLength := goodIn_r _ [4] (by decide +kernel) (by decide +kernel)
set_option maxRecDepth 20000 in
theorem gX0_nearestRoot_X0_rootLength : GoodIn wsX0_nearestRoot (va_wsS RX0 248 yX0_rootLength wsX0_rootLength) := goodIn_app (goodIn_of _ (by decide +kernel)) ggX0_nearestRoot_X0_rootLength
set_option maxRecDepth 20000 in
theorem ggX0_nearestRoot_X0_floorRoot : GoodIn wsX0_nearestRoot wsX0_floorRoot := goodIn_r _ [7, 8, 9] (by decide +kernel) (by decide +kernel)
set_option maxRecDepth 20000 in
theorem gX0_nearestRoot_X0_floorRoot : GoodIn wsX0_nearestRoot (va_wsS RX0 178 yX0_floorRoot wsX0_floorRoot) := goodIn_app (goodIn_of _ (by decide +kernel)) ggX0_nearestRoot_X0_floorRoot
theorem dX0_nearestRoot_0 : decode cX0_nearestRoot 0 = .ok (.iload_n 0, 1) := by decide +kernel
theorem dX0_nearestRoot_1 : decode cX0_nearestRoot 1 = .ok (.bipush 54, 2) := by decide +kernel
theorem dX0_nearestRoot_3 : decode cX0_nearestRoot 3 = .ok (.iload_n 0, 1) := by decide +kernel
theorem dX0_nearestRoot_4 : decode cX0_nearestRoot 4 = .ok (.invokestatic 248, 3) := by decide +kernel
theorem dX0_nearestRoot_7 : decode cX0_nearestRoot 7 = .ok (.isub, 1) := by decide +kernel
theorem dX0_nearestRoot_8 : decode cX0_nearestRoot 8 = .ok (.invokestatic 178, 3) := by decide +kernel
theorem dX0_nearestRoot_11 : decode cX0_nearestRoot 11 = .ok (.lconst 1, 1) := by decide +kernel
theorem dX0_nearestRoot_12 : decode cX0_nearestRoot 12 = .ok (.ladd, 1) := by decide +kernel
theorem dX0_nearestRoot_13 : decode cX0_nearestRoot 13 = .ok (.iconst 1, 1) := by decide +kernel
theorem dX0_nearestRoot_14 : decode cX0_nearestRoot 14 = .ok (.lshr, 1) := by decide +kernel
theorem dX0_nearestRoot_15 : decode cX0_nearestRoot 15 = .ok (.lreturn, 1) := by decide +kernel
set_option maxRecDepth 20000 in
theorem ggX0_rootExponent_X0_rootLength : GoodIn wsX0_rootExponent wsX0_rootLength := goodIn_r _ [4] (by decide +kernel) (by decide +kernel)
set_option maxRecDepth 20000 in
theorem gX0_rootExponent_X0_rootLength : GoodIn wsX0_rootExponent (va_wsS RX0 248 yX0_rootLength wsX0_rootLength) := goodIn_app (goodIn_of _ (by decide +kernel)) ggX0_rootExponent_X0_rootLength
theorem dX0_rootExponent_0 : decode cX0_rootExponent 0 = .ok (.iload_n 0, 1) := by decide +kernel
theorem dX0_rootExponent_1 : decode cX0_rootExponent 1 = .ok (.invokestatic 248, 3) := by decide +kernel
theorem dX0_rootExponent_4 : decode cX0_rootExponent 4 = .ok (.bipush 53, 2) := by decide +kernel
theorem dX0_rootExponent_6 : decode cX0_rootExponent 6 = .ok (.isub, 1) := by decide +kernel
theorem dX0_rootExponent_7 : decode cX0_rootExponent 7 = .ok (.ireturn, 1) := by decide +kernel
set_option maxRecDepth 20000 in
theorem ggX0_nearestRootBits_X0_nearestRoot : GoodIn wsX0_nearestRootBits wsX0_nearestRoot := goodIn_r _ [4, 5, 6, 3, 7, 8, 9, 10, 11, 12] (by decide +kernel) (by decide +kernel)
set_option maxRecDepth 20000 in
theorem gX0_nearestRootBits_X0_nearestRoot : GoodIn wsX0_nearestRootBits (va_wsS RX0 171 yX0_nearestRoot wsX0_nearestRoot) := goodIn_app (goodIn_of _ (by decide +kernel)) ggX0_nearestRootBits_X0_nearestRoot
set_option maxRecDepth 20000 in
theorem ggX0_nearestRootBits_X0_rootExponent : GoodIn wsX0_nearestRootBits wsX0_rootExponent := goodIn_r _ [15, 5, 6, 3, 7] (by decide +kernel) (by decide +kernel)
set_option maxRecDepth 20000 in
theorem gX0_nearestRootBits_X0_rootExponent : GoodIn wsX0_nearestRootBits (va_wsS RX0 251 yX0_rootExponent wsX0_rootExponent) := goodIn_app (goodIn_of _ (by decide +kernel)) ggX0_nearestRootBits_X0_rootExponent
set_option maxRecDepth 20000 in
theorem ggX0_nearestRootBits_X0_pack : GoodIn wsX0_nearestRootBits wsX0_pack := goodIn_r _ [18, 19, 20, 21] (by decide +kernel) (by decide +kernel)
set_option maxRecDepth 20000 in
theorem gX0_nearestRootBits_X0_pack : GoodIn wsX0_nearestRootBits (va_wsS RX0 226 yX0_pack wsX0_pack) := goodIn_app (goodIn_of _ (by decide +kernel)) ggX0_nearestRootBits_X0_pack
theorem dX0_nearestRootBits_0 : decode cX0_nearestRootBits 0 = .ok (.iload_n 0, 1) := by decide +kernel
theorem dX0_nearestRootBits_1 : decode cX0_nearestRootBits 1 = .ok (.ifCond .ne 7, 3) := by decide +kernel
theorem dX0_nearestRootBits_4 : decode cX0_nearestRootBits 4 = .ok (.lconst 0, 1) := by decide +kernel
theorem dX0_nearestRootBits_5 : decode cX0_nearestRootBits 5 = .ok (.goto 15, 3) := by decide +kernel
theorem dX0_nearestRootBits_8 : decode cX0_nearestRootBits 8 = .ok (.iconst 0, 1) := by decide +kernel
theorem dX0_nearestRootBits_9 : decode cX0_nearestRootBits 9 = .ok (.iload_n 0, 1) := by decide +kernel
theorem dX0_nearestRootBits_10 : decode cX0_nearestRootBits 10 = .ok (.invokestatic 171, 3) := by decide +kernel
theorem dX0_nearestRootBits_13 : decode cX0_nearestRootBits 13 = .ok (.iload_n 0, 1) := by decide +kernel
theorem dX0_nearestRootBits_14 : decode cX0_nearestRootBits 14 = .ok (.invokestatic 251, 3) := by decide +kernel
theorem dX0_nearestRootBits_17 : decode cX0_nearestRootBits 17 = .ok (.invokestatic 226, 3) := by decide +kernel
theorem dX0_nearestRootBits_20 : decode cX0_nearestRootBits 20 = .ok (.lreturn, 1) := by decide +kernel
set_option maxRecDepth 20000 in
theorem ggX0_nearestBackBits_X0_nearestRoot : GoodIn wsX0_nearestBackBits wsX0_nearestRoot := goodIn_r _ [4, 5, 6, 3, 7, 8, 9, 10, 11, 12] (by decide +kernel) (by decide +kernel)
set_option maxRecDepth 20000 in
theorem gX0_nearestBackBits_X0_nearestRoot : GoodIn wsX0_nearestBackBits (va_wsS RX0 171 yX0_nearestRoot wsX0_nearestRoot) := goodIn_app (goodIn_of _ (by decide +kernel)) ggX0_nearestBackBits_X0_nearestRoot
set_option maxRecDepth 20000 in
theorem ggX0_nearestBackBits_X0_rootExponent : GoodIn wsX0_nearestBackBits wsX0_rootExponent := goodIn_r _ [15, 5, 6, 3, 7] (by decide +kernel) (by decide +kernel)
set_option maxRecDepth 20000 in
theorem gX0_nearestBackBits_X0_rootExponent : GoodIn wsX0_nearestBackBits (va_wsS RX0 251 yX0_rootExponent wsX0_rootExponent) := goodIn_app (goodIn_of _ (by decide +kernel)) ggX0_nearestBackBits_X0_rootExponent
set_option maxRecDepth 20000 in
theorem ggX0_nearestBackBits_X0_nearestSquareBits : GoodIn wsX0_nearestBackBits wsX0_nearestSquareBits := goodIn_r _ [18, 19, 20, 21, 3, 22, 23, 24, 25, 26, 27, 28, 29, 30, 31, 32, 33, 34, 35, 36, 37] (by decide +kernel) (by decide +kernel)
set_option maxRecDepth 20000 in
theorem gX0_nearestBackBits_X0_nearestSquareBits : GoodIn wsX0_nearestBackBits (va_wsS RX0 187 yX0_nearestSquareBits wsX0_nearestSquareBits) := goodIn_app (goodIn_of _ (by decide +kernel)) ggX0_nearestBackBits_X0_nearestSquareBits
theorem dX0_nearestBackBits_0 : decode cX0_nearestBackBits 0 = .ok (.iload_n 0, 1) := by decide +kernel
theorem dX0_nearestBackBits_1 : decode cX0_nearestBackBits 1 = .ok (.ifCond .ne 7, 3) := by decide +kernel
theorem dX0_nearestBackBits_4 : decode cX0_nearestBackBits 4 = .ok (.lconst 0, 1) := by decide +kernel
theorem dX0_nearestBackBits_5 : decode cX0_nearestBackBits 5 = .ok (.goto 14, 3) := by decide +kernel
theorem dX0_nearestBackBits_8 : decode cX0_nearestBackBits 8 = .ok (.iload_n 0, 1) := by decide +kernel
theorem dX0_nearestBackBits_9 : decode cX0_nearestBackBits 9 = .ok (.invokestatic 171, 3) := by decide +kernel
theorem dX0_nearestBackBits_12 : decode cX0_nearestBackBits 12 = .ok (.iload_n 0, 1) := by decide +kernel
theorem dX0_nearestBackBits_13 : decode cX0_nearestBackBits 13 = .ok (.invokestatic 251, 3) := by decide +kernel
theorem dX0_nearestBackBits_16 : decode cX0_nearestBackBits 16 = .ok (.invokestatic 187, 3) := by decide +kernel
theorem dX0_nearestBackBits_19 : decode cX0_nearestBackBits 19 = .ok (.lreturn, 1) := by decide +kernel
set_option maxRecDepth 20000 in
theorem ggX0_isNearestRoot_X0_rootLength : GoodIn wsX0_isNearestRoot wsX0_rootLength := goodIn_r _ [4] (by decide +kernel) (by decide +kernel)
set_option maxRecDepth 20000 in
theorem gX0_isNearestRoot_X0_rootLength : GoodIn wsX0_isNearestRoot (va_wsS RX0 248 yX0_rootLength wsX0_rootLength) := goodIn_app (goodIn_of _ (by decide +kernel)) ggX0_isNearestRoot_X0_rootLength
set_option maxRecDepth 20000 in
theorem ggX0_isNearestRoot_X0_squareHigh : GoodIn wsX0_isNearestRoot wsX0_squareHigh := goodIn_r _ [7, 8, 9] (by decide +kernel) (by decide +kernel)
set_option maxRecDepth 20000 in
theorem gX0_isNearestRoot_X0_squareHigh : GoodIn wsX0_isNearestRoot (va_wsS RX0 254 yX0_squareHigh wsX0_squareHigh) := goodIn_app (goodIn_of _ (by decide +kernel)) ggX0_isNearestRoot_X0_squareHigh
set_option maxRecDepth 20000 in
theorem ggX0_isNearestRoot_X0_squareLow : GoodIn wsX0_isNearestRoot wsX0_squareLow := goodIn_r _ [12, 13] (by decide +kernel) (by decide +kernel)
set_option maxRecDepth 20000 in
theorem gX0_isNearestRoot_X0_squareLow : GoodIn wsX0_isNearestRoot (va_wsS RX0 258 yX0_squareLow wsX0_squareLow) := goodIn_app (goodIn_of _ (by decide +kernel)) ggX0_isNearestRoot_X0_squareLow
theorem dX0_isNearestRoot_0 : decode cX0_isNearestRoot 0 = .ok (.iload_n 0, 1) := by decide +kernel
theorem dX0_isNearestRoot_1 : decode cX0_isNearestRoot 1 = .ok (.ifCond .ne 15, 3) := by decide +kernel
theorem dX0_isNearestRoot_4 : decode cX0_isNearestRoot 4 = .ok (.lload_n 1, 1) := by decide +kernel
theorem dX0_isNearestRoot_5 : decode cX0_isNearestRoot 5 = .ok (.lconst 0, 1) := by decide +kernel
theorem dX0_isNearestRoot_6 : decode cX0_isNearestRoot 6 = .ok (.lcmp, 1) := by decide +kernel
theorem dX0_isNearestRoot_7 : decode cX0_isNearestRoot 7 = .ok (.ifCond .ne 7, 3) := by decide +kernel
theorem dX0_isNearestRoot_10 : decode cX0_isNearestRoot 10 = .ok (.iconst 1, 1) := by decide +kernel
theorem dX0_isNearestRoot_11 : decode cX0_isNearestRoot 11 = .ok (.goto 4, 3) := by decide +kernel
theorem dX0_isNearestRoot_14 : decode cX0_isNearestRoot 14 = .ok (.iconst 0, 1) := by decide +kernel
theorem dX0_isNearestRoot_15 : decode cX0_isNearestRoot 15 = .ok (.ireturn, 1) := by decide +kernel
theorem dX0_isNearestRoot_16 : decode cX0_isNearestRoot 16 = .ok (.iload_n 0, 1) := by decide +kernel
theorem dX0_isNearestRoot_17 : decode cX0_isNearestRoot 17 = .ok (.i2l, 1) := by decide +kernel
theorem dX0_isNearestRoot_18 : decode cX0_isNearestRoot 18 = .ok (.bipush 52, 2) := by decide +kernel
theorem dX0_isNearestRoot_20 : decode cX0_isNearestRoot 20 = .ok (.iconst 2, 1) := by decide +kernel
theorem dX0_isNearestRoot_21 : decode cX0_isNearestRoot 21 = .ok (.iload_n 0, 1) := by decide +kernel
theorem dX0_isNearestRoot_22 : decode cX0_isNearestRoot 22 = .ok (.invokestatic 248, 3) := by decide +kernel
theorem dX0_isNearestRoot_25 : decode cX0_isNearestRoot 25 = .ok (.imul, 1) := by decide +kernel
theorem dX0_isNearestRoot_26 : decode cX0_isNearestRoot 26 = .ok (.isub, 1) := by decide +kernel
theorem dX0_isNearestRoot_27 : decode cX0_isNearestRoot 27 = .ok (.lshl, 1) := by decide +kernel
theorem dX0_isNearestRoot_28 : decode cX0_isNearestRoot 28 = .ok (.lload_n 1, 1) := by decide +kernel
theorem dX0_isNearestRoot_29 : decode cX0_isNearestRoot 29 = .ok (.invokestatic 254, 3) := by decide +kernel
theorem dX0_isNearestRoot_32 : decode cX0_isNearestRoot 32 = .ok (.lsub, 1) := by decide +kernel
theorem dX0_isNearestRoot_33 : decode cX0_isNearestRoot 33 = .ok (.lstore_n 3, 1) := by decide +kernel
theorem dX0_isNearestRoot_34 : decode cX0_isNearestRoot 34 = .ok (.lload_n 3, 1) := by decide +kernel
theorem dX0_isNearestRoot_35 : decode cX0_isNearestRoot 35 = .ok (.lconst 0, 1) := by decide +kernel
theorem dX0_isNearestRoot_36 : decode cX0_isNearestRoot 36 = .ok (.lcmp, 1) := by decide +kernel
theorem dX0_isNearestRoot_37 : decode cX0_isNearestRoot 37 = .ok (.ifCond .lt 9, 3) := by decide +kernel
theorem dX0_isNearestRoot_40 : decode cX0_isNearestRoot 40 = .ok (.lload_n 3, 1) := by decide +kernel
theorem dX0_isNearestRoot_41 : decode cX0_isNearestRoot 41 = .ok (.lconst 1, 1) := by decide +kernel
theorem dX0_isNearestRoot_42 : decode cX0_isNearestRoot 42 = .ok (.lcmp, 1) := by decide +kernel
theorem dX0_isNearestRoot_43 : decode cX0_isNearestRoot 43 = .ok (.ifCond .le 5, 3) := by decide +kernel
theorem dX0_isNearestRoot_46 : decode cX0_isNearestRoot 46 = .ok (.iconst 0, 1) := by decide +kernel
theorem dX0_isNearestRoot_47 : decode cX0_isNearestRoot 47 = .ok (.ireturn, 1) := by decide +kernel
theorem dX0_isNearestRoot_48 : decode cX0_isNearestRoot 48 = .ok (.lload_n 3, 1) := by decide +kernel
theorem dX0_isNearestRoot_49 : decode cX0_isNearestRoot 49 = .ok (.bipush 54, 2) := by decide +kernel
theorem dX0_isNearestRoot_51 : decode cX0_isNearestRoot 51 = .ok (.lshl, 1) := by decide +kernel
theorem dX0_isNearestRoot_52 : decode cX0_isNearestRoot 52 = .ok (.lload_n 1, 1) := by decide +kernel
theorem dX0_isNearestRoot_53 : decode cX0_isNearestRoot 53 = .ok (.invokestatic 258, 3) := by decide +kernel
theorem dX0_isNearestRoot_56 : decode cX0_isNearestRoot 56 = .ok (.lsub, 1) := by decide +kernel
theorem dX0_isNearestRoot_57 : decode cX0_isNearestRoot 57 = .ok (.lstore 5, 2) := by decide +kernel
theorem dX0_isNearestRoot_59 : decode cX0_isNearestRoot 59 = .ok (.lload 5, 2) := by decide +kernel
theorem dX0_isNearestRoot_61 : decode cX0_isNearestRoot 61 = .ok (.lload_n 1, 1) := by decide +kernel
theorem dX0_isNearestRoot_62 : decode cX0_isNearestRoot 62 = .ok (.lneg, 1) := by decide +kernel
theorem dX0_isNearestRoot_63 : decode cX0_isNearestRoot 63 = .ok (.lcmp, 1) := by decide +kernel
theorem dX0_isNearestRoot_64 : decode cX0_isNearestRoot 64 = .ok (.ifCond .le 14, 3) := by decide +kernel
theorem dX0_isNearestRoot_67 : decode cX0_isNearestRoot 67 = .ok (.lload 5, 2) := by decide +kernel
theorem dX0_isNearestRoot_69 : decode cX0_isNearestRoot 69 = .ok (.lload_n 1, 1) := by decide +kernel
theorem dX0_isNearestRoot_70 : decode cX0_isNearestRoot 70 = .ok (.lcmp, 1) := by decide +kernel
theorem dX0_isNearestRoot_71 : decode cX0_isNearestRoot 71 = .ok (.ifCond .gt 7, 3) := by decide +kernel
theorem dX0_isNearestRoot_74 : decode cX0_isNearestRoot 74 = .ok (.iconst 1, 1) := by decide +kernel
theorem dX0_isNearestRoot_75 : decode cX0_isNearestRoot 75 = .ok (.goto 4, 3) := by decide +kernel
theorem dX0_isNearestRoot_78 : decode cX0_isNearestRoot 78 = .ok (.iconst 0, 1) := by decide +kernel
theorem dX0_isNearestRoot_79 : decode cX0_isNearestRoot 79 = .ok (.ireturn, 1) := by decide +kernel
theorem dX0_squareLow_0 : decode cX0_squareLow 0 = .ok (.lload_n 0, 1) := by decide +kernel
theorem dX0_squareLow_1 : decode cX0_squareLow 1 = .ok (.lload_n 0, 1) := by decide +kernel
theorem dX0_squareLow_2 : decode cX0_squareLow 2 = .ok (.lmul, 1) := by decide +kernel
theorem dX0_squareLow_3 : decode cX0_squareLow 3 = .ok (.ldc2_w 261, 3) := by decide +kernel
theorem dX0_squareLow_6 : decode cX0_squareLow 6 = .ok (.land, 1) := by decide +kernel
theorem dX0_squareLow_7 : decode cX0_squareLow 7 = .ok (.lreturn, 1) := by decide +kernel
theorem dX0_squareHigh_0 : decode cX0_squareHigh 0 = .ok (.lload_n 0, 1) := by decide +kernel
theorem dX0_squareHigh_1 : decode cX0_squareHigh 1 = .ok (.bipush 27, 2) := by decide +kernel
theorem dX0_squareHigh_3 : decode cX0_squareHigh 3 = .ok (.lshr, 1) := by decide +kernel
theorem dX0_squareHigh_4 : decode cX0_squareHigh 4 = .ok (.lstore_n 2, 1) := by decide +kernel
theorem dX0_squareHigh_5 : decode cX0_squareHigh 5 = .ok (.lload_n 0, 1) := by decide +kernel
theorem dX0_squareHigh_6 : decode cX0_squareHigh 6 = .ok (.ldc2_w 263, 3) := by decide +kernel
theorem dX0_squareHigh_9 : decode cX0_squareHigh 9 = .ok (.land, 1) := by decide +kernel
theorem dX0_squareHigh_10 : decode cX0_squareHigh 10 = .ok (.lstore 4, 2) := by decide +kernel
theorem dX0_squareHigh_12 : decode cX0_squareHigh 12 = .ok (.lload_n 2, 1) := by decide +kernel
theorem dX0_squareHigh_13 : decode cX0_squareHigh 13 = .ok (.lload 4, 2) := by decide +kernel
theorem dX0_squareHigh_15 : decode cX0_squareHigh 15 = .ok (.lmul, 1) := by decide +kernel
theorem dX0_squareHigh_16 : decode cX0_squareHigh 16 = .ok (.lstore 6, 2) := by decide +kernel
theorem dX0_squareHigh_18 : decode cX0_squareHigh 18 = .ok (.lload 4, 2) := by decide +kernel
theorem dX0_squareHigh_20 : decode cX0_squareHigh 20 = .ok (.lload 4, 2) := by decide +kernel
theorem dX0_squareHigh_22 : decode cX0_squareHigh 22 = .ok (.lmul, 1) := by decide +kernel
theorem dX0_squareHigh_23 : decode cX0_squareHigh 23 = .ok (.lload 6, 2) := by decide +kernel
theorem dX0_squareHigh_25 : decode cX0_squareHigh 25 = .ok (.ldc2_w 265, 3) := by decide +kernel
theorem dX0_squareHigh_28 : decode cX0_squareHigh 28 = .ok (.land, 1) := by decide +kernel
theorem dX0_squareHigh_29 : decode cX0_squareHigh 29 = .ok (.bipush 28, 2) := by decide +kernel
theorem dX0_squareHigh_31 : decode cX0_squareHigh 31 = .ok (.lshl, 1) := by decide +kernel
theorem dX0_squareHigh_32 : decode cX0_squareHigh 32 = .ok (.ladd, 1) := by decide +kernel
theorem dX0_squareHigh_33 : decode cX0_squareHigh 33 = .ok (.lstore 8, 2) := by decide +kernel
theorem dX0_squareHigh_35 : decode cX0_squareHigh 35 = .ok (.lload_n 2, 1) := by decide +kernel
theorem dX0_squareHigh_36 : decode cX0_squareHigh 36 = .ok (.lload_n 2, 1) := by decide +kernel
theorem dX0_squareHigh_37 : decode cX0_squareHigh 37 = .ok (.lmul, 1) := by decide +kernel
theorem dX0_squareHigh_38 : decode cX0_squareHigh 38 = .ok (.lload 6, 2) := by decide +kernel
theorem dX0_squareHigh_40 : decode cX0_squareHigh 40 = .ok (.bipush 26, 2) := by decide +kernel
theorem dX0_squareHigh_42 : decode cX0_squareHigh 42 = .ok (.lshr, 1) := by decide +kernel
theorem dX0_squareHigh_43 : decode cX0_squareHigh 43 = .ok (.ladd, 1) := by decide +kernel
theorem dX0_squareHigh_44 : decode cX0_squareHigh 44 = .ok (.lload 8, 2) := by decide +kernel
theorem dX0_squareHigh_46 : decode cX0_squareHigh 46 = .ok (.bipush 54, 2) := by decide +kernel
theorem dX0_squareHigh_48 : decode cX0_squareHigh 48 = .ok (.lshr, 1) := by decide +kernel
theorem dX0_squareHigh_49 : decode cX0_squareHigh 49 = .ok (.ladd, 1) := by decide +kernel
theorem dX0_squareHigh_50 : decode cX0_squareHigh 50 = .ok (.lreturn, 1) := by decide +kernel
set_option maxRecDepth 20000 in
theorem ggX0_nearestSquareBits_X0_doublings : GoodIn wsX0_nearestSquareBits wsX0_doublings := goodIn_r _ [5] (by decide +kernel) (by decide +kernel)
set_option maxRecDepth 20000 in
theorem gX0_nearestSquareBits_X0_doublings : GoodIn wsX0_nearestSquareBits (va_wsS RX0 222 yX0_doublings wsX0_doublings) := goodIn_app (goodIn_of _ (by decide +kernel)) ggX0_nearestSquareBits_X0_doublings
set_option maxRecDepth 20000 in
theorem ggX0_nearestSquareBits_X0_squareHigh : GoodIn wsX0_nearestSquareBits wsX0_squareHigh := goodIn_r _ [8, 9, 10] (by decide +kernel) (by decide +kernel)
set_option maxRecDepth 20000 in
theorem gX0_nearestSquareBits_X0_squareHigh : GoodIn wsX0_nearestSquareBits (va_wsS RX0 254 yX0_squareHigh wsX0_squareHigh) := goodIn_app (goodIn_of _ (by decide +kernel)) ggX0_nearestSquareBits_X0_squareHigh
set_option maxRecDepth 20000 in
theorem ggX0_nearestSquareBits_X0_squareLow : GoodIn wsX0_nearestSquareBits wsX0_squareLow := goodIn_r _ [13, 14] (by decide +kernel) (by decide +kernel)
set_option maxRecDepth 20000 in
theorem gX0_nearestSquareBits_X0_squareLow : GoodIn wsX0_nearestSquareBits (va_wsS RX0 258 yX0_squareLow wsX0_squareLow) := goodIn_app (goodIn_of _ (by decide +kernel)) ggX0_nearestSquareBits_X0_squareLow
set_option maxRecDepth 20000 in
theorem ggX0_nearestSquareBits_X0_pack : GoodIn wsX0_nearestSquareBits wsX0_pack := goodIn_r _ [17, 18, 19, 20] (by decide +kernel) (by decide +kernel)
set_option maxRecDepth 20000 in
theorem gX0_nearestSquareBits_X0_pack : GoodIn wsX0_nearestSquareBits (va_wsS RX0 226 yX0_pack wsX0_pack) := goodIn_app (goodIn_of _ (by decide +kernel)) ggX0_nearestSquareBits_X0_pack
theorem dX0_nearestSquareBits_0 : decode cX0_nearestSquareBits 0 = .ok (.lload_n 0, 1) := by decide +kernel
theorem dX0_nearestSquareBits_1 : decode cX0_nearestSquareBits 1 = .ok (.lconst 0, 1) := by decide +kernel
theorem dX0_nearestSquareBits_2 : decode cX0_nearestSquareBits 2 = .ok (.lcmp, 1) := by decide +kernel
theorem dX0_nearestSquareBits_3 : decode cX0_nearestSquareBits 3 = .ok (.ifCond .ne 5, 3) := by decide +kernel
theorem dX0_nearestSquareBits_6 : decode cX0_nearestSquareBits 6 = .ok (.lconst 0, 1) := by decide +kernel
theorem dX0_nearestSquareBits_7 : decode cX0_nearestSquareBits 7 = .ok (.lreturn, 1) := by decide +kernel
theorem dX0_nearestSquareBits_8 : decode cX0_nearestSquareBits 8 = .ok (.lload_n 0, 1) := by decide +kernel
theorem dX0_nearestSquareBits_9 : decode cX0_nearestSquareBits 9 = .ok (.invokestatic 222, 3) := by decide +kernel
theorem dX0_nearestSquareBits_12 : decode cX0_nearestSquareBits 12 = .ok (.istore_n 3, 1) := by decide +kernel
theorem dX0_nearestSquareBits_13 : decode cX0_nearestSquareBits 13 = .ok (.lload_n 0, 1) := by decide +kernel
theorem dX0_nearestSquareBits_14 : decode cX0_nearestSquareBits 14 = .ok (.iload_n 3, 1) := by decide +kernel
theorem dX0_nearestSquareBits_15 : decode cX0_nearestSquareBits 15 = .ok (.lshl, 1) := by decide +kernel
theorem dX0_nearestSquareBits_16 : decode cX0_nearestSquareBits 16 = .ok (.invokestatic 254, 3) := by decide +kernel
theorem dX0_nearestSquareBits_19 : decode cX0_nearestSquareBits 19 = .ok (.lstore 4, 2) := by decide +kernel
theorem dX0_nearestSquareBits_21 : decode cX0_nearestSquareBits 21 = .ok (.lload_n 0, 1) := by decide +kernel
theorem dX0_nearestSquareBits_22 : decode cX0_nearestSquareBits 22 = .ok (.iload_n 3, 1) := by decide +kernel
theorem dX0_nearestSquareBits_23 : decode cX0_nearestSquareBits 23 = .ok (.lshl, 1) := by decide +kernel
theorem dX0_nearestSquareBits_24 : decode cX0_nearestSquareBits 24 = .ok (.invokestatic 258, 3) := by decide +kernel
theorem dX0_nearestSquareBits_27 : decode cX0_nearestSquareBits 27 = .ok (.lstore 6, 2) := by decide +kernel
theorem dX0_nearestSquareBits_29 : decode cX0_nearestSquareBits 29 = .ok (.lload 4, 2) := by decide +kernel
theorem dX0_nearestSquareBits_31 : decode cX0_nearestSquareBits 31 = .ok (.ldc2_w 267, 3) := by decide +kernel
theorem dX0_nearestSquareBits_34 : decode cX0_nearestSquareBits 34 = .ok (.lcmp, 1) := by decide +kernel
theorem dX0_nearestSquareBits_35 : decode cX0_nearestSquareBits 35 = .ok (.ifCond .ge 8, 3) := by decide +kernel
theorem dX0_nearestSquareBits_38 : decode cX0_nearestSquareBits 38 = .ok (.bipush 52, 2) := by decide +kernel
theorem dX0_nearestSquareBits_40 : decode cX0_nearestSquareBits 40 = .ok (.goto 5, 3) := by decide +kernel
theorem dX0_nearestSquareBits_43 : decode cX0_nearestSquareBits 43 = .ok (.bipush 53, 2) := by decide +kernel
theorem dX0_nearestSquareBits_45 : decode cX0_nearestSquareBits 45 = .ok (.istore 8, 2) := by decide +kernel
theorem dX0_nearestSquareBits_47 : decode cX0_nearestSquareBits 47 = .ok (.lload 4, 2) := by decide +kernel
theorem dX0_nearestSquareBits_49 : decode cX0_nearestSquareBits 49 = .ok (.bipush 54, 2) := by decide +kernel
theorem dX0_nearestSquareBits_51 : decode cX0_nearestSquareBits 51 = .ok (.iload 8, 2) := by decide +kernel
theorem dX0_nearestSquareBits_53 : decode cX0_nearestSquareBits 53 = .ok (.isub, 1) := by decide +kernel
theorem dX0_nearestSquareBits_54 : decode cX0_nearestSquareBits 54 = .ok (.lshl, 1) := by decide +kernel
theorem dX0_nearestSquareBits_55 : decode cX0_nearestSquareBits 55 = .ok (.lload 6, 2) := by decide +kernel
theorem dX0_nearestSquareBits_57 : decode cX0_nearestSquareBits 57 = .ok (.iload 8, 2) := by decide +kernel
theorem dX0_nearestSquareBits_59 : decode cX0_nearestSquareBits 59 = .ok (.lshr, 1) := by decide +kernel
theorem dX0_nearestSquareBits_60 : decode cX0_nearestSquareBits 60 = .ok (.ladd, 1) := by decide +kernel
theorem dX0_nearestSquareBits_61 : decode cX0_nearestSquareBits 61 = .ok (.lstore 9, 2) := by decide +kernel
theorem dX0_nearestSquareBits_63 : decode cX0_nearestSquareBits 63 = .ok (.lload 6, 2) := by decide +kernel
theorem dX0_nearestSquareBits_65 : decode cX0_nearestSquareBits 65 = .ok (.lconst 1, 1) := by decide +kernel
theorem dX0_nearestSquareBits_66 : decode cX0_nearestSquareBits 66 = .ok (.iload 8, 2) := by decide +kernel
theorem dX0_nearestSquareBits_68 : decode cX0_nearestSquareBits 68 = .ok (.lshl, 1) := by decide +kernel
theorem dX0_nearestSquareBits_69 : decode cX0_nearestSquareBits 69 = .ok (.lconst 1, 1) := by decide +kernel
theorem dX0_nearestSquareBits_70 : decode cX0_nearestSquareBits 70 = .ok (.lsub, 1) := by decide +kernel
theorem dX0_nearestSquareBits_71 : decode cX0_nearestSquareBits 71 = .ok (.land, 1) := by decide +kernel
theorem dX0_nearestSquareBits_72 : decode cX0_nearestSquareBits 72 = .ok (.lstore 11, 2) := by decide +kernel
theorem dX0_nearestSquareBits_74 : decode cX0_nearestSquareBits 74 = .ok (.lconst 1, 1) := by decide +kernel
theorem dX0_nearestSquareBits_75 : decode cX0_nearestSquareBits 75 = .ok (.iload 8, 2) := by decide +kernel
theorem dX0_nearestSquareBits_77 : decode cX0_nearestSquareBits 77 = .ok (.iconst 1, 1) := by decide +kernel
theorem dX0_nearestSquareBits_78 : decode cX0_nearestSquareBits 78 = .ok (.isub, 1) := by decide +kernel
theorem dX0_nearestSquareBits_79 : decode cX0_nearestSquareBits 79 = .ok (.lshl, 1) := by decide +kernel
theorem dX0_nearestSquareBits_80 : decode cX0_nearestSquareBits 80 = .ok (.lstore 13, 2) := by decide +kernel
theorem dX0_nearestSquareBits_82 : decode cX0_nearestSquareBits 82 = .ok (.lload 11, 2) := by decide +kernel
theorem dX0_nearestSquareBits_84 : decode cX0_nearestSquareBits 84 = .ok (.lload 13, 2) := by decide +kernel
theorem dX0_nearestSquareBits_86 : decode cX0_nearestSquareBits 86 = .ok (.lcmp, 1) := by decide +kernel
theorem dX0_nearestSquareBits_87 : decode cX0_nearestSquareBits 87 = .ok (.ifCond .gt 20, 3) := by decide +kernel
theorem dX0_nearestSquareBits_90 : decode cX0_nearestSquareBits 90 = .ok (.lload 11, 2) := by decide +kernel
theorem dX0_nearestSquareBits_92 : decode cX0_nearestSquareBits 92 = .ok (.lload 13, 2) := by decide +kernel
theorem dX0_nearestSquareBits_94 : decode cX0_nearestSquareBits 94 = .ok (.lcmp, 1) := by decide +kernel
theorem dX0_nearestSquareBits_95 : decode cX0_nearestSquareBits 95 = .ok (.ifCond .ne 18, 3) := by decide +kernel
theorem dX0_nearestSquareBits_98 : decode cX0_nearestSquareBits 98 = .ok (.lload 9, 2) := by decide +kernel
theorem dX0_nearestSquareBits_100 : decode cX0_nearestSquareBits 100 = .ok (.lconst 1, 1) := by decide +kernel
theorem dX0_nearestSquareBits_101 : decode cX0_nearestSquareBits 101 = .ok (.land, 1) := by decide +kernel
theorem dX0_nearestSquareBits_102 : decode cX0_nearestSquareBits 102 = .ok (.lconst 1, 1) := by decide +kernel
theorem dX0_nearestSquareBits_103 : decode cX0_nearestSquareBits 103 = .ok (.lcmp, 1) := by decide +kernel
theorem dX0_nearestSquareBits_104 : decode cX0_nearestSquareBits 104 = .ok (.ifCond .ne 9, 3) := by decide +kernel
theorem dX0_nearestSquareBits_107 : decode cX0_nearestSquareBits 107 = .ok (.lload 9, 2) := by decide +kernel
theorem dX0_nearestSquareBits_109 : decode cX0_nearestSquareBits 109 = .ok (.lconst 1, 1) := by decide +kernel
theorem dX0_nearestSquareBits_110 : decode cX0_nearestSquareBits 110 = .ok (.ladd, 1) := by decide +kernel
theorem dX0_nearestSquareBits_111 : decode cX0_nearestSquareBits 111 = .ok (.lstore 9, 2) := by decide +kernel
theorem dX0_nearestSquareBits_113 : decode cX0_nearestSquareBits 113 = .ok (.iconst 0, 1) := by decide +kernel
theorem dX0_nearestSquareBits_114 : decode cX0_nearestSquareBits 114 = .ok (.lload 9, 2) := by decide +kernel
theorem dX0_nearestSquareBits_116 : decode cX0_nearestSquareBits 116 = .ok (.iconst 2, 1) := by decide +kernel
theorem dX0_nearestSquareBits_117 : decode cX0_nearestSquareBits 117 = .ok (.iload_n 2, 1) := by decide +kernel
theorem dX0_nearestSquareBits_118 : decode cX0_nearestSquareBits 118 = .ok (.iload_n 3, 1) := by decide +kernel
theorem dX0_nearestSquareBits_119 : decode cX0_nearestSquareBits 119 = .ok (.isub, 1) := by decide +kernel
theorem dX0_nearestSquareBits_120 : decode cX0_nearestSquareBits 120 = .ok (.imul, 1) := by decide +kernel
theorem dX0_nearestSquareBits_121 : decode cX0_nearestSquareBits 121 = .ok (.iload 8, 2) := by decide +kernel
theorem dX0_nearestSquareBits_123 : decode cX0_nearestSquareBits 123 = .ok (.iadd, 1) := by decide +kernel
theorem dX0_nearestSquareBits_124 : decode cX0_nearestSquareBits 124 = .ok (.invokestatic 226, 3) := by decide +kernel
theorem dX0_nearestSquareBits_127 : decode cX0_nearestSquareBits 127 = .ok (.lreturn, 1) := by decide +kernel
theorem dX1_init_0 : decode cX1_init 0 = .ok (.aload_n 0, 1) := by decide +kernel
theorem dX1_init_1 : decode cX1_init 1 = .ok (.invokespecial 1, 3) := by decide +kernel
theorem dX1_init_4 : decode cX1_init 4 = .ok (.aload_n 0, 1) := by decide +kernel
theorem dX1_init_5 : decode cX1_init 5 = .ok (.bipush 8, 2) := by decide +kernel
theorem dX1_init_7 : decode cX1_init 7 = .ok (.newarray .int, 2) := by decide +kernel
theorem dX1_init_9 : decode cX1_init 9 = .ok (.putfield 9, 3) := by decide +kernel
theorem dX1_init_12 : decode cX1_init 12 = .ok (.aload_n 0, 1) := by decide +kernel
theorem dX1_init_13 : decode cX1_init 13 = .ok (.bipush 8, 2) := by decide +kernel
theorem dX1_init_15 : decode cX1_init 15 = .ok (.newarray .long, 2) := by decide +kernel
theorem dX1_init_17 : decode cX1_init 17 = .ok (.putfield 13, 3) := by decide +kernel
theorem dX1_init_20 : decode cX1_init 20 = .ok (.aload_n 0, 1) := by decide +kernel
theorem dX1_init_21 : decode cX1_init 21 = .ok (.bipush 8, 2) := by decide +kernel
theorem dX1_init_23 : decode cX1_init 23 = .ok (.newarray .int, 2) := by decide +kernel
theorem dX1_init_25 : decode cX1_init 25 = .ok (.putfield 17, 3) := by decide +kernel
theorem dX1_init_28 : decode cX1_init 28 = .ok (.aload_n 0, 1) := by decide +kernel
theorem dX1_init_29 : decode cX1_init 29 = .ok (.bipush 8, 2) := by decide +kernel
theorem dX1_init_31 : decode cX1_init 31 = .ok (.newarray .int, 2) := by decide +kernel
theorem dX1_init_33 : decode cX1_init 33 = .ok (.putfield 20, 3) := by decide +kernel
theorem dX1_init_36 : decode cX1_init 36 = .ok (.aload_n 0, 1) := by decide +kernel
theorem dX1_init_37 : decode cX1_init 37 = .ok (.bipush 8, 2) := by decide +kernel
theorem dX1_init_39 : decode cX1_init 39 = .ok (.newarray .int, 2) := by decide +kernel
theorem dX1_init_41 : decode cX1_init 41 = .ok (.putfield 23, 3) := by decide +kernel
theorem dX1_init_44 : decode cX1_init 44 = .ok (.aload_n 0, 1) := by decide +kernel
theorem dX1_init_45 : decode cX1_init 45 = .ok (.bipush 8, 2) := by decide +kernel
theorem dX1_init_47 : decode cX1_init 47 = .ok (.newarray .long, 2) := by decide +kernel
theorem dX1_init_49 : decode cX1_init 49 = .ok (.putfield 26, 3) := by decide +kernel
theorem dX1_init_52 : decode cX1_init 52 = .ok (.aload_n 0, 1) := by decide +kernel
theorem dX1_init_53 : decode cX1_init 53 = .ok (.bipush 8, 2) := by decide +kernel
theorem dX1_init_55 : decode cX1_init 55 = .ok (.newarray .int, 2) := by decide +kernel
theorem dX1_init_57 : decode cX1_init 57 = .ok (.putfield 29, 3) := by decide +kernel
theorem dX1_init_60 : decode cX1_init 60 = .ok (.aload_n 0, 1) := by decide +kernel
theorem dX1_init_61 : decode cX1_init 61 = .ok (.iconst 0, 1) := by decide +kernel
theorem dX1_init_62 : decode cX1_init 62 = .ok (.putfield 32, 3) := by decide +kernel
theorem dX1_init_65 : decode cX1_init 65 = .ok (.return_, 1) := by decide +kernel
theorem dX1_thrown_0 : decode cX1_thrown 0 = .ok (.aload_n 0, 1) := by decide +kernel
theorem dX1_thrown_1 : decode cX1_thrown 1 = .ok (.getfield 36, 3) := by decide +kernel
theorem dX1_thrown_4 : decode cX1_thrown 4 = .ok (.ireturn, 1) := by decide +kernel
theorem dX1_no_0 : decode cX1_no 0 = .ok (.aload_n 0, 1) := by decide +kernel
theorem dX1_no_1 : decode cX1_no 1 = .ok (.iload_n 1, 1) := by decide +kernel
theorem dX1_no_2 : decode cX1_no 2 = .ok (.ifCond .eq 7, 3) := by decide +kernel
theorem dX1_no_5 : decode cX1_no 5 = .ok (.iconst 0, 1) := by decide +kernel
theorem dX1_no_6 : decode cX1_no 6 = .ok (.goto 4, 3) := by decide +kernel
theorem dX1_no_9 : decode cX1_no 9 = .ok (.iload_n 2, 1) := by decide +kernel
theorem dX1_no_10 : decode cX1_no 10 = .ok (.putfield 36, 3) := by decide +kernel
theorem dX1_no_13 : decode cX1_no 13 = .ok (.iload_n 1, 1) := by decide +kernel
theorem dX1_no_14 : decode cX1_no 14 = .ok (.ifCond .ne 7, 3) := by decide +kernel
theorem dX1_no_17 : decode cX1_no 17 = .ok (.iconst 1, 1) := by decide +kernel
theorem dX1_no_18 : decode cX1_no 18 = .ok (.goto 4, 3) := by decide +kernel
theorem dX1_no_21 : decode cX1_no 21 = .ok (.iconst 0, 1) := by decide +kernel
theorem dX1_no_22 : decode cX1_no 22 = .ok (.ireturn, 1) := by decide +kernel
theorem dX1_isSlot_0 : decode cX1_isSlot 0 = .ok (.iload_n 0, 1) := by decide +kernel
theorem dX1_isSlot_1 : decode cX1_isSlot 1 = .ok (.ifCond .lt 13, 3) := by decide +kernel
theorem dX1_isSlot_4 : decode cX1_isSlot 4 = .ok (.iload_n 0, 1) := by decide +kernel
theorem dX1_isSlot_5 : decode cX1_isSlot 5 = .ok (.bipush 8, 2) := by decide +kernel
theorem dX1_isSlot_7 : decode cX1_isSlot 7 = .ok (.if_icmp .ge 7, 3) := by decide +kernel
theorem dX1_isSlot_10 : decode cX1_isSlot 10 = .ok (.iconst 1, 1) := by decide +kernel
theorem dX1_isSlot_11 : decode cX1_isSlot 11 = .ok (.goto 4, 3) := by decide +kernel
theorem dX1_isSlot_14 : decode cX1_isSlot 14 = .ok (.iconst 0, 1) := by decide +kernel
theorem dX1_isSlot_15 : decode cX1_isSlot 15 = .ok (.ireturn, 1) := by decide +kernel
theorem dX1_isFrom_0 : decode cX1_isFrom 0 = .ok (.iload_n 0, 1) := by decide +kernel
theorem dX1_isFrom_1 : decode cX1_isFrom 1 = .ok (.iload_n 1, 1) := by decide +kernel
theorem dX1_isFrom_2 : decode cX1_isFrom 2 = .ok (.if_icmp .lt 12, 3) := by decide +kernel
theorem dX1_isFrom_5 : decode cX1_isFrom 5 = .ok (.iload_n 0, 1) := by decide +kernel
theorem dX1_isFrom_6 : decode cX1_isFrom 6 = .ok (.iload_n 2, 1) := by decide +kernel
theorem dX1_isFrom_7 : decode cX1_isFrom 7 = .ok (.if_icmp .gt 7, 3) := by decide +kernel
theorem dX1_isFrom_10 : decode cX1_isFrom 10 = .ok (.iconst 1, 1) := by decide +kernel
theorem dX1_isFrom_11 : decode cX1_isFrom 11 = .ok (.goto 4, 3) := by decide +kernel
theorem dX1_isFrom_14 : decode cX1_isFrom 14 = .ok (.iconst 0, 1) := by decide +kernel
theorem dX1_isFrom_15 : decode cX1_isFrom 15 = .ok (.ireturn, 1) := by decide +kernel
set_option maxRecDepth 20000 in
theorem ggX1_isBase_X1_isFrom : GoodIn wsX1_isBase wsX1_isFrom := goodIn_r _ [4] (by decide +kernel) (by decide +kernel)
set_option maxRecDepth 20000 in
theorem gX1_isBase_X1_isFrom : GoodIn wsX1_isBase (va_wsS RX1 39 yX1_isFrom wsX1_isFrom) := goodIn_app (goodIn_of _ (by decide +kernel)) ggX1_isBase_X1_isFrom
theorem dX1_isBase_0 : decode cX1_isBase 0 = .ok (.iload_n 0, 1) := by decide +kernel
theorem dX1_isBase_1 : decode cX1_isBase 1 = .ok (.bipush (-64), 2) := by decide +kernel
theorem dX1_isBase_3 : decode cX1_isBase 3 = .ok (.bipush 64, 2) := by decide +kernel
theorem dX1_isBase_5 : decode cX1_isBase 5 = .ok (.invokestatic 39, 3) := by decide +kernel
theorem dX1_isBase_8 : decode cX1_isBase 8 = .ok (.ireturn, 1) := by decide +kernel
set_option maxRecDepth 20000 in
theorem ggX1_isExponent_X1_isFrom : GoodIn wsX1_isExponent wsX1_isFrom := goodIn_r _ [4] (by decide +kernel) (by decide +kernel)
set_option maxRecDepth 20000 in
theorem gX1_isExponent_X1_isFrom : GoodIn wsX1_isExponent (va_wsS RX1 39 yX1_isFrom wsX1_isFrom) := goodIn_app (goodIn_of _ (by decide +kernel)) ggX1_isExponent_X1_isFrom
theorem dX1_isExponent_0 : decode cX1_isExponent 0 = .ok (.iload_n 0, 1) := by decide +kernel
theorem dX1_isExponent_1 : decode cX1_isExponent 1 = .ok (.iconst 0, 1) := by decide +kernel
theorem dX1_isExponent_2 : decode cX1_isExponent 2 = .ok (.bipush 64, 2) := by decide +kernel
theorem dX1_isExponent_4 : decode cX1_isExponent 4 = .ok (.invokestatic 39, 3) := by decide +kernel
theorem dX1_isExponent_7 : decode cX1_isExponent 7 = .ok (.ireturn, 1) := by decide +kernel
theorem dX1_lengthOf_0 : decode cX1_lengthOf 0 = .ok (.iconst 0, 1) := by decide +kernel
theorem dX1_lengthOf_1 : decode cX1_lengthOf 1 = .ok (.istore_n 2, 1) := by decide +kernel
theorem dX1_lengthOf_2 : decode cX1_lengthOf 2 = .ok (.lload_n 0, 1) := by decide +kernel
theorem dX1_lengthOf_3 : decode cX1_lengthOf 3 = .ok (.lstore_n 3, 1) := by decide +kernel
theorem dX1_lengthOf_4 : decode cX1_lengthOf 4 = .ok (.lload_n 3, 1) := by decide +kernel
theorem dX1_lengthOf_5 : decode cX1_lengthOf 5 = .ok (.lconst 0, 1) := by decide +kernel
theorem dX1_lengthOf_6 : decode cX1_lengthOf 6 = .ok (.lcmp, 1) := by decide +kernel
theorem dX1_lengthOf_7 : decode cX1_lengthOf 7 = .ok (.ifCond .le 15, 3) := by decide +kernel
theorem dX1_lengthOf_10 : decode cX1_lengthOf 10 = .ok (.iinc 2 1, 3) := by decide +kernel
theorem dX1_lengthOf_13 : decode cX1_lengthOf 13 = .ok (.lload_n 3, 1) := by decide +kernel
theorem dX1_lengthOf_14 : decode cX1_lengthOf 14 = .ok (.ldc2_w 43, 3) := by decide +kernel
theorem dX1_lengthOf_17 : decode cX1_lengthOf 17 = .ok (.ldiv, 1) := by decide +kernel
theorem dX1_lengthOf_18 : decode cX1_lengthOf 18 = .ok (.lstore_n 3, 1) := by decide +kernel
theorem dX1_lengthOf_19 : decode cX1_lengthOf 19 = .ok (.goto (-15), 3) := by decide +kernel
theorem dX1_lengthOf_22 : decode cX1_lengthOf 22 = .ok (.iload_n 2, 1) := by decide +kernel
theorem dX1_lengthOf_23 : decode cX1_lengthOf 23 = .ok (.ireturn, 1) := by decide +kernel
theorem dX1_twosOf_0 : decode cX1_twosOf 0 = .ok (.iconst 0, 1) := by decide +kernel
theorem dX1_twosOf_1 : decode cX1_twosOf 1 = .ok (.istore_n 2, 1) := by decide +kernel
theorem dX1_twosOf_2 : decode cX1_twosOf 2 = .ok (.lload_n 0, 1) := by decide +kernel
theorem dX1_twosOf_3 : decode cX1_twosOf 3 = .ok (.lstore_n 3, 1) := by decide +kernel
theorem dX1_twosOf_4 : decode cX1_twosOf 4 = .ok (.lload_n 3, 1) := by decide +kernel
theorem dX1_twosOf_5 : decode cX1_twosOf 5 = .ok (.lconst 0, 1) := by decide +kernel
theorem dX1_twosOf_6 : decode cX1_twosOf 6 = .ok (.lcmp, 1) := by decide +kernel
theorem dX1_twosOf_7 : decode cX1_twosOf 7 = .ok (.ifCond .eq 25, 3) := by decide +kernel
theorem dX1_twosOf_10 : decode cX1_twosOf 10 = .ok (.lload_n 3, 1) := by decide +kernel
theorem dX1_twosOf_11 : decode cX1_twosOf 11 = .ok (.ldc2_w 43, 3) := by decide +kernel
theorem dX1_twosOf_14 : decode cX1_twosOf 14 = .ok (.lrem, 1) := by decide +kernel
theorem dX1_twosOf_15 : decode cX1_twosOf 15 = .ok (.lconst 0, 1) := by decide +kernel
theorem dX1_twosOf_16 : decode cX1_twosOf 16 = .ok (.lcmp, 1) := by decide +kernel
theorem dX1_twosOf_17 : decode cX1_twosOf 17 = .ok (.ifCond .ne 15, 3) := by decide +kernel
theorem dX1_twosOf_20 : decode cX1_twosOf 20 = .ok (.iinc 2 1, 3) := by decide +kernel
theorem dX1_twosOf_23 : decode cX1_twosOf 23 = .ok (.lload_n 3, 1) := by decide +kernel
theorem dX1_twosOf_24 : decode cX1_twosOf 24 = .ok (.ldc2_w 43, 3) := by decide +kernel
theorem dX1_twosOf_27 : decode cX1_twosOf 27 = .ok (.ldiv, 1) := by decide +kernel
theorem dX1_twosOf_28 : decode cX1_twosOf 28 = .ok (.lstore_n 3, 1) := by decide +kernel
theorem dX1_twosOf_29 : decode cX1_twosOf 29 = .ok (.goto (-25), 3) := by decide +kernel
theorem dX1_twosOf_32 : decode cX1_twosOf 32 = .ok (.iload_n 2, 1) := by decide +kernel
theorem dX1_twosOf_33 : decode cX1_twosOf 33 = .ok (.ireturn, 1) := by decide +kernel
set_option maxRecDepth 20000 in
theorem ggX1_bitsOf_X1_lengthOf : GoodIn wsX1_bitsOf wsX1_lengthOf := goodIn_r _ [5, 6] (by decide +kernel) (by decide +kernel)
set_option maxRecDepth 20000 in
theorem gX1_bitsOf_X1_lengthOf : GoodIn wsX1_bitsOf (va_wsS RX1 45 yX1_lengthOf wsX1_lengthOf) := goodIn_app (goodIn_of _ (by decide +kernel)) ggX1_bitsOf_X1_lengthOf
theorem dX1_bitsOf_0 : decode cX1_bitsOf 0 = .ok (.lload_n 0, 1) := by decide +kernel
theorem dX1_bitsOf_1 : decode cX1_bitsOf 1 = .ok (.lconst 0, 1) := by decide +kernel
theorem dX1_bitsOf_2 : decode cX1_bitsOf 2 = .ok (.lcmp, 1) := by decide +kernel
theorem dX1_bitsOf_3 : decode cX1_bitsOf 3 = .ok (.ifCond .ne 5, 3) := by decide +kernel
theorem dX1_bitsOf_6 : decode cX1_bitsOf 6 = .ok (.lconst 0, 1) := by decide +kernel
theorem dX1_bitsOf_7 : decode cX1_bitsOf 7 = .ok (.lreturn, 1) := by decide +kernel
theorem dX1_bitsOf_8 : decode cX1_bitsOf 8 = .ok (.bipush 53, 2) := by decide +kernel
theorem dX1_bitsOf_10 : decode cX1_bitsOf 10 = .ok (.lload_n 0, 1) := by decide +kernel
theorem dX1_bitsOf_11 : decode cX1_bitsOf 11 = .ok (.invokestatic 45, 3) := by decide +kernel
theorem dX1_bitsOf_14 : decode cX1_bitsOf 14 = .ok (.isub, 1) := by decide +kernel
theorem dX1_bitsOf_15 : decode cX1_bitsOf 15 = .ok (.istore_n 3, 1) := by decide +kernel
theorem dX1_bitsOf_16 : decode cX1_bitsOf 16 = .ok (.lload_n 0, 1) := by decide +kernel
theorem dX1_bitsOf_17 : decode cX1_bitsOf 17 = .ok (.iload_n 3, 1) := by decide +kernel
theorem dX1_bitsOf_18 : decode cX1_bitsOf 18 = .ok (.lshl, 1) := by decide +kernel
theorem dX1_bitsOf_19 : decode cX1_bitsOf 19 = .ok (.lstore 4, 2) := by decide +kernel
theorem dX1_bitsOf_21 : decode cX1_bitsOf 21 = .ok (.lload 4, 2) := by decide +kernel
theorem dX1_bitsOf_23 : decode cX1_bitsOf 23 = .ok (.ldc2_w 49, 3) := by decide +kernel
theorem dX1_bitsOf_26 : decode cX1_bitsOf 26 = .ok (.lsub, 1) := by decide +kernel
theorem dX1_bitsOf_27 : decode cX1_bitsOf 27 = .ok (.iload_n 2, 1) := by decide +kernel
theorem dX1_bitsOf_28 : decode cX1_bitsOf 28 = .ok (.iload_n 3, 1) := by decide +kernel
theorem dX1_bitsOf_29 : decode cX1_bitsOf 29 = .ok (.isub, 1) := by decide +kernel
theorem dX1_bitsOf_30 : decode cX1_bitsOf 30 = .ok (.sipush 1075, 3) := by decide +kernel
theorem dX1_bitsOf_33 : decode cX1_bitsOf 33 = .ok (.iadd, 1) := by decide +kernel
theorem dX1_bitsOf_34 : decode cX1_bitsOf 34 = .ok (.i2l, 1) := by decide +kernel
theorem dX1_bitsOf_35 : decode cX1_bitsOf 35 = .ok (.ldc2_w 49, 3) := by decide +kernel
theorem dX1_bitsOf_38 : decode cX1_bitsOf 38 = .ok (.lmul, 1) := by decide +kernel
theorem dX1_bitsOf_39 : decode cX1_bitsOf 39 = .ok (.ladd, 1) := by decide +kernel
theorem dX1_bitsOf_40 : decode cX1_bitsOf 40 = .ok (.lreturn, 1) := by decide +kernel
theorem dX1_isTold_0 : decode cX1_isTold 0 = .ok (.aload_n 0, 1) := by decide +kernel
theorem dX1_isTold_1 : decode cX1_isTold 1 = .ok (.iload 5, 2) := by decide +kernel
theorem dX1_isTold_3 : decode cX1_isTold 3 = .ok (.ifCond .ne 7, 3) := by decide +kernel
theorem dX1_isTold_6 : decode cX1_isTold 6 = .ok (.iconst 1, 1) := by decide +kernel
theorem dX1_isTold_7 : decode cX1_isTold 7 = .ok (.goto 17, 3) := by decide +kernel
theorem dX1_isTold_10 : decode cX1_isTold 10 = .ok (.iload 5, 2) := by decide +kernel
theorem dX1_isTold_12 : decode cX1_isTold 12 = .ok (.iconst 2, 1) := by decide +kernel
theorem dX1_isTold_13 : decode cX1_isTold 13 = .ok (.irem, 1) := by decide +kernel
theorem dX1_isTold_14 : decode cX1_isTold 14 = .ok (.ifCond .ne 9, 3) := by decide +kernel
theorem dX1_isTold_17 : decode cX1_isTold 17 = .ok (.iload_n 1, 1) := by decide +kernel
theorem dX1_isTold_18 : decode cX1_isTold 18 = .ok (.iload_n 1, 1) := by decide +kernel
theorem dX1_isTold_19 : decode cX1_isTold 19 = .ok (.imul, 1) := by decide +kernel
theorem dX1_isTold_20 : decode cX1_isTold 20 = .ok (.goto 4, 3) := by decide +kernel
theorem dX1_isTold_23 : decode cX1_isTold 23 = .ok (.iload_n 1, 1) := by decide +kernel
theorem dX1_isTold_24 : decode cX1_isTold 24 = .ok (.putfield 51, 3) := by decide +kernel
theorem dX1_isTold_27 : decode cX1_isTold 27 = .ok (.aload_n 0, 1) := by decide +kernel
theorem dX1_isTold_28 : decode cX1_isTold 28 = .ok (.iload 5, 2) := by decide +kernel
theorem dX1_isTold_30 : decode cX1_isTold 30 = .ok (.ifCond .eq 11, 3) := by decide +kernel
theorem dX1_isTold_33 : decode cX1_isTold 33 = .ok (.iload_n 1, 1) := by decide +kernel
theorem dX1_isTold_34 : decode cX1_isTold 34 = .ok (.ifCond .ne 7, 3) := by decide +kernel
theorem dX1_isTold_37 : decode cX1_isTold 37 = .ok (.lconst 0, 1) := by decide +kernel
theorem dX1_isTold_38 : decode cX1_isTold 38 = .ok (.goto 4, 3) := by decide +kernel
theorem dX1_isTold_41 : decode cX1_isTold 41 = .ok (.lconst 1, 1) := by decide +kernel
theorem dX1_isTold_42 : decode cX1_isTold 42 = .ok (.putfield 54, 3) := by decide +kernel
theorem dX1_isTold_45 : decode cX1_isTold 45 = .ok (.aload_n 0, 1) := by decide +kernel
theorem dX1_isTold_46 : decode cX1_isTold 46 = .ok (.iconst 0, 1) := by decide +kernel
theorem dX1_isTold_47 : decode cX1_isTold 47 = .ok (.putfield 58, 3) := by decide +kernel
theorem dX1_isTold_50 : decode cX1_isTold 50 = .ok (.iload_n 1, 1) := by decide +kernel
theorem dX1_isTold_51 : decode cX1_isTold 51 = .ok (.ifCond .eq 8, 3) := by decide +kernel
theorem dX1_isTold_54 : decode cX1_isTold 54 = .ok (.iload 5, 2) := by decide +kernel
theorem dX1_isTold_56 : decode cX1_isTold 56 = .ok (.ifCond .ne 5, 3) := by decide +kernel
theorem dX1_isTold_59 : decode cX1_isTold 59 = .ok (.iconst 1, 1) := by decide +kernel
theorem dX1_isTold_60 : decode cX1_isTold 60 = .ok (.ireturn, 1) := by decide +kernel
theorem dX1_isTold_61 : decode cX1_isTold 61 = .ok (.iload 5, 2) := by decide +kernel
theorem dX1_isTold_63 : decode cX1_isTold 63 = .ok (.ifCond .ge 11, 3) := by decide +kernel
theorem dX1_isTold_66 : decode cX1_isTold 66 = .ok (.lload_n 2, 1) := by decide +kernel
theorem dX1_isTold_67 : decode cX1_isTold 67 = .ok (.lconst 1, 1) := by decide +kernel
theorem dX1_isTold_68 : decode cX1_isTold 68 = .ok (.lcmp, 1) := by decide +kernel
theorem dX1_isTold_69 : decode cX1_isTold 69 = .ok (.ifCond .eq 5, 3) := by decide +kernel
theorem dX1_isTold_72 : decode cX1_isTold 72 = .ok (.iconst 0, 1) := by decide +kernel
theorem dX1_isTold_73 : decode cX1_isTold 73 = .ok (.ireturn, 1) := by decide +kernel
theorem dX1_isTold_74 : decode cX1_isTold 74 = .ok (.iconst 0, 1) := by decide +kernel
theorem dX1_isTold_75 : decode cX1_isTold 75 = .ok (.istore 6, 2) := by decide +kernel
theorem dX1_isTold_77 : decode cX1_isTold 77 = .ok (.iload 6, 2) := by decide +kernel
theorem dX1_isTold_79 : decode cX1_isTold 79 = .ok (.iload 5, 2) := by decide +kernel
theorem dX1_isTold_81 : decode cX1_isTold 81 = .ok (.if_icmp .ge 40, 3) := by decide +kernel
theorem dX1_isTold_84 : decode cX1_isTold 84 = .ok (.lload_n 2, 1) := by decide +kernel
theorem dX1_isTold_85 : decode cX1_isTold 85 = .ok (.lconst 1, 1) := by decide +kernel
theorem dX1_isTold_86 : decode cX1_isTold 86 = .ok (.lcmp, 1) := by decide +kernel
theorem dX1_isTold_87 : decode cX1_isTold 87 = .ok (.ifCond .le 34, 3) := by decide +kernel
theorem dX1_isTold_90 : decode cX1_isTold 90 = .ok (.aload_n 0, 1) := by decide +kernel
theorem dX1_isTold_91 : decode cX1_isTold 91 = .ok (.getfield 54, 3) := by decide +kernel
theorem dX1_isTold_94 : decode cX1_isTold 94 = .ok (.ldc2_w 61, 3) := by decide +kernel
theorem dX1_isTold_97 : decode cX1_isTold 97 = .ok (.lload_n 2, 1) := by decide +kernel
theorem dX1_isTold_98 : decode cX1_isTold 98 = .ok (.ldiv, 1) := by decide +kernel
theorem dX1_isTold_99 : decode cX1_isTold 99 = .ok (.lcmp, 1) := by decide +kernel
theorem dX1_isTold_100 : decode cX1_isTold 100 = .ok (.ifCond .le 5, 3) := by decide +kernel
theorem dX1_isTold_103 : decode cX1_isTold 103 = .ok (.iconst 0, 1) := by decide +kernel
theorem dX1_isTold_104 : decode cX1_isTold 104 = .ok (.ireturn, 1) := by decide +kernel
theorem dX1_isTold_105 : decode cX1_isTold 105 = .ok (.aload_n 0, 1) := by decide +kernel
theorem dX1_isTold_106 : decode cX1_isTold 106 = .ok (.aload_n 0, 1) := by decide +kernel
theorem dX1_isTold_107 : decode cX1_isTold 107 = .ok (.getfield 54, 3) := by decide +kernel
theorem dX1_isTold_110 : decode cX1_isTold 110 = .ok (.lload_n 2, 1) := by decide +kernel
theorem dX1_isTold_111 : decode cX1_isTold 111 = .ok (.lmul, 1) := by decide +kernel
theorem dX1_isTold_112 : decode cX1_isTold 112 = .ok (.putfield 54, 3) := by decide +kernel
theorem dX1_isTold_115 : decode cX1_isTold 115 = .ok (.iinc 6 1, 3) := by decide +kernel
theorem dX1_isTold_118 : decode cX1_isTold 118 = .ok (.goto (-41), 3) := by decide +kernel
theorem dX1_isTold_121 : decode cX1_isTold 121 = .ok (.aload_n 0, 1) := by decide +kernel
theorem dX1_isTold_122 : decode cX1_isTold 122 = .ok (.iload 4, 2) := by decide +kernel
theorem dX1_isTold_124 : decode cX1_isTold 124 = .ok (.iload 5, 2) := by decide +kernel
theorem dX1_isTold_126 : decode cX1_isTold 126 = .ok (.imul, 1) := by decide +kernel
theorem dX1_isTold_127 : decode cX1_isTold 127 = .ok (.putfield 58, 3) := by decide +kernel
theorem dX1_isTold_130 : decode cX1_isTold 130 = .ok (.aload_n 0, 1) := by decide +kernel
theorem dX1_isTold_131 : decode cX1_isTold 131 = .ok (.getfield 58, 3) := by decide +kernel
theorem dX1_isTold_134 : decode cX1_isTold 134 = .ok (.sipush (-1000), 3) := by decide +kernel
theorem dX1_isTold_137 : decode cX1_isTold 137 = .ok (.if_icmp .lt 17, 3) := by decide +kernel
theorem dX1_isTold_140 : decode cX1_isTold 140 = .ok (.aload_n 0, 1) := by decide +kernel
theorem dX1_isTold_141 : decode cX1_isTold 141 = .ok (.getfield 58, 3) := by decide +kernel
theorem dX1_isTold_144 : decode cX1_isTold 144 = .ok (.sipush 1000, 3) := by decide +kernel
theorem dX1_isTold_147 : decode cX1_isTold 147 = .ok (.if_icmp .gt 7, 3) := by decide +kernel
theorem dX1_isTold_150 : decode cX1_isTold 150 = .ok (.iconst 1, 1) := by decide +kernel
theorem dX1_isTold_151 : decode cX1_isTold 151 = .ok (.goto 4, 3) := by decide +kernel
theorem dX1_isTold_154 : decode cX1_isTold 154 = .ok (.iconst 0, 1) := by decide +kernel
theorem dX1_isTold_155 : decode cX1_isTold 155 = .ok (.ireturn, 1) := by decide +kernel
set_option maxRecDepth 20000 in
theorem ggX1_isTold__X1_twosOf : GoodIn wsX1_isTold_ wsX1_twosOf := goodIn_r _ [4, 5] (by decide +kernel) (by decide +kernel)
set_option maxRecDepth 20000 in
theorem gX1_isTold__X1_twosOf : GoodIn wsX1_isTold_ (va_wsS RX1 63 yX1_twosOf wsX1_twosOf) := goodIn_app (goodIn_of _ (by decide +kernel)) ggX1_isTold__X1_twosOf
set_option maxRecDepth 20000 in
theorem ggX1_isTold__X1_isTold : GoodIn wsX1_isTold_ wsX1_isTold := goodIn_ca (goodIn_r _ [9, 10, 11, 12, 13, 14, 15, 16, 17, 18, 19, 20, 21, 22, 23, 24, 25] (by decide +kernel) (by decide +kernel)) (goodIn_sub (fun _ h => List.mem_cons_of_mem _ (List.mem_append_right _ h)) (by decide +kernel))
set_option maxRecDepth 20000 in
theorem gX1_isTold__X1_isTold : GoodIn wsX1_isTold_ (wsV RX1 66 RX1 yX1_isTold wsX1_isTold) := goodIn_app (goodIn_of _ (by decide +kernel)) ggX1_isTold__X1_isTold
theorem dX1_isTold__0 : decode cX1_isTold_ 0 = .ok (.iload_n 1, 1) := by decide +kernel
theorem dX1_isTold__1 : decode cX1_isTold_ 1 = .ok (.ifCond .ge 9, 3) := by decide +kernel
theorem dX1_isTold__4 : decode cX1_isTold_ 4 = .ok (.iload_n 1, 1) := by decide +kernel
theorem dX1_isTold__5 : decode cX1_isTold_ 5 = .ok (.ineg, 1) := by decide +kernel
theorem dX1_isTold__6 : decode cX1_isTold_ 6 = .ok (.i2l, 1) := by decide +kernel
theorem dX1_isTold__7 : decode cX1_isTold_ 7 = .ok (.goto 5, 3) := by decide +kernel
theorem dX1_isTold__10 : decode cX1_isTold_ 10 = .ok (.iload_n 1, 1) := by decide +kernel
theorem dX1_isTold__11 : decode cX1_isTold_ 11 = .ok (.i2l, 1) := by decide +kernel
theorem dX1_isTold__12 : decode cX1_isTold_ 12 = .ok (.lstore_n 3, 1) := by decide +kernel
theorem dX1_isTold__13 : decode cX1_isTold_ 13 = .ok (.lload_n 3, 1) := by decide +kernel
theorem dX1_isTold__14 : decode cX1_isTold_ 14 = .ok (.invokestatic 63, 3) := by decide +kernel
theorem dX1_isTold__17 : decode cX1_isTold_ 17 = .ok (.istore 5, 2) := by decide +kernel
theorem dX1_isTold__19 : decode cX1_isTold_ 19 = .ok (.aload_n 0, 1) := by decide +kernel
theorem dX1_isTold__20 : decode cX1_isTold_ 20 = .ok (.iload_n 1, 1) := by decide +kernel
theorem dX1_isTold__21 : decode cX1_isTold_ 21 = .ok (.ifCond .ge 7, 3) := by decide +kernel
theorem dX1_isTold__24 : decode cX1_isTold_ 24 = .ok (.iconst (-1), 1) := by decide +kernel
theorem dX1_isTold__25 : decode cX1_isTold_ 25 = .ok (.goto 12, 3) := by decide +kernel
theorem dX1_isTold__28 : decode cX1_isTold_ 28 = .ok (.iload_n 1, 1) := by decide +kernel
theorem dX1_isTold__29 : decode cX1_isTold_ 29 = .ok (.ifCond .le 7, 3) := by decide +kernel
theorem dX1_isTold__32 : decode cX1_isTold_ 32 = .ok (.iconst 1, 1) := by decide +kernel
theorem dX1_isTold__33 : decode cX1_isTold_ 33 = .ok (.goto 4, 3) := by decide +kernel
theorem dX1_isTold__36 : decode cX1_isTold_ 36 = .ok (.iconst 0, 1) := by decide +kernel
theorem dX1_isTold__37 : decode cX1_isTold_ 37 = .ok (.lload_n 3, 1) := by decide +kernel
theorem dX1_isTold__38 : decode cX1_isTold_ 38 = .ok (.iload 5, 2) := by decide +kernel
theorem dX1_isTold__40 : decode cX1_isTold_ 40 = .ok (.lshr, 1) := by decide +kernel
theorem dX1_isTold__41 : decode cX1_isTold_ 41 = .ok (.iload 5, 2) := by decide +kernel
theorem dX1_isTold__43 : decode cX1_isTold_ 43 = .ok (.iload_n 2, 1) := by decide +kernel
theorem dX1_isTold__44 : decode cX1_isTold_ 44 = .ok (.invokevirtual 66, 3) := by decide +kernel
theorem dX1_isTold__47 : decode cX1_isTold_ 47 = .ok (.ireturn, 1) := by decide +kernel
set_option maxRecDepth 20000 in
theorem ggX1_isPowerNear_X1_lengthOf : GoodIn wsX1_isPowerNear wsX1_lengthOf := goodIn_r _ [6, 7] (by decide +kernel) (by decide +kernel)
set_option maxRecDepth 20000 in
theorem gX1_isPowerNear_X1_lengthOf : GoodIn wsX1_isPowerNear (va_wsS RX1 45 yX1_lengthOf wsX1_lengthOf) := goodIn_app (goodIn_of _ (by decide +kernel)) ggX1_isPowerNear_X1_lengthOf
theorem dX1_isPowerNear_0 : decode cX1_isPowerNear 0 = .ok (.aload_n 0, 1) := by decide +kernel
theorem dX1_isPowerNear_1 : decode cX1_isPowerNear 1 = .ok (.getfield 58, 3) := by decide +kernel
theorem dX1_isPowerNear_4 : decode cX1_isPowerNear 4 = .ok (.ifCond .lt 24, 3) := by decide +kernel
theorem dX1_isPowerNear_7 : decode cX1_isPowerNear 7 = .ok (.aload_n 0, 1) := by decide +kernel
theorem dX1_isPowerNear_8 : decode cX1_isPowerNear 8 = .ok (.getfield 54, 3) := by decide +kernel
theorem dX1_isPowerNear_11 : decode cX1_isPowerNear 11 = .ok (.invokestatic 45, 3) := by decide +kernel
theorem dX1_isPowerNear_14 : decode cX1_isPowerNear 14 = .ok (.aload_n 0, 1) := by decide +kernel
theorem dX1_isPowerNear_15 : decode cX1_isPowerNear 15 = .ok (.getfield 58, 3) := by decide +kernel
theorem dX1_isPowerNear_18 : decode cX1_isPowerNear 18 = .ok (.iadd, 1) := by decide +kernel
theorem dX1_isPowerNear_19 : decode cX1_isPowerNear 19 = .ok (.bipush 53, 2) := by decide +kernel
theorem dX1_isPowerNear_21 : decode cX1_isPowerNear 21 = .ok (.if_icmp .gt 7, 3) := by decide +kernel
theorem dX1_isPowerNear_24 : decode cX1_isPowerNear 24 = .ok (.iconst 1, 1) := by decide +kernel
theorem dX1_isPowerNear_25 : decode cX1_isPowerNear 25 = .ok (.goto 4, 3) := by decide +kernel
theorem dX1_isPowerNear_28 : decode cX1_isPowerNear 28 = .ok (.iconst 0, 1) := by decide +kernel
theorem dX1_isPowerNear_29 : decode cX1_isPowerNear 29 = .ok (.ireturn, 1) := by decide +kernel
theorem dX1_powerWhole_0 : decode cX1_powerWhole 0 = .ok (.aload_n 0, 1) := by decide +kernel
theorem dX1_powerWhole_1 : decode cX1_powerWhole 1 = .ok (.getfield 51, 3) := by decide +kernel
theorem dX1_powerWhole_4 : decode cX1_powerWhole 4 = .ok (.i2l, 1) := by decide +kernel
theorem dX1_powerWhole_5 : decode cX1_powerWhole 5 = .ok (.aload_n 0, 1) := by decide +kernel
theorem dX1_powerWhole_6 : decode cX1_powerWhole 6 = .ok (.getfield 54, 3) := by decide +kernel
theorem dX1_powerWhole_9 : decode cX1_powerWhole 9 = .ok (.aload_n 0, 1) := by decide +kernel
theorem dX1_powerWhole_10 : decode cX1_powerWhole 10 = .ok (.getfield 58, 3) := by decide +kernel
theorem dX1_powerWhole_13 : decode cX1_powerWhole 13 = .ok (.lshl, 1) := by decide +kernel
theorem dX1_powerWhole_14 : decode cX1_powerWhole 14 = .ok (.lmul, 1) := by decide +kernel
theorem dX1_powerWhole_15 : decode cX1_powerWhole 15 = .ok (.lreturn, 1) := by decide +kernel
theorem dX1_become_0 : decode cX1_become 0 = .ok (.aload_n 0, 1) := by decide +kernel
theorem dX1_become_1 : decode cX1_become 1 = .ok (.getfield 32, 3) := by decide +kernel
theorem dX1_become_4 : decode cX1_become 4 = .ok (.bipush 8, 2) := by decide +kernel
theorem dX1_become_6 : decode cX1_become 6 = .ok (.if_icmp .ne 93, 3) := by decide +kernel
theorem dX1_become_9 : decode cX1_become 9 = .ok (.iconst 1, 1) := by decide +kernel
theorem dX1_become_10 : decode cX1_become 10 = .ok (.istore 6, 2) := by decide +kernel
theorem dX1_become_12 : decode cX1_become 12 = .ok (.iload 6, 2) := by decide +kernel
theorem dX1_become_14 : decode cX1_become 14 = .ok (.bipush 8, 2) := by decide +kernel
theorem dX1_become_16 : decode cX1_become 16 = .ok (.if_icmp .ge 73, 3) := by decide +kernel
theorem dX1_become_19 : decode cX1_become 19 = .ok (.aload_n 0, 1) := by decide +kernel
theorem dX1_become_20 : decode cX1_become 20 = .ok (.getfield 20, 3) := by decide +kernel
theorem dX1_become_23 : decode cX1_become 23 = .ok (.iload 6, 2) := by decide +kernel
theorem dX1_become_25 : decode cX1_become 25 = .ok (.iconst 1, 1) := by decide +kernel
theorem dX1_become_26 : decode cX1_become 26 = .ok (.isub, 1) := by decide +kernel
theorem dX1_become_27 : decode cX1_become 27 = .ok (.aload_n 0, 1) := by decide +kernel
theorem dX1_become_28 : decode cX1_become 28 = .ok (.getfield 20, 3) := by decide +kernel
theorem dX1_become_31 : decode cX1_become 31 = .ok (.iload 6, 2) := by decide +kernel
theorem dX1_become_33 : decode cX1_become 33 = .ok (.iaload, 1) := by decide +kernel
theorem dX1_become_34 : decode cX1_become 34 = .ok (.iastore, 1) := by decide +kernel
theorem dX1_become_35 : decode cX1_become 35 = .ok (.aload_n 0, 1) := by decide +kernel
theorem dX1_become_36 : decode cX1_become 36 = .ok (.getfield 23, 3) := by decide +kernel
theorem dX1_become_39 : decode cX1_become 39 = .ok (.iload 6, 2) := by decide +kernel
theorem dX1_become_41 : decode cX1_become 41 = .ok (.iconst 1, 1) := by decide +kernel
theorem dX1_become_42 : decode cX1_become 42 = .ok (.isub, 1) := by decide +kernel
theorem dX1_become_43 : decode cX1_become 43 = .ok (.aload_n 0, 1) := by decide +kernel
theorem dX1_become_44 : decode cX1_become 44 = .ok (.getfield 23, 3) := by decide +kernel
theorem dX1_become_47 : decode cX1_become 47 = .ok (.iload 6, 2) := by decide +kernel
theorem dX1_become_49 : decode cX1_become 49 = .ok (.iaload, 1) := by decide +kernel
theorem dX1_become_50 : decode cX1_become 50 = .ok (.iastore, 1) := by decide +kernel
theorem dX1_become_51 : decode cX1_become 51 = .ok (.aload_n 0, 1) := by decide +kernel
theorem dX1_become_52 : decode cX1_become 52 = .ok (.getfield 26, 3) := by decide +kernel
theorem dX1_become_55 : decode cX1_become 55 = .ok (.iload 6, 2) := by decide +kernel
theorem dX1_become_57 : decode cX1_become 57 = .ok (.iconst 1, 1) := by decide +kernel
theorem dX1_become_58 : decode cX1_become 58 = .ok (.isub, 1) := by decide +kernel
theorem dX1_become_59 : decode cX1_become 59 = .ok (.aload_n 0, 1) := by decide +kernel
theorem dX1_become_60 : decode cX1_become 60 = .ok (.getfield 26, 3) := by decide +kernel
theorem dX1_become_63 : decode cX1_become 63 = .ok (.iload 6, 2) := by decide +kernel
theorem dX1_become_65 : decode cX1_become 65 = .ok (.laload, 1) := by decide +kernel
theorem dX1_become_66 : decode cX1_become 66 = .ok (.lastore, 1) := by decide +kernel
theorem dX1_become_67 : decode cX1_become 67 = .ok (.aload_n 0, 1) := by decide +kernel
theorem dX1_become_68 : decode cX1_become 68 = .ok (.getfield 29, 3) := by decide +kernel
theorem dX1_become_71 : decode cX1_become 71 = .ok (.iload 6, 2) := by decide +kernel
theorem dX1_become_73 : decode cX1_become 73 = .ok (.iconst 1, 1) := by decide +kernel
theorem dX1_become_74 : decode cX1_become 74 = .ok (.isub, 1) := by decide +kernel
theorem dX1_become_75 : decode cX1_become 75 = .ok (.aload_n 0, 1) := by decide +kernel
theorem dX1_become_76 : decode cX1_become 76 = .ok (.getfield 29, 3) := by decide +kernel
theorem dX1_become_79 : decode cX1_become 79 = .ok (.iload 6, 2) := by decide +kernel
theorem dX1_become_81 : decode cX1_become 81 = .ok (.iaload, 1) := by decide +kernel
theorem dX1_become_82 : decode cX1_become 82 = .ok (.iastore, 1) := by decide +kernel
theorem dX1_become_83 : decode cX1_become 83 = .ok (.iinc 6 1, 3) := by decide +kernel
theorem dX1_become_86 : decode cX1_become 86 = .ok (.goto (-74), 3) := by decide +kernel
theorem dX1_become_89 : decode cX1_become 89 = .ok (.aload_n 0, 1) := by decide +kernel
theorem dX1_become_90 : decode cX1_become 90 = .ok (.dup, 1) := by decide +kernel
theorem dX1_become_91 : decode cX1_become 91 = .ok (.getfield 32, 3) := by decide +kernel
theorem dX1_become_94 : decode cX1_become 94 = .ok (.iconst 1, 1) := by decide +kernel
theorem dX1_become_95 : decode cX1_become 95 = .ok (.isub, 1) := by decide +kernel
theorem dX1_become_96 : decode cX1_become 96 = .ok (.putfield 32, 3) := by decide +kernel
theorem dX1_become_99 : decode cX1_become 99 = .ok (.aload_n 0, 1) := by decide +kernel
theorem dX1_become_100 : decode cX1_become 100 = .ok (.getfield 20, 3) := by decide +kernel
theorem dX1_become_103 : decode cX1_become 103 = .ok (.aload_n 0, 1) := by decide +kernel
theorem dX1_become_104 : decode cX1_become 104 = .ok (.getfield 32, 3) := by decide +kernel
theorem dX1_become_107 : decode cX1_become 107 = .ok (.iload_n 1, 1) := by decide +kernel
theorem dX1_become_108 : decode cX1_become 108 = .ok (.iastore, 1) := by decide +kernel
theorem dX1_become_109 : decode cX1_become 109 = .ok (.aload_n 0, 1) := by decide +kernel
theorem dX1_become_110 : decode cX1_become 110 = .ok (.getfield 23, 3) := by decide +kernel
theorem dX1_become_113 : decode cX1_become 113 = .ok (.aload_n 0, 1) := by decide +kernel
theorem dX1_become_114 : decode cX1_become 114 = .ok (.getfield 32, 3) := by decide +kernel
theorem dX1_become_117 : decode cX1_become 117 = .ok (.aload_n 0, 1) := by decide +kernel
theorem dX1_become_118 : decode cX1_become 118 = .ok (.getfield 9, 3) := by decide +kernel
theorem dX1_become_121 : decode cX1_become 121 = .ok (.iload_n 1, 1) := by decide +kernel
theorem dX1_become_122 : decode cX1_become 122 = .ok (.iaload, 1) := by decide +kernel
theorem dX1_become_123 : decode cX1_become 123 = .ok (.iastore, 1) := by decide +kernel
theorem dX1_become_124 : decode cX1_become 124 = .ok (.aload_n 0, 1) := by decide +kernel
theorem dX1_become_125 : decode cX1_become 125 = .ok (.getfield 26, 3) := by decide +kernel
theorem dX1_become_128 : decode cX1_become 128 = .ok (.aload_n 0, 1) := by decide +kernel
theorem dX1_become_129 : decode cX1_become 129 = .ok (.getfield 32, 3) := by decide +kernel
theorem dX1_become_132 : decode cX1_become 132 = .ok (.aload_n 0, 1) := by decide +kernel
theorem dX1_become_133 : decode cX1_become 133 = .ok (.getfield 13, 3) := by decide +kernel
theorem dX1_become_136 : decode cX1_become 136 = .ok (.iload_n 1, 1) := by decide +kernel
theorem dX1_become_137 : decode cX1_become 137 = .ok (.laload, 1) := by decide +kernel
theorem dX1_become_138 : decode cX1_become 138 = .ok (.lastore, 1) := by decide +kernel
theorem dX1_become_139 : decode cX1_become 139 = .ok (.aload_n 0, 1) := by decide +kernel
theorem dX1_become_140 : decode cX1_become 140 = .ok (.getfield 29, 3) := by decide +kernel
theorem dX1_become_143 : decode cX1_become 143 = .ok (.aload_n 0, 1) := by decide +kernel
theorem dX1_become_144 : decode cX1_become 144 = .ok (.getfield 32, 3) := by decide +kernel
theorem dX1_become_147 : decode cX1_become 147 = .ok (.aload_n 0, 1) := by decide +kernel
theorem dX1_become_148 : decode cX1_become 148 = .ok (.getfield 17, 3) := by decide +kernel
theorem dX1_become_151 : decode cX1_become 151 = .ok (.iload_n 1, 1) := by decide +kernel
theorem dX1_become_152 : decode cX1_become 152 = .ok (.iaload, 1) := by decide +kernel
theorem dX1_become_153 : decode cX1_become 153 = .ok (.iastore, 1) := by decide +kernel
theorem dX1_become_154 : decode cX1_become 154 = .ok (.aload_n 0, 1) := by decide +kernel
theorem dX1_become_155 : decode cX1_become 155 = .ok (.dup, 1) := by decide +kernel
theorem dX1_become_156 : decode cX1_become 156 = .ok (.getfield 32, 3) := by decide +kernel
theorem dX1_become_159 : decode cX1_become 159 = .ok (.iconst 1, 1) := by decide +kernel
theorem dX1_become_160 : decode cX1_become 160 = .ok (.iadd, 1) := by decide +kernel
theorem dX1_become_161 : decode cX1_become 161 = .ok (.putfield 32, 3) := by decide +kernel
theorem dX1_become_164 : decode cX1_become 164 = .ok (.aload_n 0, 1) := by decide +kernel
theorem dX1_become_165 : decode cX1_become 165 = .ok (.getfield 9, 3) := by decide +kernel
theorem dX1_become_168 : decode cX1_become 168 = .ok (.iload_n 1, 1) := by decide +kernel
theorem dX1_become_169 : decode cX1_become 169 = .ok (.iload_n 2, 1) := by decide +kernel
theorem dX1_become_170 : decode cX1_become 170 = .ok (.iastore, 1) := by decide +kernel
theorem dX1_become_171 : decode cX1_become 171 = .ok (.aload_n 0, 1) := by decide +kernel
theorem dX1_become_172 : decode cX1_become 172 = .ok (.getfield 13, 3) := by decide +kernel
theorem dX1_become_175 : decode cX1_become 175 = .ok (.iload_n 1, 1) := by decide +kernel
theorem dX1_become_176 : decode cX1_become 176 = .ok (.lload_n 3, 1) := by decide +kernel
theorem dX1_become_177 : decode cX1_become 177 = .ok (.lastore, 1) := by decide +kernel
theorem dX1_become_178 : decode cX1_become 178 = .ok (.aload_n 0, 1) := by decide +kernel
theorem dX1_become_179 : decode cX1_become 179 = .ok (.getfield 17, 3) := by decide +kernel
theorem dX1_become_182 : decode cX1_become 182 = .ok (.iload_n 1, 1) := by decide +kernel
theorem dX1_become_183 : decode cX1_become 183 = .ok (.iload 5, 2) := by decide +kernel
theorem dX1_become_185 : decode cX1_become 185 = .ok (.iastore, 1) := by decide +kernel
theorem dX1_become_186 : decode cX1_become 186 = .ok (.iload 5, 2) := by decide +kernel
theorem dX1_become_188 : decode cX1_become 188 = .ok (.ireturn, 1) := by decide +kernel
set_option maxRecDepth 20000 in
theorem ggX1_isNear_X1_lengthOf : GoodIn wsX1_isNear wsX1_lengthOf := goodIn_r _ [6, 7] (by decide +kernel) (by decide +kernel)
set_option maxRecDepth 20000 in
theorem gX1_isNear_X1_lengthOf : GoodIn wsX1_isNear (va_wsS RX1 45 yX1_lengthOf wsX1_lengthOf) := goodIn_app (goodIn_of _ (by decide +kernel)) ggX1_isNear_X1_lengthOf
theorem dX1_isNear_0 : decode cX1_isNear 0 = .ok (.aload_n 0, 1) := by decide +kernel
theorem dX1_isNear_1 : decode cX1_isNear 1 = .ok (.getfield 17, 3) := by decide +kernel
theorem dX1_isNear_4 : decode cX1_isNear 4 = .ok (.iload_n 1, 1) := by decide +kernel
theorem dX1_isNear_5 : decode cX1_isNear 5 = .ok (.iaload, 1) := by decide +kernel
theorem dX1_isNear_6 : decode cX1_isNear 6 = .ok (.ifCond .lt 28, 3) := by decide +kernel
theorem dX1_isNear_9 : decode cX1_isNear 9 = .ok (.aload_n 0, 1) := by decide +kernel
theorem dX1_isNear_10 : decode cX1_isNear 10 = .ok (.getfield 13, 3) := by decide +kernel
theorem dX1_isNear_13 : decode cX1_isNear 13 = .ok (.iload_n 1, 1) := by decide +kernel
theorem dX1_isNear_14 : decode cX1_isNear 14 = .ok (.laload, 1) := by decide +kernel
theorem dX1_isNear_15 : decode cX1_isNear 15 = .ok (.invokestatic 45, 3) := by decide +kernel
theorem dX1_isNear_18 : decode cX1_isNear 18 = .ok (.aload_n 0, 1) := by decide +kernel
theorem dX1_isNear_19 : decode cX1_isNear 19 = .ok (.getfield 17, 3) := by decide +kernel
theorem dX1_isNear_22 : decode cX1_isNear 22 = .ok (.iload_n 1, 1) := by decide +kernel
theorem dX1_isNear_23 : decode cX1_isNear 23 = .ok (.iaload, 1) := by decide +kernel
theorem dX1_isNear_24 : decode cX1_isNear 24 = .ok (.iadd, 1) := by decide +kernel
theorem dX1_isNear_25 : decode cX1_isNear 25 = .ok (.bipush 53, 2) := by decide +kernel
theorem dX1_isNear_27 : decode cX1_isNear 27 = .ok (.if_icmp .gt 7, 3) := by decide +kernel
theorem dX1_isNear_30 : decode cX1_isNear 30 = .ok (.iconst 1, 1) := by decide +kernel
theorem dX1_isNear_31 : decode cX1_isNear 31 = .ok (.goto 4, 3) := by decide +kernel
theorem dX1_isNear_34 : decode cX1_isNear 34 = .ok (.iconst 0, 1) := by decide +kernel
theorem dX1_isNear_35 : decode cX1_isNear 35 = .ok (.ireturn, 1) := by decide +kernel
theorem dX1_sizeOf_0 : decode cX1_sizeOf 0 = .ok (.aload_n 0, 1) := by decide +kernel
theorem dX1_sizeOf_1 : decode cX1_sizeOf 1 = .ok (.getfield 13, 3) := by decide +kernel
theorem dX1_sizeOf_4 : decode cX1_sizeOf 4 = .ok (.iload_n 1, 1) := by decide +kernel
theorem dX1_sizeOf_5 : decode cX1_sizeOf 5 = .ok (.laload, 1) := by decide +kernel
theorem dX1_sizeOf_6 : decode cX1_sizeOf 6 = .ok (.aload_n 0, 1) := by decide +kernel
theorem dX1_sizeOf_7 : decode cX1_sizeOf 7 = .ok (.getfield 17, 3) := by decide +kernel
theorem dX1_sizeOf_10 : decode cX1_sizeOf 10 = .ok (.iload_n 1, 1) := by decide +kernel
theorem dX1_sizeOf_11 : decode cX1_sizeOf 11 = .ok (.iaload, 1) := by decide +kernel
theorem dX1_sizeOf_12 : decode cX1_sizeOf 12 = .ok (.lshl, 1) := by decide +kernel
theorem dX1_sizeOf_13 : decode cX1_sizeOf 13 = .ok (.lreturn, 1) := by decide +kernel
set_option maxRecDepth 20000 in
theorem ggX1_put_X1_isSlot : GoodIn wsX1_put wsX1_isSlot := goodIn_r _ [7] (by decide +kernel) (by decide +kernel)
set_option maxRecDepth 20000 in
theorem gX1_put_X1_isSlot : GoodIn wsX1_put (va_wsS RX1 70 yX1_isSlot wsX1_isSlot) := goodIn_app (goodIn_of _ (by decide +kernel)) ggX1_put_X1_isSlot
set_option maxRecDepth 20000 in
theorem ggX1_put_X1_no : GoodIn wsX1_put wsX1_no := goodIn_r _ [11, 12, 44, 45, 46, 47, 48, 49, 50, 51, 52, 53, 54, 55] (by decide +kernel) (by decide +kernel)
set_option maxRecDepth 20000 in
theorem gX1_put_X1_no : GoodIn wsX1_put (wsV RX1 74 RX1 yX1_no wsX1_no) := goodIn_app (goodIn_of _ (by decide +kernel)) ggX1_put_X1_no
set_option maxRecDepth 20000 in
theorem ggX1_put_X1_isBase : GoodIn wsX1_put wsX1_isBase := goodIn_r _ [15, 16, 17, 6, 18] (by decide +kernel) (by decide +kernel)
set_option maxRecDepth 20000 in
theorem gX1_put_X1_isBase : GoodIn wsX1_put (va_wsS RX1 78 yX1_isBase wsX1_isBase) := goodIn_app (goodIn_of _ (by decide +kernel)) ggX1_put_X1_isBase
set_option maxRecDepth 20000 in
theorem ggX1_put_X1_isTold_ : GoodIn wsX1_put wsX1_isTold_ := goodIn_ca (goodIn_r _ [22, 23, 24, 6, 25, 26, 27, 28, 29, 30, 1, 2, 3, 31, 44, 45, 46, 47, 48, 49, 50, 51, 52, 53, 54, 55] (by decide +kernel) (by decide +kernel)) (goodIn_sub (fun _ h => List.mem_cons_of_mem _ (List.mem_append_left _ (List.mem_append_right _ h))) (by decide +kernel))
set_option maxRecDepth 20000 in
theorem gX1_put_X1_isTold_ : GoodIn wsX1_put (wsV RX1 81 RX1 yX1_isTold_ wsX1_isTold_) := goodIn_app (goodIn_of _ (by decide +kernel)) ggX1_put_X1_isTold_
set_option maxRecDepth 20000 in
theorem ggX1_put_X1_become : GoodIn wsX1_put wsX1_become := goodIn_ca (goodIn_r _ [35, 36, 37, 38, 39, 40, 41, 42, 43, 44, 45, 46, 47, 48, 49, 50, 51, 52, 53, 54, 55] (by decide +kernel) (by decide +kernel)) (goodIn_sub (fun _ h => List.mem_cons_of_mem _ (List.mem_append_right _ h)) (by decide +kernel))
set_option maxRecDepth 20000 in
theorem gX1_put_X1_become : GoodIn wsX1_put (wsV RX1 84 RX1 yX1_become wsX1_become) := goodIn_app (goodIn_of _ (by decide +kernel)) ggX1_put_X1_become
theorem dX1_put_0 : decode cX1_put 0 = .ok (.aload_n 0, 1) := by decide +kernel
theorem dX1_put_1 : decode cX1_put 1 = .ok (.iload_n 1, 1) := by decide +kernel
theorem dX1_put_2 : decode cX1_put 2 = .ok (.invokestatic 70, 3) := by decide +kernel
theorem dX1_put_5 : decode cX1_put 5 = .ok (.iconst 1, 1) := by decide +kernel
theorem dX1_put_6 : decode cX1_put 6 = .ok (.invokevirtual 74, 3) := by decide +kernel
theorem dX1_put_9 : decode cX1_put 9 = .ok (.ifCond .ne 15, 3) := by decide +kernel
theorem dX1_put_12 : decode cX1_put 12 = .ok (.aload_n 0, 1) := by decide +kernel
theorem dX1_put_13 : decode cX1_put 13 = .ok (.iload_n 2, 1) := by decide +kernel
theorem dX1_put_14 : decode cX1_put 14 = .ok (.invokestatic 78, 3) := by decide +kernel
theorem dX1_put_17 : decode cX1_put 17 = .ok (.iconst 2, 1) := by decide +kernel
theorem dX1_put_18 : decode cX1_put 18 = .ok (.invokevirtual 74, 3) := by decide +kernel
theorem dX1_put_21 : decode cX1_put 21 = .ok (.ifCond .eq 5, 3) := by decide +kernel
theorem dX1_put_24 : decode cX1_put 24 = .ok (.iconst 0, 1) := by decide +kernel
theorem dX1_put_25 : decode cX1_put 25 = .ok (.ireturn, 1) := by decide +kernel
theorem dX1_put_26 : decode cX1_put 26 = .ok (.aload_n 0, 1) := by decide +kernel
theorem dX1_put_27 : decode cX1_put 27 = .ok (.iload_n 2, 1) := by decide +kernel
theorem dX1_put_28 : decode cX1_put 28 = .ok (.iconst 1, 1) := by decide +kernel
theorem dX1_put_29 : decode cX1_put 29 = .ok (.invokevirtual 81, 3) := by decide +kernel
theorem dX1_put_32 : decode cX1_put 32 = .ok (.pop, 1) := by decide +kernel
theorem dX1_put_33 : decode cX1_put 33 = .ok (.aload_n 0, 1) := by decide +kernel
theorem dX1_put_34 : decode cX1_put 34 = .ok (.iload_n 1, 1) := by decide +kernel
theorem dX1_put_35 : decode cX1_put 35 = .ok (.aload_n 0, 1) := by decide +kernel
theorem dX1_put_36 : decode cX1_put 36 = .ok (.getfield 51, 3) := by decide +kernel
theorem dX1_put_39 : decode cX1_put 39 = .ok (.aload_n 0, 1) := by decide +kernel
theorem dX1_put_40 : decode cX1_put 40 = .ok (.getfield 54, 3) := by decide +kernel
theorem dX1_put_43 : decode cX1_put 43 = .ok (.aload_n 0, 1) := by decide +kernel
theorem dX1_put_44 : decode cX1_put 44 = .ok (.getfield 58, 3) := by decide +kernel
theorem dX1_put_47 : decode cX1_put 47 = .ok (.invokevirtual 84, 3) := by decide +kernel
theorem dX1_put_50 : decode cX1_put 50 = .ok (.ireturn, 1) := by decide +kernel

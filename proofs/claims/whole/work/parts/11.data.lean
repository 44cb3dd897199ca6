theorem wd_79aa8a7f : Cond.fieldLink R_D 21 R_D "length" "I" ∈ kGW := kGW_of (List.mem_of_getElem? (i := 155) (by decide +kernel)) (by decide)
theorem wd_ce39cd87 : Cond.fieldLink R_D 9 R_D "bytes" "[B" ∈ kGW := kGW_of (List.mem_of_getElem? (i := 153) (by decide +kernel)) (by decide)
theorem wd_fb519b57 : Cond.constantLong R_D 29 255 ∈ kGW := kGW_of (List.mem_of_getElem? (i := 651) (by decide +kernel)) (by decide)
theorem wd_8f22ca7e : Cond.methodLink R_D 31 y_D_signed ∈ kGW := kGW_of (List.mem_of_getElem? (i := 647) (by decide +kernel)) (by decide)
theorem wd_7011ba01 : Cond.constant R_D 35 65535 ∈ kGW := kGW_of (List.mem_of_getElem? (i := 709) (by decide +kernel)) (by decide)
theorem wd_91e33244 : Cond.constantLong R_D 36 4294967295 ∈ kGW := kGW_of (List.mem_of_getElem? (i := 686) (by decide +kernel)) (by decide)
theorem wd_43395c94 : Cond.constantLong R_D 38 100000 ∈ kGW := kGW_of (List.mem_of_getElem? (i := 687) (by decide +kernel)) (by decide)
theorem wd_97beef25 : Cond.methodLink R_D 40 Lib.MathLoose.min_long.x ∈ kGW := kGW_of (List.mem_of_getElem? (i := 688) (by decide +kernel)) (by decide)
theorem wd_07670a37 : Cond.static Lib.MathLoose.min_long.x ∈ kGW := kGW_of (List.mem_of_getElem? (i := 689) (by decide +kernel)) (by decide)
theorem wd_868a9286 : Cond.initialized "java/lang/Math" ∈ kGW := kGW_of (List.mem_of_getElem? (i := 64) (by decide +kernel)) (by decide)
set_option maxRecDepth 20000 in
theorem wd_c0acf8a6 : Cond.code Lib.MathLoose.min_long.x Lib.MathLoose.min_long.code 4 (some .long) ∈ kGW := kGW_of (List.mem_of_getElem? (i := 690) (by rfl)) (by decide)
theorem wd_543e84f8 : Cond.methodLink R_D 46 y_D_capped ∈ kGW := kGW_of (List.mem_of_getElem? (i := 727) (by decide +kernel)) (by decide)
theorem wd_12bcba38 : Cond.methodLink R_D 50 y_D_unsignedShort ∈ kGW := kGW_of (List.mem_of_getElem? (i := 719) (by decide +kernel)) (by decide)
theorem wd_09caabb7 : Cond.methodLink R_D 25 y_D_holds ∈ kGW := kGW_of (List.mem_of_getElem? (i := 663) (by decide +kernel)) (by decide)
set_option maxRecDepth 20000 in
theorem wd_52928b58 : Cond.code y_D_holds b_D_holds 2 (some .boolean) ∈ kGW := kGW_of (List.mem_of_getElem? (i := 642) (by rfl)) (by decide)
theorem wd_13e0721a : Cond.initialized R_D ∈ kGW := kGW_of (List.mem_of_getElem? (i := 51) (by decide +kernel)) (by decide)
theorem wd_ee4015d3 : Cond.instanceMethod y_D_holds ∈ kGW := kGW_of (List.mem_of_getElem? (i := 640) (by decide +kernel)) (by decide)
theorem wd_b2209d72 : Cond.selects R_D y_D_holds y_D_holds ∈ kGW := kGW_of (List.mem_of_getElem? (i := 641) (by decide +kernel)) (by decide)
set_option maxRecDepth 20000 in
theorem wd_1551ce98 : Cond.code y_D_signed b_D_signed 7 (some .long) ∈ kGW := kGW_of (List.mem_of_getElem? (i := 650) (by rfl)) (by decide)
theorem wd_692ee8d8 : Cond.instanceMethod y_D_signed ∈ kGW := kGW_of (List.mem_of_getElem? (i := 648) (by decide +kernel)) (by decide)
theorem wd_ed610780 : Cond.selects R_D y_D_signed y_D_signed ∈ kGW := kGW_of (List.mem_of_getElem? (i := 649) (by decide +kernel)) (by decide)
set_option maxRecDepth 20000 in
theorem wd_333b2953 : Cond.code y_D_unsignedByte b_D_unsignedByte 2 (some .int) ∈ kGW := kGW_of (List.mem_of_getElem? (i := 646) (by rfl)) (by decide)
theorem wd_c6100b48 : Cond.instanceMethod y_D_unsignedByte ∈ kGW := kGW_of (List.mem_of_getElem? (i := 644) (by decide +kernel)) (by decide)
theorem wd_165a762c : Cond.selects R_D y_D_unsignedByte y_D_unsignedByte ∈ kGW := kGW_of (List.mem_of_getElem? (i := 645) (by decide +kernel)) (by decide)
set_option maxRecDepth 20000 in
theorem wd_e4e34adb : Cond.code y_D_unsignedShort b_D_unsignedShort 2 (some .int) ∈ kGW := kGW_of (List.mem_of_getElem? (i := 708) (by rfl)) (by decide)
theorem wd_996266d0 : Cond.instanceMethod y_D_unsignedShort ∈ kGW := kGW_of (List.mem_of_getElem? (i := 706) (by decide +kernel)) (by decide)
theorem wd_2355672c : Cond.selects R_D y_D_unsignedShort y_D_unsignedShort ∈ kGW := kGW_of (List.mem_of_getElem? (i := 707) (by decide +kernel)) (by decide)
set_option maxRecDepth 20000 in
theorem wd_76664a79 : Cond.code y_D_capped b_D_capped 4 (some .int) ∈ kGW := kGW_of (List.mem_of_getElem? (i := 685) (by rfl)) (by decide)
theorem wd_f187d8d5 : Cond.instanceMethod y_D_capped ∈ kGW := kGW_of (List.mem_of_getElem? (i := 683) (by decide +kernel)) (by decide)
theorem wd_45cf2808 : Cond.selects R_D y_D_capped y_D_capped ∈ kGW := kGW_of (List.mem_of_getElem? (i := 684) (by decide +kernel)) (by decide)
set_option maxRecDepth 20000 in
theorem wd_fba5a60b : Cond.code y_D_target b_D_target 2 (some .int) ∈ kGW := kGW_of (List.mem_of_getElem? (i := 726) (by rfl)) (by decide)
theorem wd_f5fd79e0 : Cond.instanceMethod y_D_target ∈ kGW := kGW_of (List.mem_of_getElem? (i := 724) (by decide +kernel)) (by decide)
theorem wd_4b3c5285 : Cond.selects R_D y_D_target y_D_target ∈ kGW := kGW_of (List.mem_of_getElem? (i := 725) (by decide +kernel)) (by decide)
set_option maxRecDepth 20000 in
theorem wd_2dc59464 : Cond.code y_D_offsetsOf b_D_offsetsOf 2 (some .long) ∈ kGW := kGW_of (List.mem_of_getElem? (i := 698) (by rfl)) (by decide)
theorem wd_12b1d209 : Cond.instanceMethod y_D_offsetsOf ∈ kGW := kGW_of (List.mem_of_getElem? (i := 696) (by decide +kernel)) (by decide)
theorem wd_0b6ba519 : Cond.selects R_D y_D_offsetsOf y_D_offsetsOf ∈ kGW := kGW_of (List.mem_of_getElem? (i := 697) (by decide +kernel)) (by decide)
set_option maxRecDepth 20000 in
theorem wd_5414f652 : Cond.code y_D_offsetOf b_D_offsetOf 4 (some .int) ∈ kGW := kGW_of (List.mem_of_getElem? (i := 718) (by rfl)) (by decide)
theorem wd_c44d3f74 : Cond.instanceMethod y_D_offsetOf ∈ kGW := kGW_of (List.mem_of_getElem? (i := 716) (by decide +kernel)) (by decide)
theorem wd_0d0c67d4 : Cond.selects R_D y_D_offsetOf y_D_offsetOf ∈ kGW := kGW_of (List.mem_of_getElem? (i := 717) (by decide +kernel)) (by decide)
set_option maxRecDepth 20000 in
theorem wd_d4b3bdcc : Cond.code y_D_put b_D_put 3 none ∈ kGW := kGW_of (List.mem_of_getElem? (i := 662) (by rfl)) (by decide)
theorem wd_efed5875 : Cond.instanceMethod y_D_put ∈ kGW := kGW_of (List.mem_of_getElem? (i := 660) (by decide +kernel)) (by decide)
theorem wd_29f968a4 : Cond.selects R_D y_D_put y_D_put ∈ kGW := kGW_of (List.mem_of_getElem? (i := 661) (by decide +kernel)) (by decide)
theorem d_D_holds_0 : decode b_D_holds 0 = .ok (.iload_n 1, 1) := by decide +kernel
theorem d_D_holds_1 : decode b_D_holds 1 = .ok (.ifCond .lt 15, 3) := by decide +kernel
theorem d_D_holds_4 : decode b_D_holds 4 = .ok (.iload_n 1, 1) := by decide +kernel
theorem d_D_holds_5 : decode b_D_holds 5 = .ok (.aload_n 0, 1) := by decide +kernel
theorem d_D_holds_6 : decode b_D_holds 6 = .ok (.getfield 21, 3) := by decide +kernel
theorem d_D_holds_9 : decode b_D_holds 9 = .ok (.if_icmp .ge 7, 3) := by decide +kernel
theorem d_D_holds_12 : decode b_D_holds 12 = .ok (.iconst 1, 1) := by decide +kernel
theorem d_D_holds_13 : decode b_D_holds 13 = .ok (.goto 4, 3) := by decide +kernel
theorem d_D_holds_16 : decode b_D_holds 16 = .ok (.iconst 0, 1) := by decide +kernel
theorem d_D_holds_17 : decode b_D_holds 17 = .ok (.ireturn, 1) := by decide +kernel
theorem d_D_signed_0 : decode b_D_signed 0 = .ok (.lconst 0, 1) := by decide +kernel
theorem d_D_signed_1 : decode b_D_signed 1 = .ok (.lstore_n 3, 1) := by decide +kernel
theorem d_D_signed_2 : decode b_D_signed 2 = .ok (.iconst 0, 1) := by decide +kernel
theorem d_D_signed_3 : decode b_D_signed 3 = .ok (.istore 5, 2) := by decide +kernel
theorem d_D_signed_5 : decode b_D_signed 5 = .ok (.iload 5, 2) := by decide +kernel
theorem d_D_signed_7 : decode b_D_signed 7 = .ok (.iload_n 2, 1) := by decide +kernel
theorem d_D_signed_8 : decode b_D_signed 8 = .ok (.if_icmp .ge 50, 3) := by decide +kernel
theorem d_D_signed_11 : decode b_D_signed 11 = .ok (.iload_n 1, 1) := by decide +kernel
theorem d_D_signed_12 : decode b_D_signed 12 = .ok (.iload 5, 2) := by decide +kernel
theorem d_D_signed_14 : decode b_D_signed 14 = .ok (.iadd, 1) := by decide +kernel
theorem d_D_signed_15 : decode b_D_signed 15 = .ok (.istore 6, 2) := by decide +kernel
theorem d_D_signed_17 : decode b_D_signed 17 = .ok (.iload 6, 2) := by decide +kernel
theorem d_D_signed_19 : decode b_D_signed 19 = .ok (.ifCond .lt 33, 3) := by decide +kernel
theorem d_D_signed_22 : decode b_D_signed 22 = .ok (.iload 6, 2) := by decide +kernel
theorem d_D_signed_24 : decode b_D_signed 24 = .ok (.aload_n 0, 1) := by decide +kernel
theorem d_D_signed_25 : decode b_D_signed 25 = .ok (.getfield 21, 3) := by decide +kernel
theorem d_D_signed_28 : decode b_D_signed 28 = .ok (.if_icmp .ge 24, 3) := by decide +kernel
theorem d_D_signed_31 : decode b_D_signed 31 = .ok (.lload_n 3, 1) := by decide +kernel
theorem d_D_signed_32 : decode b_D_signed 32 = .ok (.aload_n 0, 1) := by decide +kernel
theorem d_D_signed_33 : decode b_D_signed 33 = .ok (.getfield 9, 3) := by decide +kernel
theorem d_D_signed_36 : decode b_D_signed 36 = .ok (.iload 6, 2) := by decide +kernel
theorem d_D_signed_38 : decode b_D_signed 38 = .ok (.baload, 1) := by decide +kernel
theorem d_D_signed_39 : decode b_D_signed 39 = .ok (.i2l, 1) := by decide +kernel
theorem d_D_signed_40 : decode b_D_signed 40 = .ok (.ldc2_w 29, 3) := by decide +kernel
theorem d_D_signed_43 : decode b_D_signed 43 = .ok (.land, 1) := by decide +kernel
theorem d_D_signed_44 : decode b_D_signed 44 = .ok (.bipush 8, 2) := by decide +kernel
theorem d_D_signed_46 : decode b_D_signed 46 = .ok (.iload 5, 2) := by decide +kernel
theorem d_D_signed_48 : decode b_D_signed 48 = .ok (.imul, 1) := by decide +kernel
theorem d_D_signed_49 : decode b_D_signed 49 = .ok (.lshl, 1) := by decide +kernel
theorem d_D_signed_50 : decode b_D_signed 50 = .ok (.lor, 1) := by decide +kernel
theorem d_D_signed_51 : decode b_D_signed 51 = .ok (.lstore_n 3, 1) := by decide +kernel
theorem d_D_signed_52 : decode b_D_signed 52 = .ok (.iinc 5 1, 3) := by decide +kernel
theorem d_D_signed_55 : decode b_D_signed 55 = .ok (.goto (-50), 3) := by decide +kernel
theorem d_D_signed_58 : decode b_D_signed 58 = .ok (.bipush 64, 2) := by decide +kernel
theorem d_D_signed_60 : decode b_D_signed 60 = .ok (.bipush 8, 2) := by decide +kernel
theorem d_D_signed_62 : decode b_D_signed 62 = .ok (.iload_n 2, 1) := by decide +kernel
theorem d_D_signed_63 : decode b_D_signed 63 = .ok (.imul, 1) := by decide +kernel
theorem d_D_signed_64 : decode b_D_signed 64 = .ok (.isub, 1) := by decide +kernel
theorem d_D_signed_65 : decode b_D_signed 65 = .ok (.istore 5, 2) := by decide +kernel
theorem d_D_signed_67 : decode b_D_signed 67 = .ok (.lload_n 3, 1) := by decide +kernel
theorem d_D_signed_68 : decode b_D_signed 68 = .ok (.iload 5, 2) := by decide +kernel
theorem d_D_signed_70 : decode b_D_signed 70 = .ok (.lshl, 1) := by decide +kernel
theorem d_D_signed_71 : decode b_D_signed 71 = .ok (.iload 5, 2) := by decide +kernel
theorem d_D_signed_73 : decode b_D_signed 73 = .ok (.lshr, 1) := by decide +kernel
theorem d_D_signed_74 : decode b_D_signed 74 = .ok (.lreturn, 1) := by decide +kernel
theorem d_D_unsignedByte_0 : decode b_D_unsignedByte 0 = .ok (.aload_n 0, 1) := by decide +kernel
theorem d_D_unsignedByte_1 : decode b_D_unsignedByte 1 = .ok (.iload_n 1, 1) := by decide +kernel
theorem d_D_unsignedByte_2 : decode b_D_unsignedByte 2 = .ok (.iconst 1, 1) := by decide +kernel
theorem d_D_unsignedByte_3 : decode b_D_unsignedByte 3 = .ok (.invokevirtual 31, 3) := by decide +kernel
theorem d_D_unsignedByte_6 : decode b_D_unsignedByte 6 = .ok (.l2i, 1) := by decide +kernel
theorem d_D_unsignedByte_7 : decode b_D_unsignedByte 7 = .ok (.sipush 255, 3) := by decide +kernel
theorem d_D_unsignedByte_10 : decode b_D_unsignedByte 10 = .ok (.iand, 1) := by decide +kernel
theorem d_D_unsignedByte_11 : decode b_D_unsignedByte 11 = .ok (.ireturn, 1) := by decide +kernel
theorem d_D_unsignedShort_0 : decode b_D_unsignedShort 0 = .ok (.aload_n 0, 1) := by decide +kernel
theorem d_D_unsignedShort_1 : decode b_D_unsignedShort 1 = .ok (.iload_n 1, 1) := by decide +kernel
theorem d_D_unsignedShort_2 : decode b_D_unsignedShort 2 = .ok (.iconst 2, 1) := by decide +kernel
theorem d_D_unsignedShort_3 : decode b_D_unsignedShort 3 = .ok (.invokevirtual 31, 3) := by decide +kernel
theorem d_D_unsignedShort_6 : decode b_D_unsignedShort 6 = .ok (.l2i, 1) := by decide +kernel
theorem d_D_unsignedShort_7 : decode b_D_unsignedShort 7 = .ok (.ldc 35, 2) := by decide +kernel
theorem d_D_unsignedShort_9 : decode b_D_unsignedShort 9 = .ok (.iand, 1) := by decide +kernel
theorem d_D_unsignedShort_10 : decode b_D_unsignedShort 10 = .ok (.ireturn, 1) := by decide +kernel
theorem d_D_capped_0 : decode b_D_capped 0 = .ok (.aload_n 0, 1) := by decide +kernel
theorem d_D_capped_1 : decode b_D_capped 1 = .ok (.iload_n 1, 1) := by decide +kernel
theorem d_D_capped_2 : decode b_D_capped 2 = .ok (.iconst 4, 1) := by decide +kernel
theorem d_D_capped_3 : decode b_D_capped 3 = .ok (.invokevirtual 31, 3) := by decide +kernel
theorem d_D_capped_6 : decode b_D_capped 6 = .ok (.ldc2_w 36, 3) := by decide +kernel
theorem d_D_capped_9 : decode b_D_capped 9 = .ok (.land, 1) := by decide +kernel
theorem d_D_capped_10 : decode b_D_capped 10 = .ok (.lstore_n 2, 1) := by decide +kernel
theorem d_D_capped_11 : decode b_D_capped 11 = .ok (.lload_n 2, 1) := by decide +kernel
theorem d_D_capped_12 : decode b_D_capped 12 = .ok (.ldc2_w 38, 3) := by decide +kernel
theorem d_D_capped_15 : decode b_D_capped 15 = .ok (.invokestatic 40, 3) := by decide +kernel
theorem d_D_capped_18 : decode b_D_capped 18 = .ok (.l2i, 1) := by decide +kernel
theorem d_D_capped_19 : decode b_D_capped 19 = .ok (.ireturn, 1) := by decide +kernel
theorem d_D_target_0 : decode b_D_target 0 = .ok (.iload_n 1, 1) := by decide +kernel
theorem d_D_target_1 : decode b_D_target 1 = .ok (.aload_n 0, 1) := by decide +kernel
theorem d_D_target_2 : decode b_D_target 2 = .ok (.iload_n 1, 1) := by decide +kernel
theorem d_D_target_3 : decode b_D_target 3 = .ok (.invokevirtual 46, 3) := by decide +kernel
theorem d_D_target_6 : decode b_D_target 6 = .ok (.iadd, 1) := by decide +kernel
theorem d_D_target_7 : decode b_D_target 7 = .ok (.ireturn, 1) := by decide +kernel
theorem d_D_offsetsOf_0 : decode b_D_offsetsOf 0 = .ok (.iload_n 1, 1) := by decide +kernel
theorem d_D_offsetsOf_1 : decode b_D_offsetsOf 1 = .ok (.i2l, 1) := by decide +kernel
theorem d_D_offsetsOf_2 : decode b_D_offsetsOf 2 = .ok (.aload_n 0, 1) := by decide +kernel
theorem d_D_offsetsOf_3 : decode b_D_offsetsOf 3 = .ok (.iload_n 1, 1) := by decide +kernel
theorem d_D_offsetsOf_4 : decode b_D_offsetsOf 4 = .ok (.iconst 4, 1) := by decide +kernel
theorem d_D_offsetsOf_5 : decode b_D_offsetsOf 5 = .ok (.invokevirtual 31, 3) := by decide +kernel
theorem d_D_offsetsOf_8 : decode b_D_offsetsOf 8 = .ok (.lsub, 1) := by decide +kernel
theorem d_D_offsetsOf_9 : decode b_D_offsetsOf 9 = .ok (.lreturn, 1) := by decide +kernel
theorem d_D_offsetOf_0 : decode b_D_offsetOf 0 = .ok (.iconst 4, 1) := by decide +kernel
theorem d_D_offsetOf_1 : decode b_D_offsetOf 1 = .ok (.iconst 2, 1) := by decide +kernel
theorem d_D_offsetOf_2 : decode b_D_offsetOf 2 = .ok (.iload_n 2, 1) := by decide +kernel
theorem d_D_offsetOf_3 : decode b_D_offsetOf 3 = .ok (.imul, 1) := by decide +kernel
theorem d_D_offsetOf_4 : decode b_D_offsetOf 4 = .ok (.iadd, 1) := by decide +kernel
theorem d_D_offsetOf_5 : decode b_D_offsetOf 5 = .ok (.istore_n 3, 1) := by decide +kernel
theorem d_D_offsetOf_6 : decode b_D_offsetOf 6 = .ok (.iload_n 3, 1) := by decide +kernel
theorem d_D_offsetOf_7 : decode b_D_offsetOf 7 = .ok (.aload_n 0, 1) := by decide +kernel
theorem d_D_offsetOf_8 : decode b_D_offsetOf 8 = .ok (.iload_n 1, 1) := by decide +kernel
theorem d_D_offsetOf_9 : decode b_D_offsetOf 9 = .ok (.invokevirtual 50, 3) := by decide +kernel
theorem d_D_offsetOf_12 : decode b_D_offsetOf 12 = .ok (.if_icmp .ge 13, 3) := by decide +kernel
theorem d_D_offsetOf_15 : decode b_D_offsetOf 15 = .ok (.aload_n 0, 1) := by decide +kernel
theorem d_D_offsetOf_16 : decode b_D_offsetOf 16 = .ok (.iload_n 1, 1) := by decide +kernel
theorem d_D_offsetOf_17 : decode b_D_offsetOf 17 = .ok (.iload_n 3, 1) := by decide +kernel
theorem d_D_offsetOf_18 : decode b_D_offsetOf 18 = .ok (.iadd, 1) := by decide +kernel
theorem d_D_offsetOf_19 : decode b_D_offsetOf 19 = .ok (.invokevirtual 50, 3) := by decide +kernel
theorem d_D_offsetOf_22 : decode b_D_offsetOf 22 = .ok (.goto 4, 3) := by decide +kernel
theorem d_D_offsetOf_25 : decode b_D_offsetOf 25 = .ok (.iconst 0, 1) := by decide +kernel
theorem d_D_offsetOf_26 : decode b_D_offsetOf 26 = .ok (.ireturn, 1) := by decide +kernel
theorem d_D_put_0 : decode b_D_put 0 = .ok (.aload_n 0, 1) := by decide +kernel
theorem d_D_put_1 : decode b_D_put 1 = .ok (.iload_n 1, 1) := by decide +kernel
theorem d_D_put_2 : decode b_D_put 2 = .ok (.invokevirtual 25, 3) := by decide +kernel
theorem d_D_put_5 : decode b_D_put 5 = .ok (.ifCond .eq 11, 3) := by decide +kernel
theorem d_D_put_8 : decode b_D_put 8 = .ok (.aload_n 0, 1) := by decide +kernel
theorem d_D_put_9 : decode b_D_put 9 = .ok (.getfield 9, 3) := by decide +kernel
theorem d_D_put_12 : decode b_D_put 12 = .ok (.iload_n 1, 1) := by decide +kernel
theorem d_D_put_13 : decode b_D_put 13 = .ok (.iload_n 2, 1) := by decide +kernel
theorem d_D_put_14 : decode b_D_put 14 = .ok (.i2b, 1) := by decide +kernel
theorem d_D_put_15 : decode b_D_put 15 = .ok (.bastore, 1) := by decide +kernel
theorem d_D_put_16 : decode b_D_put 16 = .ok (.return_, 1) := by decide +kernel
theorem m_D_holds : kIV y_D_holds b_D_holds 2 (some .boolean) 1 := ⟨⟨wd_52928b58, wd_13e0721a, ⟨by decide, by decide⟩, by decide +kernel⟩, wd_ee4015d3, wd_b2209d72⟩
theorem m_D_signed : kIV y_D_signed b_D_signed 7 (some .long) 2 := ⟨⟨wd_1551ce98, wd_13e0721a, ⟨by decide, by decide⟩, by decide +kernel⟩, wd_692ee8d8, wd_ed610780⟩
theorem m_D_unsignedByte : kIV y_D_unsignedByte b_D_unsignedByte 2 (some .int) 1 := ⟨⟨wd_333b2953, wd_13e0721a, ⟨by decide, by decide⟩, by decide +kernel⟩, wd_c6100b48, wd_165a762c⟩
theorem m_D_unsignedShort : kIV y_D_unsignedShort b_D_unsignedShort 2 (some .int) 1 := ⟨⟨wd_e4e34adb, wd_13e0721a, ⟨by decide, by decide⟩, by decide +kernel⟩, wd_996266d0, wd_2355672c⟩
theorem m_D_capped : kIV y_D_capped b_D_capped 4 (some .int) 1 := ⟨⟨wd_76664a79, wd_13e0721a, ⟨by decide, by decide⟩, by decide +kernel⟩, wd_f187d8d5, wd_45cf2808⟩
theorem m_D_target : kIV y_D_target b_D_target 2 (some .int) 1 := ⟨⟨wd_fba5a60b, wd_13e0721a, ⟨by decide, by decide⟩, by decide +kernel⟩, wd_f5fd79e0, wd_4b3c5285⟩
theorem m_D_offsetsOf : kIV y_D_offsetsOf b_D_offsetsOf 2 (some .long) 1 := ⟨⟨wd_2dc59464, wd_13e0721a, ⟨by decide, by decide⟩, by decide +kernel⟩, wd_12b1d209, wd_0b6ba519⟩
theorem m_D_offsetOf : kIV y_D_offsetOf b_D_offsetOf 4 (some .int) 2 := ⟨⟨wd_5414f652, wd_13e0721a, ⟨by decide, by decide⟩, by decide +kernel⟩, wd_c44d3f74, wd_0d0c67d4⟩
theorem m_D_put : kIV y_D_put b_D_put 3 none 2 := ⟨⟨wd_d4b3bdcc, wd_13e0721a, ⟨by decide, by decide⟩, by decide +kernel⟩, wd_efed5875, wd_29f968a4⟩
set_option maxHeartbeats 4000000 in
set_option maxRecDepth 100000 in
theorem c_Data_holds (l : Launch) (D : va_G) (a : Nat → Nat) (g : Nat → ClassId) (tw : Nat) (sLen sKind : Nat → Nat) (sExt : Nat → Int32) (sMust : Nat → Bool) (rTab : Nat → Nat) (rFil : Nat → Bool) (rNum : Nat → Int64) (rLnk rLen : Nat → Nat) (rItm : Nat → Int32) (made : Nat) (pItm : Nat → Int32) (held : Nat) (dByt : Nat → Nat) (dLen : Nat) (bByt : Nat → Nat) (bRea : Nat → Bool) (bRec bItm bFld bOff bOfp : Nat → Nat) (kept wrt wid ent : Nat) (ver : Bool) (fAdr fTab adr tab : Nat) (lf : Int32) (x : Int32)   : kM l y_D_holds b_D_holds 2 (some .boolean) ({ frames := 0, cells := 0, slots := 0, locals := 0 }) D vwCl (WdT g) tw [.ref (a 4), .int x] (Wd a g sLen sKind sExt sMust rTab rFil rNum rLnk rLen rItm made pItm held dByt dLen bByt bRea bRec bItm bFld bOff bOfp kept wrt wid ent ver fAdr fTab adr tab lf) (some (.int (bI (hasF dLen x)))) (Wd a g sLen sKind sExt sMust rTab rFil rNum rLnk rLen rItm made pItm held dByt dLen bByt bRea bRec bItm bFld bOff bOfp kept wrt wid ent ver fAdr fTab adr tab lf) := by
  refine k_of (by decide) (Nat.le_of_ble_eq_true rfl) ?_
  intro p e s m below meth c A ls hx hb hr hlocks hml hts hown hin0 hA hP hK hD hS hZ hl
  have hl : lv_has ls 2 [(0, .ref (a 4)), (1, .int x)] := hl
  refine lv_iload_n hx hb d_D_holds_0 rfl (lv_at hl 1 rfl) ?_
  refine lv_if_lt (tgt := 16) hx hb d_D_holds_1 (by decide) (fun c_1 => ?_) (fun c_1 => ?_)
  · skip
    refine lv_iconst (v := nI 0) hx hb d_D_holds_16 (by decide) ?_
    exact k_zret hx hb hr hlocks hK hP hD hS (trivial) (by rw [nI_bI0]; congr 1; simp [hasF, c_1]) (rfl) (bI_nar _) d_D_holds_17
  · skip
    refine lv_iload_n hx hb d_D_holds_4 rfl (lv_at hl 1 rfl) ?_
    refine lv_aload_n hx hb d_D_holds_5 rfl (lv_at hl 0 rfl) ?_
    refine va_get (D := D) (ci := 4) (C := R_D) (T := T_D) (N := 2) hx hb hts (fun w h => kT w (i_D w h)) hown hK hP 4 rfl rfl 1 (by decide) (hts _ (kT _ wd_79aa8a7f)) (fun _ h9 => h9) rfl d_D_holds_6 ?_
    refine lv_icmp_ge (tgt := 16) hx hb d_D_holds_9 (by decide) (fun c_9 => ?_) (fun c_9 => ?_)
    · skip
      refine lv_iconst (v := nI 0) hx hb d_D_holds_16 (by decide) ?_
      exact k_zret hx hb hr hlocks hK hP hD hS (trivial) (by rw [nI_bI0]; congr 1; simp [hasF, c_1, c_9]) (rfl) (bI_nar _) d_D_holds_17
    · skip
      refine lv_iconst (v := nI 1) hx hb d_D_holds_12 (by decide) ?_
      refine lv_goto (tgt := 17) hx hb d_D_holds_13 (by decide) ?_
      exact k_zret hx hb hr hlocks hK hP hD hS (trivial) (by rw [nI_bI1]; congr 1; simp [hasF, c_1, c_9]) (rfl) (bI_nar _) d_D_holds_17
set_option maxHeartbeats 4000000 in
set_option maxRecDepth 100000 in
theorem c_Data_signed (l : Launch) (D : va_G) (a : Nat → Nat) (g : Nat → ClassId) (tw : Nat) (sLen sKind : Nat → Nat) (sExt : Nat → Int32) (sMust : Nat → Bool) (rTab : Nat → Nat) (rFil : Nat → Bool) (rNum : Nat → Int64) (rLnk rLen : Nat → Nat) (rItm : Nat → Int32) (made : Nat) (pItm : Nat → Int32) (held : Nat) (dByt : Nat → Nat) (dLen : Nat) (bByt : Nat → Nat) (bRea : Nat → Bool) (bRec bItm bFld bOff bOfp : Nat → Nat) (kept wrt wid ent : Nat) (ver : Bool) (fAdr fTab adr tab : Nat) (lf : Int32) (x : Int32) (w : Nat)  (hB : ∀ k, dByt k < 256) (hd : dLen ≤ 240) (hw : 1 ≤ w) (hw8 : w ≤ 8) : kM l y_D_signed b_D_signed 7 (some .long) ({ frames := 0, cells := 0, slots := 0, locals := 0 }) D vwCl (WdT g) tw [.ref (a 4), .int x, .int (nI w)] (Wd a g sLen sKind sExt sMust rTab rFil rNum rLnk rLen rItm made pItm held dByt dLen bByt bRea bRec bItm bFld bOff bOfp kept wrt wid ent ver fAdr fTab adr tab lf) (some (.long (sxL w (leN dByt dLen x w)))) (Wd a g sLen sKind sExt sMust rTab rFil rNum rLnk rLen rItm made pItm held dByt dLen bByt bRea bRec bItm bFld bOff bOfp kept wrt wid ent ver fAdr fTab adr tab lf) := by
  refine k_of (by decide) (Nat.le_of_ble_eq_true rfl) ?_
  intro p e s m below meth c A ls hx hb hr hlocks hml hts hown hin0 hA hP hK hD hS hZ hl
  have hl : lv_has ls 7 [(0, .ref (a 4)), (1, .int x), (2, .int (nI w))] := hl
  refine lv_lconst (v := 0) hx hb d_D_signed_0 (by decide) ?_
  refine lv_lstore_n (lv' := [(3, .long (0 : Int64)), (0, .ref (a 4)), (1, .int x), (2, .int (nI w))]) hx hb d_D_signed_1 rfl hl (by decide) rfl (fun ls hl => ?_)
  refine lv_iconst (v := nI 0) hx hb d_D_signed_2 (by decide) ?_
  refine lv_istore (lv' := [(5, .int (nI 0)), (3, .long (0 : Int64)), (0, .ref (a 4)), (1, .int x), (2, .int (nI w))]) hx hb d_D_signed_3 hl (by decide) rfl (fun ls hl => ?_)
  have e_3 : (0 : Int64) = lN (leN dByt dLen x 0) := rfl
  have hl : lv_has ls 7 [(5, .int (nI 0)), (3, .long (lN (leN dByt dLen x 0))), (0, .ref (a 4)), (1, .int x), (2, .int (nI w))] := by rw [← e_3]; exact hl
  have L_5 : ∀ (n : Nat) (i : Nat), (i ≤ w) → w - i < n → ∀ (H : Heap) (locs : List Loc) (ls : Array Slot), va_P D vwCl (Wd a g sLen sKind sExt sMust rTab rFil rNum rLnk rLen rItm made pItm held dByt dLen bByt bRea bRec bItm bFld bOff bOfp kept wrt wid ent ver fAdr fTab adr tab lf) H → va_D A (Wd a g sLen sKind sExt sMust rTab rFil rNum rLnk rLen rItm made pItm held dByt dLen bByt bRea bRec bItm bFld bOff bOfp kept wrt wid ent ver fAdr fTab adr tab lf) → va_S A s.heap H locs → lv_has ls 7 [(5, .int (nI i)), (3, .long (lN (leN dByt dLen x i))), (0, .ref (a 4)), (1, .int x), (2, .int (nI w))] → W p l e ({ frames := 0, cells := 0, slots := 0, locals := 0 }) s m ([.ref (a 4), .int x, .int (nI w)] : List Value).toArray below meth c H locs 0 0 (MQ below (kQ D vwCl (WdT g) A True (some (.long (sxL w (leN dByt dLen x w)))) (Wd a g sLen sKind sExt sMust rTab rFil rNum rLnk rLen rItm made pItm held dByt dLen bByt bRea bRec bItm bFld bOff bOfp kept wrt wid ent ver fAdr fTab adr tab lf)) ([.ref (a 4), .int x, .int (nI w)] : List Value).toArray s 0 0 A) (F0 m 5 ls []) := by
    intro n
    induction n with
    | zero => intro i hi hm; exact absurd hm (Nat.not_lt_zero _)
    | succ n ih_5 =>
      intro i hi hm_5 H locs ls hP hD hS hl
      refine lv_iload hx hb d_D_signed_5 (lv_at hl 0 rfl) ?_
      refine lv_iload_n hx hb d_D_signed_7 rfl (lv_at hl 4 rfl) ?_
      refine lv_icmp_ge (tgt := 58) hx hb d_D_signed_8 (by decide) (fun c_8 => ?_) (fun c_8 => ?_)
      · skip
        have c_8 := (nI_leI (by omega) (by omega)).mp c_8
        have hiw : i = w := by omega
        rw [hiw] at hl
        refine lv_bipush (v := nI 64) hx hb d_D_signed_58 (by decide) ?_
        refine lv_bipush (v := nI 8) hx hb d_D_signed_60 (by decide) ?_
        refine lv_iload_n hx hb d_D_signed_62 rfl (lv_at hl 4 rfl) ?_
        refine lv_imul hx hb d_D_signed_63 ?_
        refine lv_eqi (pk_mul _ _) ?_
        refine lv_isub hx hb d_D_signed_64 ?_
        refine lv_eqi (pk_sub (by omega)) ?_
        refine lv_istore (lv' := [(5, .int (nI (64 - (8 * w)))), (3, .long (lN (leN dByt dLen x w))), (0, .ref (a 4)), (1, .int x), (2, .int (nI w))]) hx hb d_D_signed_65 hl (by decide) rfl (fun ls hl => ?_)
        refine lv_lload_n hx hb d_D_signed_67 rfl (lv_at hl 1 rfl) ?_
        refine lv_iload hx hb d_D_signed_68 (lv_at hl 0 rfl) ?_
        refine lv_lshl hx hb d_D_signed_70 rfl ?_
        refine lv_iload hx hb d_D_signed_71 (lv_at hl 0 rfl) ?_
        refine lv_lshr hx hb d_D_signed_73 rfl ?_
        exact k_lret hx hb hr hlocks hK hP hD hS (trivial) (rfl) (rfl) d_D_signed_74
      · skip
        have c_8 := mt (nI_leI (by omega) (by omega)).mpr c_8
        refine lv_iload_n hx hb d_D_signed_11 rfl (lv_at hl 3 rfl) ?_
        refine lv_iload hx hb d_D_signed_12 (lv_at hl 0 rfl) ?_
        refine lv_iadd hx hb d_D_signed_14 ?_
        refine lv_istore (lv' := [(6, .int (x + (nI i))), (5, .int (nI i)), (3, .long (lN (leN dByt dLen x i))), (0, .ref (a 4)), (1, .int x), (2, .int (nI w))]) hx hb d_D_signed_15 hl (by decide) rfl (fun ls hl => ?_)
        refine lv_iload hx hb d_D_signed_17 (lv_at hl 0 rfl) ?_
        refine lv_if_lt (tgt := 52) hx hb d_D_signed_19 (by decide) (fun c_19 => ?_) (fun c_19 => ?_)
        · skip
          refine lv_iinc (v := nI (i + 1)) (lv' := [(5, .int (nI (i + 1))), (6, .int (x + (nI i))), (3, .long (lN (leN dByt dLen x i))), (0, .ref (a 4)), (1, .int x), (2, .int (nI w))]) hx hb d_D_signed_52 hl (k := 1) rfl (nI_1 _) (by decide) rfl (fun ls hl => ?_)
          refine lv_goto (tgt := 5) hx hb d_D_signed_55 (by decide) ?_
          have e_3 : lN (leN dByt dLen x i) = lN (leN dByt dLen x (i + 1)) := by first | exact leN_in hB (by omega) hF | exact congrArg lN (leN_out (by simp [hasF, c_8, c_19])).symm
          have hl : lv_has ls 7 [(5, .int (nI (i + 1))), (6, .int (x + (nI i))), (3, .long (lN (leN dByt dLen x (i + 1)))), (0, .ref (a 4)), (1, .int x), (2, .int (nI w))] := by rw [← e_3]; exact hl
          exact ih_5 (i + 1) (by omega) (by omega) _ _ _ hP hD hS (lv_sub hl [0, 2, 3, 4, 5] rfl)
        · skip
          refine lv_iload hx hb d_D_signed_22 (lv_at hl 0 rfl) ?_
          refine lv_aload_n hx hb d_D_signed_24 rfl (lv_at hl 3 rfl) ?_
          refine va_get (D := D) (ci := 4) (C := R_D) (T := T_D) (N := 2) hx hb hts (fun w h => kT w (i_D w h)) hown hK hP 4 rfl rfl 1 (by decide) (hts _ (kT _ wd_79aa8a7f)) (fun _ h9 => h9) rfl d_D_signed_25 ?_
          refine lv_icmp_ge (tgt := 52) hx hb d_D_signed_28 (by decide) (fun c_28 => ?_) (fun c_28 => ?_)
          · skip
            refine lv_iinc (v := nI (i + 1)) (lv' := [(5, .int (nI (i + 1))), (6, .int (x + (nI i))), (3, .long (lN (leN dByt dLen x i))), (0, .ref (a 4)), (1, .int x), (2, .int (nI w))]) hx hb d_D_signed_52 hl (k := 1) rfl (nI_1 _) (by decide) rfl (fun ls hl => ?_)
            refine lv_goto (tgt := 5) hx hb d_D_signed_55 (by decide) ?_
            have e_3 : lN (leN dByt dLen x i) = lN (leN dByt dLen x (i + 1)) := by first | exact leN_in hB (by omega) hF | exact congrArg lN (leN_out (by simp [hasF, c_8, c_19, c_28])).symm
            have hl : lv_has ls 7 [(5, .int (nI (i + 1))), (6, .int (x + (nI i))), (3, .long (lN (leN dByt dLen x (i + 1)))), (0, .ref (a 4)), (1, .int x), (2, .int (nI w))] := by rw [← e_3]; exact hl
            exact ih_5 (i + 1) (by omega) (by omega) _ _ _ hP hD hS (lv_sub hl [0, 2, 3, 4, 5] rfl)
          · skip
            have hF : hasF dLen (x + nI i) = true := by simp [hasF, c_8, c_19, c_28]
            obtain ⟨n_f, b_f⟩ := hasF_spec (by omega) hF
            have hl : lv_has ls 7 [(6, .int (nI (cN (x + nI i)))), (5, .int (nI i)), (3, .long (lN (leN dByt dLen x i))), (0, .ref (a 4)), (1, .int x), (2, .int (nI w))] := by rw [← n_f]; exact hl
            refine lv_lload_n hx hb d_D_signed_31 rfl (lv_at hl 2 rfl) ?_
            refine lv_aload_n hx hb d_D_signed_32 rfl (lv_at hl 3 rfl) ?_
            refine va_get (D := D) (ci := 4) (C := R_D) (T := T_D) (N := 2) hx hb hts (fun w h => kT w (i_D w h)) hown hK hP 4 rfl rfl 0 (by decide) (hts _ (kT _ wd_ce39cd87)) (fun _ h9 => h9) rfl d_D_signed_33 ?_
            refine lv_iload hx hb d_D_signed_36 (lv_at hl 0 rfl) ?_
            refine b_bald hx hb hK hP 19 11 rfl rfl (i := (cN (x + nI i))) (by omega) (by decide) d_D_signed_38 ?_
            refine lv_i2l hx hb d_D_signed_39 rfl ?_
            refine lv_ldc2 (v := 255) hx hb hown (hts _ (kT _ wd_fb519b57)) d_D_signed_40 ?_
            refine lv_land hx hb d_D_signed_43 ?_
            refine lv_bipush (v := nI 8) hx hb d_D_signed_44 (by decide) ?_
            refine lv_iload hx hb d_D_signed_46 (lv_at hl 1 rfl) ?_
            refine lv_imul hx hb d_D_signed_48 ?_
            refine lv_eqi (pk_mul _ _) ?_
            refine lv_lshl hx hb d_D_signed_49 rfl ?_
            refine lv_lor hx hb d_D_signed_50 ?_
            refine lv_lstore_n (lv' := [(3, .long ((lN (leN dByt dLen x i)) ||| ((((sb_b (dByt (cN (x + nI i)))).toInt64) &&& (255 : Int64)) <<< ((nI (8 * i)).toInt64 &&& 63)))), (6, .int (nI (cN (x + nI i)))), (5, .int (nI i)), (0, .ref (a 4)), (1, .int x), (2, .int (nI w))]) hx hb d_D_signed_51 rfl hl (by decide) rfl (fun ls hl => ?_)
            refine lv_iinc (v := nI (i + 1)) (lv' := [(5, .int (nI (i + 1))), (3, .long ((lN (leN dByt dLen x i)) ||| ((((sb_b (dByt (cN (x + nI i)))).toInt64) &&& (255 : Int64)) <<< ((nI (8 * i)).toInt64 &&& 63)))), (6, .int (nI (cN (x + nI i)))), (0, .ref (a 4)), (1, .int x), (2, .int (nI w))]) hx hb d_D_signed_52 hl (k := 2) rfl (nI_1 _) (by decide) rfl (fun ls hl => ?_)
            refine lv_goto (tgt := 5) hx hb d_D_signed_55 (by decide) ?_
            have e_3 : (lN (leN dByt dLen x i)) ||| ((((sb_b (dByt (cN (x + nI i)))).toInt64) &&& (255 : Int64)) <<< ((nI (8 * i)).toInt64 &&& 63)) = lN (leN dByt dLen x (i + 1)) := by first | exact leN_in hB (by omega) hF | exact congrArg lN (leN_out (by simp [hasF, c_8, c_19, c_28])).symm
            have hl : lv_has ls 7 [(5, .int (nI (i + 1))), (3, .long (lN (leN dByt dLen x (i + 1)))), (6, .int (nI (cN (x + nI i)))), (0, .ref (a 4)), (1, .int x), (2, .int (nI w))] := by rw [← e_3]; exact hl
            exact ih_5 (i + 1) (by omega) (by omega) _ _ _ hP hD hS (lv_sub hl [0, 1, 3, 4, 5] rfl)
  exact L_5 ((w - 0) + 1) 0 (by omega) (by omega) _ _ _ hP hD hS (lv_sub hl [0, 1, 2, 3, 4] rfl)
set_option maxHeartbeats 4000000 in
set_option maxRecDepth 100000 in
theorem c_Data_unsignedByte (l : Launch) (D : va_G) (a : Nat → Nat) (g : Nat → ClassId) (tw : Nat) (sLen sKind : Nat → Nat) (sExt : Nat → Int32) (sMust : Nat → Bool) (rTab : Nat → Nat) (rFil : Nat → Bool) (rNum : Nat → Int64) (rLnk rLen : Nat → Nat) (rItm : Nat → Int32) (made : Nat) (pItm : Nat → Int32) (held : Nat) (dByt : Nat → Nat) (dLen : Nat) (bByt : Nat → Nat) (bRea : Nat → Bool) (bRec bItm bFld bOff bOfp : Nat → Nat) (kept wrt wid ent : Nat) (ver : Bool) (fAdr fTab adr tab : Nat) (lf : Int32) (x : Int32)  (hB : ∀ k, dByt k < 256) (hd : dLen ≤ 240) : kM l y_D_unsignedByte b_D_unsignedByte 2 (some .int) ({ frames := 1, cells := 0, slots := 0, locals := 26 }) D vwCl (WdT g) tw [.ref (a 4), .int x] (Wd a g sLen sKind sExt sMust rTab rFil rNum rLnk rLen rItm made pItm held dByt dLen bByt bRea bRec bItm bFld bOff bOfp kept wrt wid ent ver fAdr fTab adr tab lf) (some (.int (nI (leN dByt dLen x 1)))) (Wd a g sLen sKind sExt sMust rTab rFil rNum rLnk rLen rItm made pItm held dByt dLen bByt bRea bRec bItm bFld bOff bOfp kept wrt wid ent ver fAdr fTab adr tab lf) := by
  refine k_of (by decide) (Nat.le_of_ble_eq_true rfl) ?_
  intro p e s m below meth c A ls hx hb hr hlocks hml hts hown hin0 hA hP hK hD hS hZ hl
  have hl : lv_has ls 2 [(0, .ref (a 4)), (1, .int x)] := hl
  refine lv_aload_n hx hb d_D_unsignedByte_0 rfl (lv_at hl 0 rfl) ?_
  refine lv_iload_n hx hb d_D_unsignedByte_1 rfl (lv_at hl 1 rfl) ?_
  refine lv_iconst (v := nI 1) hx hb d_D_unsignedByte_2 (by decide) ?_
  refine k_callV (c_Data_signed l D a g tw sLen sKind sExt sMust rTab rFil rNum rLnk rLen rItm made pItm held dByt dLen bByt bRea bRec bItm bFld bOff bOfp kept wrt wid ent ver fAdr fTab adr tab lf x 1  hB hd (by decide) (by decide)) m_D_signed wd_8f22ca7e 4 4 rfl rfl rfl kT hx hb hml hown hts ⟨Nat.le_of_ble_eq_true rfl, Nat.le_of_ble_eq_true rfl⟩ ⟨Nat.le_of_ble_eq_true rfl, Nat.le_of_ble_eq_true rfl⟩ hK hP hD hS hA hZ hl.1 rfl rfl (Nat.le_of_ble_eq_true rfl) d_D_unsignedByte_3 (fun H locs hP hD hS => ?_)
  have hP : va_P D vwCl (Wd a g sLen sKind sExt sMust rTab rFil rNum rLnk rLen rItm made pItm held dByt dLen bByt bRea bRec bItm bFld bOff bOfp kept wrt wid ent ver fAdr fTab adr tab lf) H := hP
  have hD : va_D A (Wd a g sLen sKind sExt sMust rTab rFil rNum rLnk rLen rItm made pItm held dByt dLen bByt bRea bRec bItm bFld bOff bOfp kept wrt wid ent ver fAdr fTab adr tab lf) := hD
  refine W.eq (g2 := F0 m 6 ls [.long (sxL 1 (leN dByt dLen x 1))]) rfl ?_
  refine lv_l2i hx hb d_D_unsignedByte_6 rfl ?_
  refine lv_sipush (v := nI 255) hx hb d_D_unsignedByte_7 (by decide) ?_
  refine lv_iand hx hb d_D_unsignedByte_10 ?_
  exact k_iret hx hb hr hlocks hK hP hD hS (trivial) (sx_u8 (leN_lt hB 1)) (rfl) d_D_unsignedByte_11
set_option maxHeartbeats 4000000 in
set_option maxRecDepth 100000 in
theorem c_Data_unsignedShort (l : Launch) (D : va_G) (a : Nat → Nat) (g : Nat → ClassId) (tw : Nat) (sLen sKind : Nat → Nat) (sExt : Nat → Int32) (sMust : Nat → Bool) (rTab : Nat → Nat) (rFil : Nat → Bool) (rNum : Nat → Int64) (rLnk rLen : Nat → Nat) (rItm : Nat → Int32) (made : Nat) (pItm : Nat → Int32) (held : Nat) (dByt : Nat → Nat) (dLen : Nat) (bByt : Nat → Nat) (bRea : Nat → Bool) (bRec bItm bFld bOff bOfp : Nat → Nat) (kept wrt wid ent : Nat) (ver : Bool) (fAdr fTab adr tab : Nat) (lf : Int32) (x : Int32)  (hB : ∀ k, dByt k < 256) (hd : dLen ≤ 240) : kM l y_D_unsignedShort b_D_unsignedShort 2 (some .int) ({ frames := 1, cells := 0, slots := 0, locals := 26 }) D vwCl (WdT g) tw [.ref (a 4), .int x] (Wd a g sLen sKind sExt sMust rTab rFil rNum rLnk rLen rItm made pItm held dByt dLen bByt bRea bRec bItm bFld bOff bOfp kept wrt wid ent ver fAdr fTab adr tab lf) (some (.int (nI (leN dByt dLen x 2)))) (Wd a g sLen sKind sExt sMust rTab rFil rNum rLnk rLen rItm made pItm held dByt dLen bByt bRea bRec bItm bFld bOff bOfp kept wrt wid ent ver fAdr fTab adr tab lf) := by
  refine k_of (by decide) (Nat.le_of_ble_eq_true rfl) ?_
  intro p e s m below meth c A ls hx hb hr hlocks hml hts hown hin0 hA hP hK hD hS hZ hl
  have hl : lv_has ls 2 [(0, .ref (a 4)), (1, .int x)] := hl
  refine lv_aload_n hx hb d_D_unsignedShort_0 rfl (lv_at hl 0 rfl) ?_
  refine lv_iload_n hx hb d_D_unsignedShort_1 rfl (lv_at hl 1 rfl) ?_
  refine lv_iconst (v := nI 2) hx hb d_D_unsignedShort_2 (by decide) ?_
  refine k_callV (c_Data_signed l D a g tw sLen sKind sExt sMust rTab rFil rNum rLnk rLen rItm made pItm held dByt dLen bByt bRea bRec bItm bFld bOff bOfp kept wrt wid ent ver fAdr fTab adr tab lf x 2  hB hd (by decide) (by decide)) m_D_signed wd_8f22ca7e 4 4 rfl rfl rfl kT hx hb hml hown hts ⟨Nat.le_of_ble_eq_true rfl, Nat.le_of_ble_eq_true rfl⟩ ⟨Nat.le_of_ble_eq_true rfl, Nat.le_of_ble_eq_true rfl⟩ hK hP hD hS hA hZ hl.1 rfl rfl (Nat.le_of_ble_eq_true rfl) d_D_unsignedShort_3 (fun H locs hP hD hS => ?_)
  have hP : va_P D vwCl (Wd a g sLen sKind sExt sMust rTab rFil rNum rLnk rLen rItm made pItm held dByt dLen bByt bRea bRec bItm bFld bOff bOfp kept wrt wid ent ver fAdr fTab adr tab lf) H := hP
  have hD : va_D A (Wd a g sLen sKind sExt sMust rTab rFil rNum rLnk rLen rItm made pItm held dByt dLen bByt bRea bRec bItm bFld bOff bOfp kept wrt wid ent ver fAdr fTab adr tab lf) := hD
  refine W.eq (g2 := F0 m 6 ls [.long (sxL 2 (leN dByt dLen x 2))]) rfl ?_
  refine lv_l2i hx hb d_D_unsignedShort_6 rfl ?_
  refine lv_ldc (v := 65535) hx hb hown (hts _ (kT _ wd_7011ba01)) d_D_unsignedShort_7 ?_
  refine lv_eqi (show (65535 : Int32) = nI 65535 by decide) ?_
  refine lv_iand hx hb d_D_unsignedShort_9 ?_
  exact k_iret hx hb hr hlocks hK hP hD hS (trivial) (sx_u16 (leN_lt hB 2)) (rfl) d_D_unsignedShort_10
set_option maxHeartbeats 4000000 in
set_option maxRecDepth 100000 in
theorem c_Data_capped (l : Launch) (D : va_G) (a : Nat → Nat) (g : Nat → ClassId) (tw : Nat) (sLen sKind : Nat → Nat) (sExt : Nat → Int32) (sMust : Nat → Bool) (rTab : Nat → Nat) (rFil : Nat → Bool) (rNum : Nat → Int64) (rLnk rLen : Nat → Nat) (rItm : Nat → Int32) (made : Nat) (pItm : Nat → Int32) (held : Nat) (dByt : Nat → Nat) (dLen : Nat) (bByt : Nat → Nat) (bRea : Nat → Bool) (bRec bItm bFld bOff bOfp : Nat → Nat) (kept wrt wid ent : Nat) (ver : Bool) (fAdr fTab adr tab : Nat) (lf : Int32) (x : Int32)  (hB : ∀ k, dByt k < 256) (hd : dLen ≤ 240) : kM l y_D_capped b_D_capped 4 (some .int) ({ frames := 1, cells := 0, slots := 0, locals := 26 }) D vwCl (WdT g) tw [.ref (a 4), .int x] (Wd a g sLen sKind sExt sMust rTab rFil rNum rLnk rLen rItm made pItm held dByt dLen bByt bRea bRec bItm bFld bOff bOfp kept wrt wid ent ver fAdr fTab adr tab lf) (some (.int (nI (min (leN dByt dLen x 4) 100000)))) (Wd a g sLen sKind sExt sMust rTab rFil rNum rLnk rLen rItm made pItm held dByt dLen bByt bRea bRec bItm bFld bOff bOfp kept wrt wid ent ver fAdr fTab adr tab lf) := by
  refine k_of (by decide) (Nat.le_of_ble_eq_true rfl) ?_
  intro p e s m below meth c A ls hx hb hr hlocks hml hts hown hin0 hA hP hK hD hS hZ hl
  have hl : lv_has ls 4 [(0, .ref (a 4)), (1, .int x)] := hl
  refine lv_aload_n hx hb d_D_capped_0 rfl (lv_at hl 0 rfl) ?_
  refine lv_iload_n hx hb d_D_capped_1 rfl (lv_at hl 1 rfl) ?_
  refine lv_iconst (v := nI 4) hx hb d_D_capped_2 (by decide) ?_
  refine k_callV (c_Data_signed l D a g tw sLen sKind sExt sMust rTab rFil rNum rLnk rLen rItm made pItm held dByt dLen bByt bRea bRec bItm bFld bOff bOfp kept wrt wid ent ver fAdr fTab adr tab lf x 4  hB hd (by decide) (by decide)) m_D_signed wd_8f22ca7e 4 4 rfl rfl rfl kT hx hb hml hown hts ⟨Nat.le_of_ble_eq_true rfl, Nat.le_of_ble_eq_true rfl⟩ ⟨Nat.le_of_ble_eq_true rfl, Nat.le_of_ble_eq_true rfl⟩ hK hP hD hS hA hZ hl.1 rfl rfl (Nat.le_of_ble_eq_true rfl) d_D_capped_3 (fun H locs hP hD hS => ?_)
  have hP : va_P D vwCl (Wd a g sLen sKind sExt sMust rTab rFil rNum rLnk rLen rItm made pItm held dByt dLen bByt bRea bRec bItm bFld bOff bOfp kept wrt wid ent ver fAdr fTab adr tab lf) H := hP
  have hD : va_D A (Wd a g sLen sKind sExt sMust rTab rFil rNum rLnk rLen rItm made pItm held dByt dLen bByt bRea bRec bItm bFld bOff bOfp kept wrt wid ent ver fAdr fTab adr tab lf) := hD
  refine W.eq (g2 := F0 m 6 ls [.long (sxL 4 (leN dByt dLen x 4))]) rfl ?_
  refine lv_ldc2 (v := 4294967295) hx hb hown (hts _ (kT _ wd_91e33244)) d_D_capped_6 ?_
  refine lv_land hx hb d_D_capped_9 ?_
  refine lv_lstore_n (lv' := [(2, .long ((sxL 4 (leN dByt dLen x 4)) &&& (4294967295 : Int64))), (0, .ref (a 4)), (1, .int x)]) hx hb d_D_capped_10 rfl hl (by decide) rfl (fun ls hl => ?_)
  refine lv_lload_n hx hb d_D_capped_11 rfl (lv_at hl 0 rfl) ?_
  refine lv_ldc2 (v := 100000) hx hb hown (hts _ (kT _ wd_43395c94)) d_D_capped_12 ?_
  refine va_mmin_long hx hb (hml.trans hl.1.symm) hown (hts _ (kT _ wd_97beef25)) (hts _ (kT _ wd_07670a37)) (hts _ (kT _ wd_868a9286)) (hts _ (kT _ wd_c0acf8a6)) (Nat.le_of_ble_eq_true rfl) (Nat.le_of_ble_eq_true rfl) (Nat.le_of_ble_eq_true rfl) (Nat.le_of_ble_eq_true rfl) d_D_capped_15 ?_
  refine lv_l2i hx hb d_D_capped_18 rfl ?_
  exact k_iret hx hb hr hlocks hK hP hD hS (trivial) (sx_cap (leN_lt hB 4)) (rfl) d_D_capped_19
set_option maxHeartbeats 4000000 in
set_option maxRecDepth 100000 in
theorem c_Data_target (l : Launch) (D : va_G) (a : Nat → Nat) (g : Nat → ClassId) (tw : Nat) (sLen sKind : Nat → Nat) (sExt : Nat → Int32) (sMust : Nat → Bool) (rTab : Nat → Nat) (rFil : Nat → Bool) (rNum : Nat → Int64) (rLnk rLen : Nat → Nat) (rItm : Nat → Int32) (made : Nat) (pItm : Nat → Int32) (held : Nat) (dByt : Nat → Nat) (dLen : Nat) (bByt : Nat → Nat) (bRea : Nat → Bool) (bRec bItm bFld bOff bOfp : Nat → Nat) (kept wrt wid ent : Nat) (ver : Bool) (fAdr fTab adr tab : Nat) (lf : Int32) (x : Nat)  (hB : ∀ k, dByt k < 256) (hd : dLen ≤ 240) : kM l y_D_target b_D_target 2 (some .int) ({ frames := 2, cells := 0, slots := 0, locals := 49 }) D vwCl (WdT g) tw [.ref (a 4), .int (nI x)] (Wd a g sLen sKind sExt sMust rTab rFil rNum rLnk rLen rItm made pItm held dByt dLen bByt bRea bRec bItm bFld bOff bOfp kept wrt wid ent ver fAdr fTab adr tab lf) (some (.int (nI (x + min (leN dByt dLen (nI x) 4) 100000)))) (Wd a g sLen sKind sExt sMust rTab rFil rNum rLnk rLen rItm made pItm held dByt dLen bByt bRea bRec bItm bFld bOff bOfp kept wrt wid ent ver fAdr fTab adr tab lf) := by
  refine k_of (by decide) (Nat.le_of_ble_eq_true rfl) ?_
  intro p e s m below meth c A ls hx hb hr hlocks hml hts hown hin0 hA hP hK hD hS hZ hl
  have hl : lv_has ls 2 [(0, .ref (a 4)), (1, .int (nI x))] := hl
  refine lv_iload_n hx hb d_D_target_0 rfl (lv_at hl 1 rfl) ?_
  refine lv_aload_n hx hb d_D_target_1 rfl (lv_at hl 0 rfl) ?_
  refine lv_iload_n hx hb d_D_target_2 rfl (lv_at hl 1 rfl) ?_
  refine k_callV (c_Data_capped l D a g tw sLen sKind sExt sMust rTab rFil rNum rLnk rLen rItm made pItm held dByt dLen bByt bRea bRec bItm bFld bOff bOfp kept wrt wid ent ver fAdr fTab adr tab lf (nI x)  hB hd) m_D_capped wd_543e84f8 4 4 rfl rfl rfl kT hx hb hml hown hts ⟨Nat.le_of_ble_eq_true rfl, Nat.le_of_ble_eq_true rfl⟩ ⟨Nat.le_of_ble_eq_true rfl, Nat.le_of_ble_eq_true rfl⟩ hK hP hD hS hA hZ hl.1 rfl rfl (Nat.le_of_ble_eq_true rfl) d_D_target_3 (fun H locs hP hD hS => ?_)
  have hP : va_P D vwCl (Wd a g sLen sKind sExt sMust rTab rFil rNum rLnk rLen rItm made pItm held dByt dLen bByt bRea bRec bItm bFld bOff bOfp kept wrt wid ent ver fAdr fTab adr tab lf) H := hP
  have hD : va_D A (Wd a g sLen sKind sExt sMust rTab rFil rNum rLnk rLen rItm made pItm held dByt dLen bByt bRea bRec bItm bFld bOff bOfp kept wrt wid ent ver fAdr fTab adr tab lf) := hD
  refine W.eq (g2 := F0 m 6 ls [.int (nI (min (leN dByt dLen (nI x) 4) 100000)), .int (nI x)]) rfl ?_
  refine lv_iadd hx hb d_D_target_6 ?_
  refine lv_eqi (nI_add _ _) ?_
  exact k_iret hx hb hr hlocks hK hP hD hS (trivial) (rfl) (rfl) d_D_target_7
set_option maxHeartbeats 4000000 in
set_option maxRecDepth 100000 in
theorem c_Data_offsetsOf (l : Launch) (D : va_G) (a : Nat → Nat) (g : Nat → ClassId) (tw : Nat) (sLen sKind : Nat → Nat) (sExt : Nat → Int32) (sMust : Nat → Bool) (rTab : Nat → Nat) (rFil : Nat → Bool) (rNum : Nat → Int64) (rLnk rLen : Nat → Nat) (rItm : Nat → Int32) (made : Nat) (pItm : Nat → Int32) (held : Nat) (dByt : Nat → Nat) (dLen : Nat) (bByt : Nat → Nat) (bRea : Nat → Bool) (bRec bItm bFld bOff bOfp : Nat → Nat) (kept wrt wid ent : Nat) (ver : Bool) (fAdr fTab adr tab : Nat) (lf : Int32) (x : Nat)  (hB : ∀ k, dByt k < 256) (hd : dLen ≤ 240) : kM l y_D_offsetsOf b_D_offsetsOf 2 (some .long) ({ frames := 1, cells := 0, slots := 0, locals := 26 }) D vwCl (WdT g) tw [.ref (a 4), .int (nI x)] (Wd a g sLen sKind sExt sMust rTab rFil rNum rLnk rLen rItm made pItm held dByt dLen bByt bRea bRec bItm bFld bOff bOfp kept wrt wid ent ver fAdr fTab adr tab lf) (some (.long ((nI x).toInt64 - sxL 4 (leN dByt dLen (nI x) 4)))) (Wd a g sLen sKind sExt sMust rTab rFil rNum rLnk rLen rItm made pItm held dByt dLen bByt bRea bRec bItm bFld bOff bOfp kept wrt wid ent ver fAdr fTab adr tab lf) := by
  refine k_of (by decide) (Nat.le_of_ble_eq_true rfl) ?_
  intro p e s m below meth c A ls hx hb hr hlocks hml hts hown hin0 hA hP hK hD hS hZ hl
  have hl : lv_has ls 2 [(0, .ref (a 4)), (1, .int (nI x))] := hl
  refine lv_iload_n hx hb d_D_offsetsOf_0 rfl (lv_at hl 1 rfl) ?_
  refine lv_i2l hx hb d_D_offsetsOf_1 rfl ?_
  refine lv_aload_n hx hb d_D_offsetsOf_2 rfl (lv_at hl 0 rfl) ?_
  refine lv_iload_n hx hb d_D_offsetsOf_3 rfl (lv_at hl 1 rfl) ?_
  refine lv_iconst (v := nI 4) hx hb d_D_offsetsOf_4 (by decide) ?_
  refine k_callV (c_Data_signed l D a g tw sLen sKind sExt sMust rTab rFil rNum rLnk rLen rItm made pItm held dByt dLen bByt bRea bRec bItm bFld bOff bOfp kept wrt wid ent ver fAdr fTab adr tab lf (nI x) 4  hB hd (by decide) (by decide)) m_D_signed wd_8f22ca7e 4 4 rfl rfl rfl kT hx hb hml hown hts ⟨Nat.le_of_ble_eq_true rfl, Nat.le_of_ble_eq_true rfl⟩ ⟨Nat.le_of_ble_eq_true rfl, Nat.le_of_ble_eq_true rfl⟩ hK hP hD hS hA hZ hl.1 rfl rfl (Nat.le_of_ble_eq_true rfl) d_D_offsetsOf_5 (fun H locs hP hD hS => ?_)
  have hP : va_P D vwCl (Wd a g sLen sKind sExt sMust rTab rFil rNum rLnk rLen rItm made pItm held dByt dLen bByt bRea bRec bItm bFld bOff bOfp kept wrt wid ent ver fAdr fTab adr tab lf) H := hP
  have hD : va_D A (Wd a g sLen sKind sExt sMust rTab rFil rNum rLnk rLen rItm made pItm held dByt dLen bByt bRea bRec bItm bFld bOff bOfp kept wrt wid ent ver fAdr fTab adr tab lf) := hD
  refine W.eq (g2 := F0 m 8 ls [.long (sxL 4 (leN dByt dLen (nI x) 4)), .long ((nI x).toInt64)]) rfl ?_
  refine lv_lsub hx hb d_D_offsetsOf_8 ?_
  exact k_lret hx hb hr hlocks hK hP hD hS (trivial) (rfl) (rfl) d_D_offsetsOf_9
set_option maxHeartbeats 4000000 in
set_option maxRecDepth 100000 in
theorem c_Data_offsetOf (l : Launch) (D : va_G) (a : Nat → Nat) (g : Nat → ClassId) (tw : Nat) (sLen sKind : Nat → Nat) (sExt : Nat → Int32) (sMust : Nat → Bool) (rTab : Nat → Nat) (rFil : Nat → Bool) (rNum : Nat → Int64) (rLnk rLen : Nat → Nat) (rItm : Nat → Int32) (made : Nat) (pItm : Nat → Int32) (held : Nat) (dByt : Nat → Nat) (dLen : Nat) (bByt : Nat → Nat) (bRea : Nat → Bool) (bRec bItm bFld bOff bOfp : Nat → Nat) (kept wrt wid ent : Nat) (ver : Bool) (fAdr fTab adr tab : Nat) (lf : Int32) (x : Int32) (f : Nat)  (hB : ∀ k, dByt k < 256) (hd : dLen ≤ 240) (hf : f < 6) : kM l y_D_offsetOf b_D_offsetOf 4 (some .int) ({ frames := 2, cells := 0, slots := 0, locals := 47 }) D vwCl (WdT g) tw [.ref (a 4), .int x, .int (nI f)] (Wd a g sLen sKind sExt sMust rTab rFil rNum rLnk rLen rItm made pItm held dByt dLen bByt bRea bRec bItm bFld bOff bOfp kept wrt wid ent ver fAdr fTab adr tab lf) (some (.int (nI (offF dByt dLen x f)))) (Wd a g sLen sKind sExt sMust rTab rFil rNum rLnk rLen rItm made pItm held dByt dLen bByt bRea bRec bItm bFld bOff bOfp kept wrt wid ent ver fAdr fTab adr tab lf) := by
  refine k_of (by decide) (Nat.le_of_ble_eq_true rfl) ?_
  intro p e s m below meth c A ls hx hb hr hlocks hml hts hown hin0 hA hP hK hD hS hZ hl
  have hl : lv_has ls 4 [(0, .ref (a 4)), (1, .int x), (2, .int (nI f))] := hl
  refine lv_iconst (v := nI 4) hx hb d_D_offsetOf_0 (by decide) ?_
  refine lv_iconst (v := nI 2) hx hb d_D_offsetOf_1 (by decide) ?_
  refine lv_iload_n hx hb d_D_offsetOf_2 rfl (lv_at hl 2 rfl) ?_
  refine lv_imul hx hb d_D_offsetOf_3 ?_
  refine lv_eqi (pk_mul _ _) ?_
  refine lv_iadd hx hb d_D_offsetOf_4 ?_
  refine lv_eqi (nI_add _ _) ?_
  refine lv_istore_n (lv' := [(3, .int (nI (4 + (2 * f)))), (0, .ref (a 4)), (1, .int x), (2, .int (nI f))]) hx hb d_D_offsetOf_5 rfl hl (by decide) rfl (fun ls hl => ?_)
  refine lv_iload_n hx hb d_D_offsetOf_6 rfl (lv_at hl 0 rfl) ?_
  refine lv_aload_n hx hb d_D_offsetOf_7 rfl (lv_at hl 1 rfl) ?_
  refine lv_iload_n hx hb d_D_offsetOf_8 rfl (lv_at hl 2 rfl) ?_
  refine k_callV (c_Data_unsignedShort l D a g tw sLen sKind sExt sMust rTab rFil rNum rLnk rLen rItm made pItm held dByt dLen bByt bRea bRec bItm bFld bOff bOfp kept wrt wid ent ver fAdr fTab adr tab lf x  hB hd) m_D_unsignedShort wd_12bcba38 4 4 rfl rfl rfl kT hx hb hml hown hts ⟨Nat.le_of_ble_eq_true rfl, Nat.le_of_ble_eq_true rfl⟩ ⟨Nat.le_of_ble_eq_true rfl, Nat.le_of_ble_eq_true rfl⟩ hK hP hD hS hA hZ hl.1 rfl rfl (Nat.le_of_ble_eq_true rfl) d_D_offsetOf_9 (fun H locs hP hD hS => ?_)
  have hP : va_P D vwCl (Wd a g sLen sKind sExt sMust rTab rFil rNum rLnk rLen rItm made pItm held dByt dLen bByt bRea bRec bItm bFld bOff bOfp kept wrt wid ent ver fAdr fTab adr tab lf) H := hP
  have hD : va_D A (Wd a g sLen sKind sExt sMust rTab rFil rNum rLnk rLen rItm made pItm held dByt dLen bByt bRea bRec bItm bFld bOff bOfp kept wrt wid ent ver fAdr fTab adr tab lf) := hD
  refine W.eq (g2 := F0 m 12 ls [.int (nI (leN dByt dLen x 2)), .int (nI (4 + (2 * f)))]) rfl ?_
  have hle : leN dByt dLen x 2 < 65536 := leN_lt hB 2
  refine lv_icmp_ge (tgt := 25) hx hb d_D_offsetOf_12 (by decide) (fun c_12 => ?_) (fun c_12 => ?_)
  · skip
    have c_12 := (nI_leI (by omega) (by omega)).mp c_12
    refine lv_iconst (v := nI 0) hx hb d_D_offsetOf_25 (by decide) ?_
    exact k_iret hx hb hr hlocks hK hP hD hS (trivial) (by unfold offF; first | rw [if_pos (by omega)] | rw [if_neg (by omega)]) (rfl) d_D_offsetOf_26
  · skip
    have c_12 := mt (nI_leI (by omega) (by omega)).mpr c_12
    refine lv_aload_n hx hb d_D_offsetOf_15 rfl (lv_at hl 1 rfl) ?_
    refine lv_iload_n hx hb d_D_offsetOf_16 rfl (lv_at hl 2 rfl) ?_
    refine lv_iload_n hx hb d_D_offsetOf_17 rfl (lv_at hl 0 rfl) ?_
    refine lv_iadd hx hb d_D_offsetOf_18 ?_
    refine k_callV (c_Data_unsignedShort l D a g tw sLen sKind sExt sMust rTab rFil rNum rLnk rLen rItm made pItm held dByt dLen bByt bRea bRec bItm bFld bOff bOfp kept wrt wid ent ver fAdr fTab adr tab lf (x + (nI (4 + (2 * f))))  hB hd) m_D_unsignedShort wd_12bcba38 4 4 rfl rfl rfl kT hx hb hml hown hts ⟨Nat.le_of_ble_eq_true rfl, Nat.le_of_ble_eq_true rfl⟩ ⟨Nat.le_of_ble_eq_true rfl, Nat.le_of_ble_eq_true rfl⟩ hK hP hD hS hA hZ hl.1 rfl rfl (Nat.le_of_ble_eq_true rfl) d_D_offsetOf_19 (fun H locs hP hD hS => ?_)
    have hP : va_P D vwCl (Wd a g sLen sKind sExt sMust rTab rFil rNum rLnk rLen rItm made pItm held dByt dLen bByt bRea bRec bItm bFld bOff bOfp kept wrt wid ent ver fAdr fTab adr tab lf) H := hP
    have hD : va_D A (Wd a g sLen sKind sExt sMust rTab rFil rNum rLnk rLen rItm made pItm held dByt dLen bByt bRea bRec bItm bFld bOff bOfp kept wrt wid ent ver fAdr fTab adr tab lf) := hD
    refine W.eq (g2 := F0 m 22 ls [.int (nI (leN dByt dLen (x + (nI (4 + (2 * f)))) 2))]) rfl ?_
    refine lv_goto (tgt := 26) hx hb d_D_offsetOf_22 (by decide) ?_
    exact k_iret hx hb hr hlocks hK hP hD hS (trivial) (by unfold offF; first | rw [if_pos (by omega)] | rw [if_neg (by omega)]) (rfl) d_D_offsetOf_26
set_option maxHeartbeats 4000000 in
set_option maxRecDepth 100000 in
theorem c_Data_put (l : Launch) (D : va_G) (a : Nat → Nat) (g : Nat → ClassId) (tw : Nat) (sLen sKind : Nat → Nat) (sExt : Nat → Int32) (sMust : Nat → Bool) (rTab : Nat → Nat) (rFil : Nat → Bool) (rNum : Nat → Int64) (rLnk rLen : Nat → Nat) (rItm : Nat → Int32) (made : Nat) (pItm : Nat → Int32) (held : Nat) (dByt : Nat → Nat) (dLen : Nat) (bByt : Nat → Nat) (bRea : Nat → Bool) (bRec bItm bFld bOff bOfp : Nat → Nat) (kept wrt wid ent : Nat) (ver : Bool) (fAdr fTab adr tab : Nat) (lf : Int32) (x : Int32) (v : Int32)  (hd : dLen ≤ 240) : kM l y_D_put b_D_put 3 none ({ frames := 1, cells := 0, slots := 0, locals := 21 }) D vwCl (WdT g) tw [.ref (a 4), .int x, .int v] (Wd a g sLen sKind sExt sMust rTab rFil rNum rLnk rLen rItm made pItm held dByt dLen bByt bRea bRec bItm bFld bOff bOfp kept wrt wid ent ver fAdr fTab adr tab lf) none (Wd a g sLen sKind sExt sMust rTab rFil rNum rLnk rLen rItm made pItm held (if hasF dLen x = true then va_up dByt (cN x) (u8 v) else dByt) dLen bByt bRea bRec bItm bFld bOff bOfp kept wrt wid ent ver fAdr fTab adr tab lf) := by
  refine k_of (by decide) (Nat.le_of_ble_eq_true rfl) ?_
  intro p e s m below meth c A ls hx hb hr hlocks hml hts hown hin0 hA hP hK hD hS hZ hl
  have hl : lv_has ls 3 [(0, .ref (a 4)), (1, .int x), (2, .int v)] := hl
  refine lv_aload_n hx hb d_D_put_0 rfl (lv_at hl 0 rfl) ?_
  refine lv_iload_n hx hb d_D_put_1 rfl (lv_at hl 1 rfl) ?_
  refine k_callV (c_Data_holds l D a g tw sLen sKind sExt sMust rTab rFil rNum rLnk rLen rItm made pItm held dByt dLen bByt bRea bRec bItm bFld bOff bOfp kept wrt wid ent ver fAdr fTab adr tab lf x  ) m_D_holds wd_09caabb7 4 4 rfl rfl rfl kT hx hb hml hown hts ⟨Nat.le_of_ble_eq_true rfl, Nat.le_of_ble_eq_true rfl⟩ ⟨Nat.le_of_ble_eq_true rfl, Nat.le_of_ble_eq_true rfl⟩ hK hP hD hS hA hZ hl.1 rfl rfl (Nat.le_of_ble_eq_true rfl) d_D_put_2 (fun H locs hP hD hS => ?_)
  have hP : va_P D vwCl (Wd a g sLen sKind sExt sMust rTab rFil rNum rLnk rLen rItm made pItm held dByt dLen bByt bRea bRec bItm bFld bOff bOfp kept wrt wid ent ver fAdr fTab adr tab lf) H := hP
  have hD : va_D A (Wd a g sLen sKind sExt sMust rTab rFil rNum rLnk rLen rItm made pItm held dByt dLen bByt bRea bRec bItm bFld bOff bOfp kept wrt wid ent ver fAdr fTab adr tab lf) := hD
  refine W.eq (g2 := F0 m 5 ls [.int (bI (hasF dLen x))]) rfl ?_
  refine lv_if_eq (tgt := 16) hx hb d_D_put_5 (by decide) (fun c_5 => ?_) (fun c_5 => ?_)
  · skip
    have c_5 := (bI_0).mp c_5
    exact k_vret hx hb hr hlocks hK hP hD hS (trivial) (by first | rw [if_pos c_5] | rw [if_neg (by simp [c_5])]) d_D_put_16
  · skip
    have c_5 := mt (bI_0).mpr c_5
    have c_5 := eq_true_of_ne_false c_5
    obtain ⟨n_x, b_x⟩ := hasF_spec (by omega) c_5
    have hl : lv_has ls 3 [(0, .ref (a 4)), (1, .int (nI (cN x))), (2, .int v)] := by rw [← n_x]; exact hl
    refine lv_aload_n hx hb d_D_put_8 rfl (lv_at hl 0 rfl) ?_
    refine va_get (D := D) (ci := 4) (C := R_D) (T := T_D) (N := 2) hx hb hts (fun w h => kT w (i_D w h)) hown hK hP 4 rfl rfl 0 (by decide) (hts _ (kT _ wd_ce39cd87)) (fun _ h9 => h9) rfl d_D_put_9 ?_
    refine lv_iload_n hx hb d_D_put_12 rfl (lv_at hl 1 rfl) ?_
    refine lv_iload_n hx hb d_D_put_13 rfl (lv_at hl 2 rfl) ?_
    refine lv_i2b hx hb d_D_put_14 rfl ?_
    refine b_bast hx hb hK hP hD hS 19 11 rfl rfl (i := (cN x)) (by omega) (by decide) d_D_put_15 (fun H locs hP hD hS => ?_)
    have hP : va_P D vwCl (Wd a g sLen sKind sExt sMust rTab rFil rNum rLnk rLen rItm made pItm held (va_up dByt (cN x) (u8 v)) dLen bByt bRea bRec bItm bFld bOff bOfp kept wrt wid ent ver fAdr fTab adr tab lf) H := hP
    have hD : va_D A (Wd a g sLen sKind sExt sMust rTab rFil rNum rLnk rLen rItm made pItm held (va_up dByt (cN x) (u8 v)) dLen bByt bRea bRec bItm bFld bOff bOfp kept wrt wid ent ver fAdr fTab adr tab lf) := hD
    exact k_vret hx hb hr hlocks hK hP hD hS (trivial) (by first | rw [if_pos c_5] | rw [if_neg (by simp [c_5])]) d_D_put_16

def Wo (a : Nat → Nat) (g : Nat → ClassId) (sLen sKind : Nat → Nat) (sExt : Nat → Int32) (sMust : Nat → Bool) (rTab : Nat → Nat) (rFil : Nat → Bool) (rNum : Nat → Int64) (rLnk rLen : Nat → Nat) (rItm : Nat → Int32) (made : Nat) (pItm : Nat → Int32) (held : Nat) (dByt : Nat → Nat) (dLen : Nat) (bByt : Nat → Nat) (bRea : Nat → Bool) (bRec bItm bFld bOff bOfp : Nat → Nat) (kept wrt wid ent : Nat) (ver : Bool) (fAdr fTab adr tab : Nat) (lf : Int32) (oV : Nat → Int64) : va_W := (Wd a g sLen sKind sExt sMust rTab rFil rNum rLnk rLen rItm made pItm held dByt dLen bByt bRea bRec bItm bFld bOff bOfp kept wrt wid ent ver fAdr fTab adr tab lf) ++ [(a 27, .inl (g 19, 1, .inr (.inl oV)))]
def WoT (g : Nat → ClassId) : List (ClassId × FieldType) := WdT g ++ [(g 19, .long)]
theorem wd_9e100a3f : Cond.methodLink R_L 7 y_F_field ∈ kGW := kGW_of (List.mem_of_getElem? (i := 284) (by decide +kernel)) (by decide)
theorem wd_f37328b3 : Cond.classLink R_L 13 "java/lang/IllegalArgumentException" ∈ kGW := kGW_of (List.mem_of_getElem? (i := 282) (by decide +kernel)) (by decide)
theorem wd_8d568b9d : Cond.classLink R_L 15 "java/lang/IllegalStateException" ∈ kGW := kGW_of (List.mem_of_getElem? (i := 283) (by decide +kernel)) (by decide)
theorem wd_9d24967f : Cond.methodLink R_L 17 y_F_make ∈ kGW := kGW_of (List.mem_of_getElem? (i := 392) (by decide +kernel)) (by decide)
theorem wd_822852d1 : Cond.methodLink R_L 21 y_F_number ∈ kGW := kGW_of (List.mem_of_getElem? (i := 405) (by decide +kernel)) (by decide)
theorem wd_344b8025 : Cond.classLink R_L 25 "java/util/NoSuchElementException" ∈ kGW := kGW_of (List.mem_of_getElem? (i := 403) (by decide +kernel)) (by decide)
theorem wd_f6aaf630 : Cond.classLink R_L 27 "java/lang/UnsupportedOperationException" ∈ kGW := kGW_of (List.mem_of_getElem? (i := 404) (by decide +kernel)) (by decide)
theorem wd_c1f01804 : Cond.methodLink R_L 29 y_F_add ∈ kGW := kGW_of (List.mem_of_getElem? (i := 469) (by decide +kernel)) (by decide)
theorem wd_83064dd1 : Cond.methodLink R_L 32 y_F_fill ∈ kGW := kGW_of (List.mem_of_getElem? (i := 480) (by decide +kernel)) (by decide)
theorem wd_28f98e0a : Cond.methodLink R_L 36 y_F_link ∈ kGW := kGW_of (List.mem_of_getElem? (i := 491) (by decide +kernel)) (by decide)
theorem wd_e8f2409a : Cond.methodLink R_L 40 y_F_unset ∈ kGW := kGW_of (List.mem_of_getElem? (i := 506) (by decide +kernel)) (by decide)
theorem wd_6f68fe01 : Cond.methodLink R_L 43 y_F_build ∈ kGW := kGW_of (List.mem_of_getElem? (i := 518) (by decide +kernel)) (by decide)
theorem wd_d149e94a : Cond.classLink R_L 46 "java/lang/IndexOutOfBoundsException" ∈ kGW := kGW_of (List.mem_of_getElem? (i := 517) (by decide +kernel)) (by decide)
theorem wd_66dcd284 : Cond.methodLink R_L 48 y_F_at ∈ kGW := kGW_of (List.mem_of_getElem? (i := 635) (by decide +kernel)) (by decide)
theorem wd_5eb21dd2 : Cond.methodLink R_L 51 y_F_patch ∈ kGW := kGW_of (List.mem_of_getElem? (i := 655) (by decide +kernel)) (by decide)
theorem wd_aea6c2c4 : Cond.methodLink R_L 54 y_F_cut ∈ kGW := kGW_of (List.mem_of_getElem? (i := 667) (by decide +kernel)) (by decide)
theorem wd_71410b8d : Cond.methodLink R_L 57 y_F_verify ∈ kGW := kGW_of (List.mem_of_getElem? (i := 674) (by decide +kernel)) (by decide)
theorem wd_696c8c34 : Cond.methodLink R_L 60 y_F_top ∈ kGW := kGW_of (List.mem_of_getElem? (i := 750) (by decide +kernel)) (by decide)
theorem wd_2e891f6c : Cond.methodLink R_L 64 y_F_down ∈ kGW := kGW_of (List.mem_of_getElem? (i := 758) (by decide +kernel)) (by decide)
theorem wd_604a1197 : Cond.methodLink R_L 67 y_F_value ∈ kGW := kGW_of (List.mem_of_getElem? (i := 777) (by decide +kernel)) (by decide)
theorem wd_402efd02 : Cond.methodLink R_L 71 y_F_size ∈ kGW := kGW_of (List.mem_of_getElem? (i := 786) (by decide +kernel)) (by decide)
theorem wd_7263c1d2 : Cond.methodLink R_L 74 y_F_element ∈ kGW := kGW_of (List.mem_of_getElem? (i := 797) (by decide +kernel)) (by decide)
theorem wd_5524e48a : Cond.methodLink R_L 77 y_F_count ∈ kGW := kGW_of (List.mem_of_getElem? (i := 804) (by decide +kernel)) (by decide)
set_option maxRecDepth 20000 in
theorem wd_64a705ae : Cond.codeWith y_L_field b_L_field 7 (some .int) [(0, 14, 17, 13), (0, 14, 21, 15)] ∈ kGW := kGW_of (List.mem_of_getElem? (i := 281) (by rfl)) (by decide)
theorem wd_a57d0fc6 : Cond.initialized R_L ∈ kGW := kGW_of (List.mem_of_getElem? (i := 46) (by decide +kernel)) (by decide)
theorem wd_93cbfce2 : Cond.static y_L_field ∈ kGW := kGW_of (List.mem_of_getElem? (i := 280) (by decide +kernel)) (by decide)
set_option maxRecDepth 20000 in
theorem wd_51a7bd45 : Cond.codeWith y_L_make b_L_make 4 (some .int) [(0, 9, 12, 13), (0, 9, 15, 15)] ∈ kGW := kGW_of (List.mem_of_getElem? (i := 391) (by rfl)) (by decide)
theorem wd_893d2ecd : Cond.static y_L_make ∈ kGW := kGW_of (List.mem_of_getElem? (i := 390) (by decide +kernel)) (by decide)
set_option maxRecDepth 20000 in
theorem wd_f24db0e4 : Cond.codeWith y_L_number b_L_number 7 (some .int) [(0, 11, 14, 25), (0, 11, 18, 27)] ∈ kGW := kGW_of (List.mem_of_getElem? (i := 402) (by rfl)) (by decide)
theorem wd_66a19bc8 : Cond.static y_L_number ∈ kGW := kGW_of (List.mem_of_getElem? (i := 401) (by decide +kernel)) (by decide)
set_option maxRecDepth 20000 in
theorem wd_6ac18c94 : Cond.codeWith y_L_add b_L_add 4 (some .int) [(0, 9, 12, 15)] ∈ kGW := kGW_of (List.mem_of_getElem? (i := 468) (by rfl)) (by decide)
theorem wd_ac636189 : Cond.static y_L_add ∈ kGW := kGW_of (List.mem_of_getElem? (i := 467) (by decide +kernel)) (by decide)
set_option maxRecDepth 20000 in
theorem wd_57c4ab8e : Cond.codeWith y_L_fill b_L_fill 5 (some .int) [(0, 10, 13, 25), (0, 10, 17, 27)] ∈ kGW := kGW_of (List.mem_of_getElem? (i := 479) (by rfl)) (by decide)
theorem wd_04400055 : Cond.static y_L_fill ∈ kGW := kGW_of (List.mem_of_getElem? (i := 478) (by decide +kernel)) (by decide)
set_option maxRecDepth 20000 in
theorem wd_ddf9b349 : Cond.codeWith y_L_link b_L_link 6 (some .int) [(0, 12, 15, 25), (0, 12, 19, 27)] ∈ kGW := kGW_of (List.mem_of_getElem? (i := 490) (by rfl)) (by decide)
theorem wd_47ebd10a : Cond.static y_L_link ∈ kGW := kGW_of (List.mem_of_getElem? (i := 489) (by decide +kernel)) (by decide)
set_option maxRecDepth 20000 in
theorem wd_24b9b9ef : Cond.codeWith y_L_unset b_L_unset 5 (some .int) [(0, 10, 13, 25)] ∈ kGW := kGW_of (List.mem_of_getElem? (i := 505) (by rfl)) (by decide)
theorem wd_17dad4a9 : Cond.static y_L_unset ∈ kGW := kGW_of (List.mem_of_getElem? (i := 504) (by decide +kernel)) (by decide)
set_option maxRecDepth 20000 in
theorem wd_cab9cfa3 : Cond.codeWith y_L_build b_L_build 4 (some .int) [(0, 9, 12, 25), (0, 9, 15, 15), (0, 9, 18, 46)] ∈ kGW := kGW_of (List.mem_of_getElem? (i := 516) (by rfl)) (by decide)
theorem wd_bf411608 : Cond.static y_L_build ∈ kGW := kGW_of (List.mem_of_getElem? (i := 515) (by decide +kernel)) (by decide)
set_option maxRecDepth 20000 in
theorem wd_e038f813 : Cond.codeWith y_L_at b_L_at 4 (some .int) [(0, 9, 12, 46)] ∈ kGW := kGW_of (List.mem_of_getElem? (i := 634) (by rfl)) (by decide)
theorem wd_7d2f1394 : Cond.static y_L_at ∈ kGW := kGW_of (List.mem_of_getElem? (i := 633) (by decide +kernel)) (by decide)
set_option maxRecDepth 20000 in
theorem wd_33baf1e1 : Cond.codeWith y_L_patch b_L_patch 5 (some .int) [(0, 10, 13, 46)] ∈ kGW := kGW_of (List.mem_of_getElem? (i := 654) (by rfl)) (by decide)
theorem wd_e0538ff5 : Cond.static y_L_patch ∈ kGW := kGW_of (List.mem_of_getElem? (i := 653) (by decide +kernel)) (by decide)
set_option maxRecDepth 20000 in
theorem wd_40b4ab85 : Cond.codeWith y_L_cut b_L_cut 4 (some .int) [(0, 9, 12, 46)] ∈ kGW := kGW_of (List.mem_of_getElem? (i := 666) (by rfl)) (by decide)
theorem wd_c7c03cd3 : Cond.static y_L_cut ∈ kGW := kGW_of (List.mem_of_getElem? (i := 665) (by decide +kernel)) (by decide)
set_option maxRecDepth 20000 in
theorem wd_56d6b369 : Cond.codeWith y_L_verify b_L_verify 4 (some .int) [(0, 9, 12, 13)] ∈ kGW := kGW_of (List.mem_of_getElem? (i := 673) (by rfl)) (by decide)
theorem wd_663f1d1e : Cond.static y_L_verify ∈ kGW := kGW_of (List.mem_of_getElem? (i := 672) (by decide +kernel)) (by decide)
set_option maxRecDepth 20000 in
theorem wd_b85ca622 : Cond.codeWith y_L_top b_L_top 3 (some .int) [(0, 8, 11, 15)] ∈ kGW := kGW_of (List.mem_of_getElem? (i := 749) (by rfl)) (by decide)
theorem wd_53bf9a93 : Cond.static y_L_top ∈ kGW := kGW_of (List.mem_of_getElem? (i := 748) (by decide +kernel)) (by decide)
set_option maxRecDepth 20000 in
theorem wd_8d6c162d : Cond.codeWith y_L_down b_L_down 4 (some .int) [(0, 9, 12, 15), (0, 9, 15, 25), (0, 9, 18, 27)] ∈ kGW := kGW_of (List.mem_of_getElem? (i := 757) (by rfl)) (by decide)
theorem wd_8c93a2cd : Cond.static y_L_down ∈ kGW := kGW_of (List.mem_of_getElem? (i := 756) (by decide +kernel)) (by decide)
set_option maxRecDepth 20000 in
theorem wd_30ec8617 : Cond.codeWith y_L_value b_L_value 4 (some .int) [(0, 8, 11, 15), (0, 8, 14, 25), (0, 8, 17, 27)] ∈ kGW := kGW_of (List.mem_of_getElem? (i := 776) (by rfl)) (by decide)
theorem wd_2c6589bd : Cond.static y_L_value ∈ kGW := kGW_of (List.mem_of_getElem? (i := 775) (by decide +kernel)) (by decide)
set_option maxRecDepth 20000 in
theorem wd_b40dadda : Cond.codeWith y_L_size b_L_size 4 (some .int) [(0, 9, 12, 15), (0, 9, 15, 25), (0, 9, 18, 27)] ∈ kGW := kGW_of (List.mem_of_getElem? (i := 785) (by rfl)) (by decide)
theorem wd_1b92948d : Cond.static y_L_size ∈ kGW := kGW_of (List.mem_of_getElem? (i := 784) (by decide +kernel)) (by decide)
set_option maxRecDepth 20000 in
theorem wd_60b9e2b2 : Cond.codeWith y_L_element b_L_element 5 (some .int) [(0, 10, 13, 15), (0, 10, 17, 25), (0, 10, 21, 27), (0, 10, 25, 46)] ∈ kGW := kGW_of (List.mem_of_getElem? (i := 796) (by rfl)) (by decide)
theorem wd_ab057432 : Cond.static y_L_element ∈ kGW := kGW_of (List.mem_of_getElem? (i := 795) (by decide +kernel)) (by decide)
set_option maxRecDepth 20000 in
theorem wd_6c26250b : Cond.codeWith y_L_count b_L_count 4 (some .int) [(0, 9, 12, 13)] ∈ kGW := kGW_of (List.mem_of_getElem? (i := 803) (by rfl)) (by decide)
theorem wd_f427ed77 : Cond.static y_L_count ∈ kGW := kGW_of (List.mem_of_getElem? (i := 802) (by decide +kernel)) (by decide)
theorem d_L_field_0 : decode b_L_field 0 = .ok (.aload 5, 2) := by decide +kernel
theorem d_L_field_2 : decode b_L_field 2 = .ok (.iconst 0, 1) := by decide +kernel
theorem d_L_field_3 : decode b_L_field 3 = .ok (.aload_n 0, 1) := by decide +kernel
theorem d_L_field_4 : decode b_L_field 4 = .ok (.iload_n 1, 1) := by decide +kernel
theorem d_L_field_5 : decode b_L_field 5 = .ok (.iload_n 2, 1) := by decide +kernel
theorem d_L_field_6 : decode b_L_field 6 = .ok (.iload_n 3, 1) := by decide +kernel
theorem d_L_field_7 : decode b_L_field 7 = .ok (.iload 4, 2) := by decide +kernel
theorem d_L_field_9 : decode b_L_field 9 = .ok (.invokevirtual 7, 3) := by decide +kernel
theorem d_L_field_12 : decode b_L_field 12 = .ok (.i2l, 1) := by decide +kernel
theorem d_L_field_13 : decode b_L_field 13 = .ok (.lastore, 1) := by decide +kernel
theorem d_L_field_14 : decode b_L_field 14 = .ok (.goto 11, 3) := by decide +kernel
theorem d_L_field_17 : decode b_L_field 17 = .ok (.astore 6, 2) := by decide +kernel
theorem d_L_field_19 : decode b_L_field 19 = .ok (.iconst 1, 1) := by decide +kernel
theorem d_L_field_20 : decode b_L_field 20 = .ok (.ireturn, 1) := by decide +kernel
theorem d_L_field_21 : decode b_L_field 21 = .ok (.astore 6, 2) := by decide +kernel
theorem d_L_field_23 : decode b_L_field 23 = .ok (.iconst 2, 1) := by decide +kernel
theorem d_L_field_24 : decode b_L_field 24 = .ok (.ireturn, 1) := by decide +kernel
theorem d_L_field_25 : decode b_L_field 25 = .ok (.iconst 0, 1) := by decide +kernel
theorem d_L_field_26 : decode b_L_field 26 = .ok (.ireturn, 1) := by decide +kernel
theorem d_L_make_0 : decode b_L_make 0 = .ok (.aload_n 2, 1) := by decide +kernel
theorem d_L_make_1 : decode b_L_make 1 = .ok (.iconst 0, 1) := by decide +kernel
theorem d_L_make_2 : decode b_L_make 2 = .ok (.aload_n 0, 1) := by decide +kernel
theorem d_L_make_3 : decode b_L_make 3 = .ok (.iload_n 1, 1) := by decide +kernel
theorem d_L_make_4 : decode b_L_make 4 = .ok (.invokevirtual 17, 3) := by decide +kernel
theorem d_L_make_7 : decode b_L_make 7 = .ok (.i2l, 1) := by decide +kernel
theorem d_L_make_8 : decode b_L_make 8 = .ok (.lastore, 1) := by decide +kernel
theorem d_L_make_9 : decode b_L_make 9 = .ok (.goto 9, 3) := by decide +kernel
theorem d_L_make_12 : decode b_L_make 12 = .ok (.astore_n 3, 1) := by decide +kernel
theorem d_L_make_13 : decode b_L_make 13 = .ok (.iconst 1, 1) := by decide +kernel
theorem d_L_make_14 : decode b_L_make 14 = .ok (.ireturn, 1) := by decide +kernel
theorem d_L_make_15 : decode b_L_make 15 = .ok (.astore_n 3, 1) := by decide +kernel
theorem d_L_make_16 : decode b_L_make 16 = .ok (.iconst 2, 1) := by decide +kernel
theorem d_L_make_17 : decode b_L_make 17 = .ok (.ireturn, 1) := by decide +kernel
theorem d_L_make_18 : decode b_L_make 18 = .ok (.iconst 0, 1) := by decide +kernel
theorem d_L_make_19 : decode b_L_make 19 = .ok (.ireturn, 1) := by decide +kernel
theorem d_L_number_0 : decode b_L_number 0 = .ok (.aload 5, 2) := by decide +kernel
theorem d_L_number_2 : decode b_L_number 2 = .ok (.iconst 0, 1) := by decide +kernel
theorem d_L_number_3 : decode b_L_number 3 = .ok (.aload_n 0, 1) := by decide +kernel
theorem d_L_number_4 : decode b_L_number 4 = .ok (.iload_n 1, 1) := by decide +kernel
theorem d_L_number_5 : decode b_L_number 5 = .ok (.iload_n 2, 1) := by decide +kernel
theorem d_L_number_6 : decode b_L_number 6 = .ok (.lload_n 3, 1) := by decide +kernel
theorem d_L_number_7 : decode b_L_number 7 = .ok (.invokevirtual 21, 3) := by decide +kernel
theorem d_L_number_10 : decode b_L_number 10 = .ok (.lastore, 1) := by decide +kernel
theorem d_L_number_11 : decode b_L_number 11 = .ok (.goto 11, 3) := by decide +kernel
theorem d_L_number_14 : decode b_L_number 14 = .ok (.astore 6, 2) := by decide +kernel
theorem d_L_number_16 : decode b_L_number 16 = .ok (.iconst 1, 1) := by decide +kernel
theorem d_L_number_17 : decode b_L_number 17 = .ok (.ireturn, 1) := by decide +kernel
theorem d_L_number_18 : decode b_L_number 18 = .ok (.astore 6, 2) := by decide +kernel
theorem d_L_number_20 : decode b_L_number 20 = .ok (.iconst 2, 1) := by decide +kernel
theorem d_L_number_21 : decode b_L_number 21 = .ok (.ireturn, 1) := by decide +kernel
theorem d_L_number_22 : decode b_L_number 22 = .ok (.iconst 0, 1) := by decide +kernel
theorem d_L_number_23 : decode b_L_number 23 = .ok (.ireturn, 1) := by decide +kernel
theorem d_L_add_0 : decode b_L_add 0 = .ok (.aload_n 2, 1) := by decide +kernel
theorem d_L_add_1 : decode b_L_add 1 = .ok (.iconst 0, 1) := by decide +kernel
theorem d_L_add_2 : decode b_L_add 2 = .ok (.aload_n 0, 1) := by decide +kernel
theorem d_L_add_3 : decode b_L_add 3 = .ok (.iload_n 1, 1) := by decide +kernel
theorem d_L_add_4 : decode b_L_add 4 = .ok (.invokevirtual 29, 3) := by decide +kernel
theorem d_L_add_7 : decode b_L_add 7 = .ok (.i2l, 1) := by decide +kernel
theorem d_L_add_8 : decode b_L_add 8 = .ok (.lastore, 1) := by decide +kernel
theorem d_L_add_9 : decode b_L_add 9 = .ok (.goto 6, 3) := by decide +kernel
theorem d_L_add_12 : decode b_L_add 12 = .ok (.astore_n 3, 1) := by decide +kernel
theorem d_L_add_13 : decode b_L_add 13 = .ok (.iconst 1, 1) := by decide +kernel
theorem d_L_add_14 : decode b_L_add 14 = .ok (.ireturn, 1) := by decide +kernel
theorem d_L_add_15 : decode b_L_add 15 = .ok (.iconst 0, 1) := by decide +kernel
theorem d_L_add_16 : decode b_L_add 16 = .ok (.ireturn, 1) := by decide +kernel
theorem d_L_fill_0 : decode b_L_fill 0 = .ok (.aload_n 3, 1) := by decide +kernel
theorem d_L_fill_1 : decode b_L_fill 1 = .ok (.iconst 0, 1) := by decide +kernel
theorem d_L_fill_2 : decode b_L_fill 2 = .ok (.aload_n 0, 1) := by decide +kernel
theorem d_L_fill_3 : decode b_L_fill 3 = .ok (.iload_n 1, 1) := by decide +kernel
theorem d_L_fill_4 : decode b_L_fill 4 = .ok (.iload_n 2, 1) := by decide +kernel
theorem d_L_fill_5 : decode b_L_fill 5 = .ok (.invokevirtual 32, 3) := by decide +kernel
theorem d_L_fill_8 : decode b_L_fill 8 = .ok (.i2l, 1) := by decide +kernel
theorem d_L_fill_9 : decode b_L_fill 9 = .ok (.lastore, 1) := by decide +kernel
theorem d_L_fill_10 : decode b_L_fill 10 = .ok (.goto 11, 3) := by decide +kernel
theorem d_L_fill_13 : decode b_L_fill 13 = .ok (.astore 4, 2) := by decide +kernel
theorem d_L_fill_15 : decode b_L_fill 15 = .ok (.iconst 1, 1) := by decide +kernel
theorem d_L_fill_16 : decode b_L_fill 16 = .ok (.ireturn, 1) := by decide +kernel
theorem d_L_fill_17 : decode b_L_fill 17 = .ok (.astore 4, 2) := by decide +kernel
theorem d_L_fill_19 : decode b_L_fill 19 = .ok (.iconst 2, 1) := by decide +kernel
theorem d_L_fill_20 : decode b_L_fill 20 = .ok (.ireturn, 1) := by decide +kernel
theorem d_L_fill_21 : decode b_L_fill 21 = .ok (.iconst 0, 1) := by decide +kernel
theorem d_L_fill_22 : decode b_L_fill 22 = .ok (.ireturn, 1) := by decide +kernel
theorem d_L_link_0 : decode b_L_link 0 = .ok (.aload 4, 2) := by decide +kernel
theorem d_L_link_2 : decode b_L_link 2 = .ok (.iconst 0, 1) := by decide +kernel
theorem d_L_link_3 : decode b_L_link 3 = .ok (.aload_n 0, 1) := by decide +kernel
theorem d_L_link_4 : decode b_L_link 4 = .ok (.iload_n 1, 1) := by decide +kernel
theorem d_L_link_5 : decode b_L_link 5 = .ok (.iload_n 2, 1) := by decide +kernel
theorem d_L_link_6 : decode b_L_link 6 = .ok (.iload_n 3, 1) := by decide +kernel
theorem d_L_link_7 : decode b_L_link 7 = .ok (.invokevirtual 36, 3) := by decide +kernel
theorem d_L_link_10 : decode b_L_link 10 = .ok (.i2l, 1) := by decide +kernel
theorem d_L_link_11 : decode b_L_link 11 = .ok (.lastore, 1) := by decide +kernel
theorem d_L_link_12 : decode b_L_link 12 = .ok (.goto 11, 3) := by decide +kernel
theorem d_L_link_15 : decode b_L_link 15 = .ok (.astore 5, 2) := by decide +kernel
theorem d_L_link_17 : decode b_L_link 17 = .ok (.iconst 1, 1) := by decide +kernel
theorem d_L_link_18 : decode b_L_link 18 = .ok (.ireturn, 1) := by decide +kernel
theorem d_L_link_19 : decode b_L_link 19 = .ok (.astore 5, 2) := by decide +kernel
theorem d_L_link_21 : decode b_L_link 21 = .ok (.iconst 2, 1) := by decide +kernel
theorem d_L_link_22 : decode b_L_link 22 = .ok (.ireturn, 1) := by decide +kernel
theorem d_L_link_23 : decode b_L_link 23 = .ok (.iconst 0, 1) := by decide +kernel
theorem d_L_link_24 : decode b_L_link 24 = .ok (.ireturn, 1) := by decide +kernel
theorem d_L_unset_0 : decode b_L_unset 0 = .ok (.aload_n 3, 1) := by decide +kernel
theorem d_L_unset_1 : decode b_L_unset 1 = .ok (.iconst 0, 1) := by decide +kernel
theorem d_L_unset_2 : decode b_L_unset 2 = .ok (.aload_n 0, 1) := by decide +kernel
theorem d_L_unset_3 : decode b_L_unset 3 = .ok (.iload_n 1, 1) := by decide +kernel
theorem d_L_unset_4 : decode b_L_unset 4 = .ok (.iload_n 2, 1) := by decide +kernel
theorem d_L_unset_5 : decode b_L_unset 5 = .ok (.invokevirtual 40, 3) := by decide +kernel
theorem d_L_unset_8 : decode b_L_unset 8 = .ok (.i2l, 1) := by decide +kernel
theorem d_L_unset_9 : decode b_L_unset 9 = .ok (.lastore, 1) := by decide +kernel
theorem d_L_unset_10 : decode b_L_unset 10 = .ok (.goto 7, 3) := by decide +kernel
theorem d_L_unset_13 : decode b_L_unset 13 = .ok (.astore 4, 2) := by decide +kernel
theorem d_L_unset_15 : decode b_L_unset 15 = .ok (.iconst 1, 1) := by decide +kernel
theorem d_L_unset_16 : decode b_L_unset 16 = .ok (.ireturn, 1) := by decide +kernel
theorem d_L_unset_17 : decode b_L_unset 17 = .ok (.iconst 0, 1) := by decide +kernel
theorem d_L_unset_18 : decode b_L_unset 18 = .ok (.ireturn, 1) := by decide +kernel
theorem d_L_build_0 : decode b_L_build 0 = .ok (.aload_n 2, 1) := by decide +kernel
theorem d_L_build_1 : decode b_L_build 1 = .ok (.iconst 0, 1) := by decide +kernel
theorem d_L_build_2 : decode b_L_build 2 = .ok (.aload_n 0, 1) := by decide +kernel
theorem d_L_build_3 : decode b_L_build 3 = .ok (.iload_n 1, 1) := by decide +kernel
theorem d_L_build_4 : decode b_L_build 4 = .ok (.invokevirtual 43, 3) := by decide +kernel
theorem d_L_build_7 : decode b_L_build 7 = .ok (.i2l, 1) := by decide +kernel
theorem d_L_build_8 : decode b_L_build 8 = .ok (.lastore, 1) := by decide +kernel
theorem d_L_build_9 : decode b_L_build 9 = .ok (.goto 12, 3) := by decide +kernel
theorem d_L_build_12 : decode b_L_build 12 = .ok (.astore_n 3, 1) := by decide +kernel
theorem d_L_build_13 : decode b_L_build 13 = .ok (.iconst 1, 1) := by decide +kernel
theorem d_L_build_14 : decode b_L_build 14 = .ok (.ireturn, 1) := by decide +kernel
theorem d_L_build_15 : decode b_L_build 15 = .ok (.astore_n 3, 1) := by decide +kernel
theorem d_L_build_16 : decode b_L_build 16 = .ok (.iconst 2, 1) := by decide +kernel
theorem d_L_build_17 : decode b_L_build 17 = .ok (.ireturn, 1) := by decide +kernel
theorem d_L_build_18 : decode b_L_build 18 = .ok (.astore_n 3, 1) := by decide +kernel
theorem d_L_build_19 : decode b_L_build 19 = .ok (.iconst 3, 1) := by decide +kernel
theorem d_L_build_20 : decode b_L_build 20 = .ok (.ireturn, 1) := by decide +kernel
theorem d_L_build_21 : decode b_L_build 21 = .ok (.iconst 0, 1) := by decide +kernel
theorem d_L_build_22 : decode b_L_build 22 = .ok (.ireturn, 1) := by decide +kernel
theorem d_L_at_0 : decode b_L_at 0 = .ok (.aload_n 2, 1) := by decide +kernel
theorem d_L_at_1 : decode b_L_at 1 = .ok (.iconst 0, 1) := by decide +kernel
theorem d_L_at_2 : decode b_L_at 2 = .ok (.aload_n 0, 1) := by decide +kernel
theorem d_L_at_3 : decode b_L_at 3 = .ok (.iload_n 1, 1) := by decide +kernel
theorem d_L_at_4 : decode b_L_at 4 = .ok (.invokevirtual 48, 3) := by decide +kernel
theorem d_L_at_7 : decode b_L_at 7 = .ok (.i2l, 1) := by decide +kernel
theorem d_L_at_8 : decode b_L_at 8 = .ok (.lastore, 1) := by decide +kernel
theorem d_L_at_9 : decode b_L_at 9 = .ok (.goto 6, 3) := by decide +kernel
theorem d_L_at_12 : decode b_L_at 12 = .ok (.astore_n 3, 1) := by decide +kernel
theorem d_L_at_13 : decode b_L_at 13 = .ok (.iconst 1, 1) := by decide +kernel
theorem d_L_at_14 : decode b_L_at 14 = .ok (.ireturn, 1) := by decide +kernel
theorem d_L_at_15 : decode b_L_at 15 = .ok (.iconst 0, 1) := by decide +kernel
theorem d_L_at_16 : decode b_L_at 16 = .ok (.ireturn, 1) := by decide +kernel
theorem d_L_patch_0 : decode b_L_patch 0 = .ok (.aload_n 3, 1) := by decide +kernel
theorem d_L_patch_1 : decode b_L_patch 1 = .ok (.iconst 0, 1) := by decide +kernel
theorem d_L_patch_2 : decode b_L_patch 2 = .ok (.aload_n 0, 1) := by decide +kernel
theorem d_L_patch_3 : decode b_L_patch 3 = .ok (.iload_n 1, 1) := by decide +kernel
theorem d_L_patch_4 : decode b_L_patch 4 = .ok (.iload_n 2, 1) := by decide +kernel
theorem d_L_patch_5 : decode b_L_patch 5 = .ok (.invokevirtual 51, 3) := by decide +kernel
theorem d_L_patch_8 : decode b_L_patch 8 = .ok (.i2l, 1) := by decide +kernel
theorem d_L_patch_9 : decode b_L_patch 9 = .ok (.lastore, 1) := by decide +kernel
theorem d_L_patch_10 : decode b_L_patch 10 = .ok (.goto 7, 3) := by decide +kernel
theorem d_L_patch_13 : decode b_L_patch 13 = .ok (.astore 4, 2) := by decide +kernel
theorem d_L_patch_15 : decode b_L_patch 15 = .ok (.iconst 1, 1) := by decide +kernel
theorem d_L_patch_16 : decode b_L_patch 16 = .ok (.ireturn, 1) := by decide +kernel
theorem d_L_patch_17 : decode b_L_patch 17 = .ok (.iconst 0, 1) := by decide +kernel
theorem d_L_patch_18 : decode b_L_patch 18 = .ok (.ireturn, 1) := by decide +kernel
theorem d_L_cut_0 : decode b_L_cut 0 = .ok (.aload_n 2, 1) := by decide +kernel
theorem d_L_cut_1 : decode b_L_cut 1 = .ok (.iconst 0, 1) := by decide +kernel
theorem d_L_cut_2 : decode b_L_cut 2 = .ok (.aload_n 0, 1) := by decide +kernel
theorem d_L_cut_3 : decode b_L_cut 3 = .ok (.iload_n 1, 1) := by decide +kernel
theorem d_L_cut_4 : decode b_L_cut 4 = .ok (.invokevirtual 54, 3) := by decide +kernel
theorem d_L_cut_7 : decode b_L_cut 7 = .ok (.i2l, 1) := by decide +kernel
theorem d_L_cut_8 : decode b_L_cut 8 = .ok (.lastore, 1) := by decide +kernel
theorem d_L_cut_9 : decode b_L_cut 9 = .ok (.goto 6, 3) := by decide +kernel
theorem d_L_cut_12 : decode b_L_cut 12 = .ok (.astore_n 3, 1) := by decide +kernel
theorem d_L_cut_13 : decode b_L_cut 13 = .ok (.iconst 1, 1) := by decide +kernel
theorem d_L_cut_14 : decode b_L_cut 14 = .ok (.ireturn, 1) := by decide +kernel
theorem d_L_cut_15 : decode b_L_cut 15 = .ok (.iconst 0, 1) := by decide +kernel
theorem d_L_cut_16 : decode b_L_cut 16 = .ok (.ireturn, 1) := by decide +kernel
theorem d_L_verify_0 : decode b_L_verify 0 = .ok (.aload_n 2, 1) := by decide +kernel
theorem d_L_verify_1 : decode b_L_verify 1 = .ok (.iconst 0, 1) := by decide +kernel
theorem d_L_verify_2 : decode b_L_verify 2 = .ok (.aload_n 0, 1) := by decide +kernel
theorem d_L_verify_3 : decode b_L_verify 3 = .ok (.iload_n 1, 1) := by decide +kernel
theorem d_L_verify_4 : decode b_L_verify 4 = .ok (.invokevirtual 57, 3) := by decide +kernel
theorem d_L_verify_7 : decode b_L_verify 7 = .ok (.i2l, 1) := by decide +kernel
theorem d_L_verify_8 : decode b_L_verify 8 = .ok (.lastore, 1) := by decide +kernel
theorem d_L_verify_9 : decode b_L_verify 9 = .ok (.goto 6, 3) := by decide +kernel
theorem d_L_verify_12 : decode b_L_verify 12 = .ok (.astore_n 3, 1) := by decide +kernel
theorem d_L_verify_13 : decode b_L_verify 13 = .ok (.iconst 1, 1) := by decide +kernel
theorem d_L_verify_14 : decode b_L_verify 14 = .ok (.ireturn, 1) := by decide +kernel
theorem d_L_verify_15 : decode b_L_verify 15 = .ok (.iconst 0, 1) := by decide +kernel
theorem d_L_verify_16 : decode b_L_verify 16 = .ok (.ireturn, 1) := by decide +kernel
theorem d_L_top_0 : decode b_L_top 0 = .ok (.aload_n 1, 1) := by decide +kernel
theorem d_L_top_1 : decode b_L_top 1 = .ok (.iconst 0, 1) := by decide +kernel
theorem d_L_top_2 : decode b_L_top 2 = .ok (.aload_n 0, 1) := by decide +kernel
theorem d_L_top_3 : decode b_L_top 3 = .ok (.invokevirtual 60, 3) := by decide +kernel
theorem d_L_top_6 : decode b_L_top 6 = .ok (.i2l, 1) := by decide +kernel
theorem d_L_top_7 : decode b_L_top 7 = .ok (.lastore, 1) := by decide +kernel
theorem d_L_top_8 : decode b_L_top 8 = .ok (.goto 6, 3) := by decide +kernel
theorem d_L_top_11 : decode b_L_top 11 = .ok (.astore_n 2, 1) := by decide +kernel
theorem d_L_top_12 : decode b_L_top 12 = .ok (.iconst 1, 1) := by decide +kernel
theorem d_L_top_13 : decode b_L_top 13 = .ok (.ireturn, 1) := by decide +kernel
theorem d_L_top_14 : decode b_L_top 14 = .ok (.iconst 0, 1) := by decide +kernel
theorem d_L_top_15 : decode b_L_top 15 = .ok (.ireturn, 1) := by decide +kernel
theorem d_L_down_0 : decode b_L_down 0 = .ok (.aload_n 2, 1) := by decide +kernel
theorem d_L_down_1 : decode b_L_down 1 = .ok (.iconst 0, 1) := by decide +kernel
theorem d_L_down_2 : decode b_L_down 2 = .ok (.aload_n 0, 1) := by decide +kernel
theorem d_L_down_3 : decode b_L_down 3 = .ok (.iload_n 1, 1) := by decide +kernel
theorem d_L_down_4 : decode b_L_down 4 = .ok (.invokevirtual 64, 3) := by decide +kernel
theorem d_L_down_7 : decode b_L_down 7 = .ok (.i2l, 1) := by decide +kernel
theorem d_L_down_8 : decode b_L_down 8 = .ok (.lastore, 1) := by decide +kernel
theorem d_L_down_9 : decode b_L_down 9 = .ok (.goto 12, 3) := by decide +kernel
theorem d_L_down_12 : decode b_L_down 12 = .ok (.astore_n 3, 1) := by decide +kernel
theorem d_L_down_13 : decode b_L_down 13 = .ok (.iconst 1, 1) := by decide +kernel
theorem d_L_down_14 : decode b_L_down 14 = .ok (.ireturn, 1) := by decide +kernel
theorem d_L_down_15 : decode b_L_down 15 = .ok (.astore_n 3, 1) := by decide +kernel
theorem d_L_down_16 : decode b_L_down 16 = .ok (.iconst 2, 1) := by decide +kernel
theorem d_L_down_17 : decode b_L_down 17 = .ok (.ireturn, 1) := by decide +kernel
theorem d_L_down_18 : decode b_L_down 18 = .ok (.astore_n 3, 1) := by decide +kernel
theorem d_L_down_19 : decode b_L_down 19 = .ok (.iconst 3, 1) := by decide +kernel
theorem d_L_down_20 : decode b_L_down 20 = .ok (.ireturn, 1) := by decide +kernel
theorem d_L_down_21 : decode b_L_down 21 = .ok (.iconst 0, 1) := by decide +kernel
theorem d_L_down_22 : decode b_L_down 22 = .ok (.ireturn, 1) := by decide +kernel
theorem d_L_value_0 : decode b_L_value 0 = .ok (.aload_n 2, 1) := by decide +kernel
theorem d_L_value_1 : decode b_L_value 1 = .ok (.iconst 0, 1) := by decide +kernel
theorem d_L_value_2 : decode b_L_value 2 = .ok (.aload_n 0, 1) := by decide +kernel
theorem d_L_value_3 : decode b_L_value 3 = .ok (.iload_n 1, 1) := by decide +kernel
theorem d_L_value_4 : decode b_L_value 4 = .ok (.invokevirtual 67, 3) := by decide +kernel
theorem d_L_value_7 : decode b_L_value 7 = .ok (.lastore, 1) := by decide +kernel
theorem d_L_value_8 : decode b_L_value 8 = .ok (.goto 12, 3) := by decide +kernel
theorem d_L_value_11 : decode b_L_value 11 = .ok (.astore_n 3, 1) := by decide +kernel
theorem d_L_value_12 : decode b_L_value 12 = .ok (.iconst 1, 1) := by decide +kernel
theorem d_L_value_13 : decode b_L_value 13 = .ok (.ireturn, 1) := by decide +kernel
theorem d_L_value_14 : decode b_L_value 14 = .ok (.astore_n 3, 1) := by decide +kernel
theorem d_L_value_15 : decode b_L_value 15 = .ok (.iconst 2, 1) := by decide +kernel
theorem d_L_value_16 : decode b_L_value 16 = .ok (.ireturn, 1) := by decide +kernel
theorem d_L_value_17 : decode b_L_value 17 = .ok (.astore_n 3, 1) := by decide +kernel
theorem d_L_value_18 : decode b_L_value 18 = .ok (.iconst 3, 1) := by decide +kernel
theorem d_L_value_19 : decode b_L_value 19 = .ok (.ireturn, 1) := by decide +kernel
theorem d_L_value_20 : decode b_L_value 20 = .ok (.iconst 0, 1) := by decide +kernel
theorem d_L_value_21 : decode b_L_value 21 = .ok (.ireturn, 1) := by decide +kernel
theorem d_L_size_0 : decode b_L_size 0 = .ok (.aload_n 2, 1) := by decide +kernel
theorem d_L_size_1 : decode b_L_size 1 = .ok (.iconst 0, 1) := by decide +kernel
theorem d_L_size_2 : decode b_L_size 2 = .ok (.aload_n 0, 1) := by decide +kernel
theorem d_L_size_3 : decode b_L_size 3 = .ok (.iload_n 1, 1) := by decide +kernel
theorem d_L_size_4 : decode b_L_size 4 = .ok (.invokevirtual 71, 3) := by decide +kernel
theorem d_L_size_7 : decode b_L_size 7 = .ok (.i2l, 1) := by decide +kernel
theorem d_L_size_8 : decode b_L_size 8 = .ok (.lastore, 1) := by decide +kernel
theorem d_L_size_9 : decode b_L_size 9 = .ok (.goto 12, 3) := by decide +kernel
theorem d_L_size_12 : decode b_L_size 12 = .ok (.astore_n 3, 1) := by decide +kernel
theorem d_L_size_13 : decode b_L_size 13 = .ok (.iconst 1, 1) := by decide +kernel
theorem d_L_size_14 : decode b_L_size 14 = .ok (.ireturn, 1) := by decide +kernel
theorem d_L_size_15 : decode b_L_size 15 = .ok (.astore_n 3, 1) := by decide +kernel
theorem d_L_size_16 : decode b_L_size 16 = .ok (.iconst 2, 1) := by decide +kernel
theorem d_L_size_17 : decode b_L_size 17 = .ok (.ireturn, 1) := by decide +kernel
theorem d_L_size_18 : decode b_L_size 18 = .ok (.astore_n 3, 1) := by decide +kernel
theorem d_L_size_19 : decode b_L_size 19 = .ok (.iconst 3, 1) := by decide +kernel
theorem d_L_size_20 : decode b_L_size 20 = .ok (.ireturn, 1) := by decide +kernel
theorem d_L_size_21 : decode b_L_size 21 = .ok (.iconst 0, 1) := by decide +kernel
theorem d_L_size_22 : decode b_L_size 22 = .ok (.ireturn, 1) := by decide +kernel
theorem d_L_element_0 : decode b_L_element 0 = .ok (.aload_n 3, 1) := by decide +kernel
theorem d_L_element_1 : decode b_L_element 1 = .ok (.iconst 0, 1) := by decide +kernel
theorem d_L_element_2 : decode b_L_element 2 = .ok (.aload_n 0, 1) := by decide +kernel
theorem d_L_element_3 : decode b_L_element 3 = .ok (.iload_n 1, 1) := by decide +kernel
theorem d_L_element_4 : decode b_L_element 4 = .ok (.iload_n 2, 1) := by decide +kernel
theorem d_L_element_5 : decode b_L_element 5 = .ok (.invokevirtual 74, 3) := by decide +kernel
theorem d_L_element_8 : decode b_L_element 8 = .ok (.i2l, 1) := by decide +kernel
theorem d_L_element_9 : decode b_L_element 9 = .ok (.lastore, 1) := by decide +kernel
theorem d_L_element_10 : decode b_L_element 10 = .ok (.goto 19, 3) := by decide +kernel
theorem d_L_element_13 : decode b_L_element 13 = .ok (.astore 4, 2) := by decide +kernel
theorem d_L_element_15 : decode b_L_element 15 = .ok (.iconst 1, 1) := by decide +kernel
theorem d_L_element_16 : decode b_L_element 16 = .ok (.ireturn, 1) := by decide +kernel
theorem d_L_element_17 : decode b_L_element 17 = .ok (.astore 4, 2) := by decide +kernel
theorem d_L_element_19 : decode b_L_element 19 = .ok (.iconst 2, 1) := by decide +kernel
theorem d_L_element_20 : decode b_L_element 20 = .ok (.ireturn, 1) := by decide +kernel
theorem d_L_element_21 : decode b_L_element 21 = .ok (.astore 4, 2) := by decide +kernel
theorem d_L_element_23 : decode b_L_element 23 = .ok (.iconst 3, 1) := by decide +kernel
theorem d_L_element_24 : decode b_L_element 24 = .ok (.ireturn, 1) := by decide +kernel
theorem d_L_element_25 : decode b_L_element 25 = .ok (.astore 4, 2) := by decide +kernel
theorem d_L_element_27 : decode b_L_element 27 = .ok (.iconst 4, 1) := by decide +kernel
theorem d_L_element_28 : decode b_L_element 28 = .ok (.ireturn, 1) := by decide +kernel
theorem d_L_element_29 : decode b_L_element 29 = .ok (.iconst 0, 1) := by decide +kernel
theorem d_L_element_30 : decode b_L_element 30 = .ok (.ireturn, 1) := by decide +kernel
theorem d_L_count_0 : decode b_L_count 0 = .ok (.aload_n 2, 1) := by decide +kernel
theorem d_L_count_1 : decode b_L_count 1 = .ok (.iconst 0, 1) := by decide +kernel
theorem d_L_count_2 : decode b_L_count 2 = .ok (.aload_n 0, 1) := by decide +kernel
theorem d_L_count_3 : decode b_L_count 3 = .ok (.iload_n 1, 1) := by decide +kernel
theorem d_L_count_4 : decode b_L_count 4 = .ok (.invokevirtual 77, 3) := by decide +kernel
theorem d_L_count_7 : decode b_L_count 7 = .ok (.i2l, 1) := by decide +kernel
theorem d_L_count_8 : decode b_L_count 8 = .ok (.lastore, 1) := by decide +kernel
theorem d_L_count_9 : decode b_L_count 9 = .ok (.goto 6, 3) := by decide +kernel
theorem d_L_count_12 : decode b_L_count 12 = .ok (.astore_n 3, 1) := by decide +kernel
theorem d_L_count_13 : decode b_L_count 13 = .ok (.iconst 1, 1) := by decide +kernel
theorem d_L_count_14 : decode b_L_count 14 = .ok (.ireturn, 1) := by decide +kernel
theorem d_L_count_15 : decode b_L_count 15 = .ok (.iconst 0, 1) := by decide +kernel
theorem d_L_count_16 : decode b_L_count 16 = .ok (.ireturn, 1) := by decide +kernel
theorem m_L_field : kIH y_L_field b_L_field 7 (some .int) [(0, 14, 17, 13), (0, 14, 21, 15)] 6 := ⟨wd_64a705ae, wd_a57d0fc6, ⟨by decide, by decide⟩, by decide +kernel, wd_93cbfce2⟩
theorem m_L_make : kIH y_L_make b_L_make 4 (some .int) [(0, 9, 12, 13), (0, 9, 15, 15)] 3 := ⟨wd_51a7bd45, wd_a57d0fc6, ⟨by decide, by decide⟩, by decide +kernel, wd_893d2ecd⟩
theorem m_L_number : kIH y_L_number b_L_number 7 (some .int) [(0, 11, 14, 25), (0, 11, 18, 27)] 5 := ⟨wd_f24db0e4, wd_a57d0fc6, ⟨by decide, by decide⟩, by decide +kernel, wd_66a19bc8⟩
theorem m_L_add : kIH y_L_add b_L_add 4 (some .int) [(0, 9, 12, 15)] 3 := ⟨wd_6ac18c94, wd_a57d0fc6, ⟨by decide, by decide⟩, by decide +kernel, wd_ac636189⟩
theorem m_L_fill : kIH y_L_fill b_L_fill 5 (some .int) [(0, 10, 13, 25), (0, 10, 17, 27)] 4 := ⟨wd_57c4ab8e, wd_a57d0fc6, ⟨by decide, by decide⟩, by decide +kernel, wd_04400055⟩
theorem m_L_link : kIH y_L_link b_L_link 6 (some .int) [(0, 12, 15, 25), (0, 12, 19, 27)] 5 := ⟨wd_ddf9b349, wd_a57d0fc6, ⟨by decide, by decide⟩, by decide +kernel, wd_47ebd10a⟩
theorem m_L_unset : kIH y_L_unset b_L_unset 5 (some .int) [(0, 10, 13, 25)] 4 := ⟨wd_24b9b9ef, wd_a57d0fc6, ⟨by decide, by decide⟩, by decide +kernel, wd_17dad4a9⟩
theorem m_L_build : kIH y_L_build b_L_build 4 (some .int) [(0, 9, 12, 25), (0, 9, 15, 15), (0, 9, 18, 46)] 3 := ⟨wd_cab9cfa3, wd_a57d0fc6, ⟨by decide, by decide⟩, by decide +kernel, wd_bf411608⟩
theorem m_L_at : kIH y_L_at b_L_at 4 (some .int) [(0, 9, 12, 46)] 3 := ⟨wd_e038f813, wd_a57d0fc6, ⟨by decide, by decide⟩, by decide +kernel, wd_7d2f1394⟩
theorem m_L_patch : kIH y_L_patch b_L_patch 5 (some .int) [(0, 10, 13, 46)] 4 := ⟨wd_33baf1e1, wd_a57d0fc6, ⟨by decide, by decide⟩, by decide +kernel, wd_e0538ff5⟩
theorem m_L_cut : kIH y_L_cut b_L_cut 4 (some .int) [(0, 9, 12, 46)] 3 := ⟨wd_40b4ab85, wd_a57d0fc6, ⟨by decide, by decide⟩, by decide +kernel, wd_c7c03cd3⟩
theorem m_L_verify : kIH y_L_verify b_L_verify 4 (some .int) [(0, 9, 12, 13)] 3 := ⟨wd_56d6b369, wd_a57d0fc6, ⟨by decide, by decide⟩, by decide +kernel, wd_663f1d1e⟩
theorem m_L_top : kIH y_L_top b_L_top 3 (some .int) [(0, 8, 11, 15)] 2 := ⟨wd_b85ca622, wd_a57d0fc6, ⟨by decide, by decide⟩, by decide +kernel, wd_53bf9a93⟩
theorem m_L_down : kIH y_L_down b_L_down 4 (some .int) [(0, 9, 12, 15), (0, 9, 15, 25), (0, 9, 18, 27)] 3 := ⟨wd_8d6c162d, wd_a57d0fc6, ⟨by decide, by decide⟩, by decide +kernel, wd_8c93a2cd⟩
theorem m_L_value : kIH y_L_value b_L_value 4 (some .int) [(0, 8, 11, 15), (0, 8, 14, 25), (0, 8, 17, 27)] 3 := ⟨wd_30ec8617, wd_a57d0fc6, ⟨by decide, by decide⟩, by decide +kernel, wd_2c6589bd⟩
theorem m_L_size : kIH y_L_size b_L_size 4 (some .int) [(0, 9, 12, 15), (0, 9, 15, 25), (0, 9, 18, 27)] 3 := ⟨wd_b40dadda, wd_a57d0fc6, ⟨by decide, by decide⟩, by decide +kernel, wd_1b92948d⟩
theorem m_L_element : kIH y_L_element b_L_element 5 (some .int) [(0, 10, 13, 15), (0, 10, 17, 25), (0, 10, 21, 27), (0, 10, 25, 46)] 4 := ⟨wd_60b9e2b2, wd_a57d0fc6, ⟨by decide, by decide⟩, by decide +kernel, wd_ab057432⟩
theorem m_L_count : kIH y_L_count b_L_count 4 (some .int) [(0, 9, 12, 13)] 3 := ⟨wd_6c26250b, wd_a57d0fc6, ⟨by decide, by decide⟩, by decide +kernel, wd_f427ed77⟩
set_option maxHeartbeats 4000000 in
set_option maxRecDepth 100000 in
theorem w_field (l : Launch) (hl0 : l.stackTraces = false) (D : va_G) (a : Nat → Nat) (g : Nat → ClassId) (tw : Nat) (sLen sKind : Nat → Nat) (sExt : Nat → Int32) (sMust : Nat → Bool) (rTab : Nat → Nat) (rFil : Nat → Bool) (rNum : Nat → Int64) (rLnk rLen : Nat → Nat) (rItm : Nat → Int32) (made : Nat) (pItm : Nat → Int32) (held : Nat) (dByt : Nat → Nat) (dLen : Nat) (bByt : Nat → Nat) (bRea : Nat → Bool) (bRec bItm bFld bOff bOfp : Nat → Nat) (kept wrt wid ent : Nat) (ver : Bool) (fAdr fTab adr tab : Nat) (lf : Int32) (oV : Nat → Int64) (t : Int32) (k : Int32) (x : Int32) (b : Bool) (hL : ∀ t, t < 4 → sLen t ≤ 6) : kMH l y_L_field b_L_field 7 (some .int) [(0, 14, 17, 13), (0, 14, 21, 15)] ({ frames := 7, cells := 1, slots := 6, locals := 113 }) D vwCl (WoT g) tw [.ref (a 0), .int t, .int k, .int x, .int (bI b), .ref (a 27)] (Wo a g sLen sKind sExt sMust rTab rFil rNum rLnk rLen rItm made pItm held dByt dLen bByt bRea bRec bItm bFld bOff bOfp kept wrt wid ent ver fAdr fTab adr tab lf oV) (some (.int (nI (cdField sLen t k x b)))) (if cdField sLen t k x b = 0 then (Wo a g (va_up sLen (cN t) (sLen (cN t) + 1)) (va_up sKind (cN t * 6 + sLen (cN t)) (cN k)) (upd sExt (cN t * 6 + sLen (cN t)) x) (va_up sMust (cN t * 6 + sLen (cN t)) b) rTab rFil rNum rLnk rLen rItm made pItm held dByt dLen bByt bRea bRec bItm bFld bOff bOfp kept wrt wid ent false fAdr fTab adr tab lf (vp_updL oV 0 ((nI (sLen (cN t))).toInt64))) else (Wo a g sLen sKind sExt sMust rTab rFil rNum rLnk rLen rItm made pItm held dByt dLen bByt bRea bRec bItm bFld bOff bOfp kept wrt wid ent ver fAdr fTab adr tab lf oV)) := by
  refine k_ofH (by decide) (Nat.le_of_ble_eq_true rfl) ?_
  intro p e s m below meth c A ls hx hb hr hlocks hml hex hts hown hA hP hK hD hS hZ hl
  have hl : lv_has ls 7 [(0, .ref (a 0)), (1, .int t), (2, .int k), (3, .int x), (4, .int (bI b)), (5, .ref (a 27))] := hl
  refine lv_aload hx hb d_L_field_0 (lv_at hl 5 rfl) ?_
  refine lv_iconst (v := nI 0) hx hb d_L_field_2 (by decide) ?_
  refine lv_aload_n hx hb d_L_field_3 rfl (lv_at hl 0 rfl) ?_
  refine lv_iload_n hx hb d_L_field_4 rfl (lv_at hl 1 rfl) ?_
  refine lv_iload_n hx hb d_L_field_5 rfl (lv_at hl 2 rfl) ?_
  refine lv_iload_n hx hb d_L_field_6 rfl (lv_at hl 3 rfl) ?_
  refine lv_iload hx hb d_L_field_7 (lv_at hl 4 rfl) ?_
  refine k_partVX (w2 := [(a 27, .inl (g 19, 1, .inr (.inl oV)))]) (c_field l hl0 D a g tw sLen sKind sExt sMust rTab rFil rNum rLnk rLen rItm made pItm held dByt dLen bByt bRea bRec bItm bFld bOff bOfp kept wrt wid ent ver fAdr fTab adr tab lf t k x b hL) m_F_field wd_9e100a3f 0 0 rfl rfl rfl kT hx hb hml hown hts ⟨Nat.le_of_ble_eq_true rfl, Nat.le_of_ble_eq_true rfl⟩ ⟨Nat.le_of_ble_eq_true rfl, Nat.le_of_ble_eq_true rfl⟩ (kK_l hK) (kP_l hP) (kP_r hP) (kSp_of hD) hS hA hZ hl.1 rfl rfl (Nat.le_of_ble_eq_true rfl) d_L_field_9 (fun E ce q9 H locs hE hP hD hS hq9 hcv hcl => ?_) (fun H locs hC hP hD hS => ?_)
  · skip
    have hP : va_P D vwCl (Wo a g sLen sKind sExt sMust rTab rFil rNum rLnk rLen rItm made pItm held dByt dLen bByt bRea bRec bItm bFld bOff bOfp kept wrt wid ent ver fAdr fTab adr tab lf oV) H := hP
    have hD : va_D A (Wo a g sLen sKind sExt sMust rTab rFil rNum rLnk rLen rItm made pItm held dByt dLen bByt bRea bRec bItm bFld bOff bOfp kept wrt wid ent ver fAdr fTab adr tab lf oV) := hD
    rcases hE with ⟨rfl, hcd⟩ | ⟨rfl, hcd⟩
    · skip
      refine x_catch hown hq9 hcv hcl [] (⟨0, 14, 17, 13⟩ : ExceptionTableEntry) [(⟨0, 14, 21, 15⟩ : ExceptionTableEntry)] hex (by intro q hq; simp at hq) (by decide) (by decide) (hts _ (kT _ wd_f37328b3)) ?_
      refine lv_astore (lv' := [(6, .ref q9), (0, .ref (a 0)), (1, .int t), (2, .int k), (3, .int x), (4, .int (bI b)), (5, .ref (a 27))]) hx hb d_L_field_17 hl (by decide) rfl (fun ls hl => ?_)
      refine lv_iconst (v := nI 1) hx hb d_L_field_19 (by decide) ?_
      refine W.widen (k := 1) (n := 6) (Nat.le_of_ble_eq_true rfl) (Nat.le_of_ble_eq_true rfl) ?_
      exact x_ret (k_iret hx hb hr hlocks hK hP hD hS trivial (nI_congr hcd.symm) ((if_neg (show ¬ cdField sLen t k x b = 0 by rw [hcd]; decide)).symm) d_L_field_20)
    · skip
      refine x_catch hown hq9 hcv hcl [((⟨0, 14, 17, 13⟩ : ExceptionTableEntry), xIA)] (⟨0, 14, 21, 15⟩ : ExceptionTableEntry) [] hex (fun q hq => by simp only [List.mem_cons, List.not_mem_nil, or_false] at hq; rcases hq with rfl <;> first | exact ⟨by decide, by decide, (hts _ (kT _ wd_f37328b3)), hZ.2.2.2.1 (xIS, xIA) (by decide)⟩) (by decide) (by decide) (hts _ (kT _ wd_8d568b9d)) ?_
      refine lv_astore (lv' := [(6, .ref q9), (0, .ref (a 0)), (1, .int t), (2, .int k), (3, .int x), (4, .int (bI b)), (5, .ref (a 27))]) hx hb d_L_field_21 hl (by decide) rfl (fun ls hl => ?_)
      refine lv_iconst (v := nI 2) hx hb d_L_field_23 (by decide) ?_
      refine W.widen (k := 1) (n := 6) (Nat.le_of_ble_eq_true rfl) (Nat.le_of_ble_eq_true rfl) ?_
      exact x_ret (k_iret hx hb hr hlocks hK hP hD hS trivial (nI_congr hcd.symm) ((if_neg (show ¬ cdField sLen t k x b = 0 by rw [hcd]; decide)).symm) d_L_field_24)
  · skip
    have hcd : cdField sLen t k x b = 0 := hC
    have hP : va_P D vwCl (Wo a g (va_up sLen (cN t) (sLen (cN t) + 1)) (va_up sKind (cN t * 6 + sLen (cN t)) (cN k)) (upd sExt (cN t * 6 + sLen (cN t)) x) (va_up sMust (cN t * 6 + sLen (cN t)) b) rTab rFil rNum rLnk rLen rItm made pItm held dByt dLen bByt bRea bRec bItm bFld bOff bOfp kept wrt wid ent false fAdr fTab adr tab lf oV) H := hP
    have hD : va_D A (Wo a g (va_up sLen (cN t) (sLen (cN t) + 1)) (va_up sKind (cN t * 6 + sLen (cN t)) (cN k)) (upd sExt (cN t * 6 + sLen (cN t)) x) (va_up sMust (cN t * 6 + sLen (cN t)) b) rTab rFil rNum rLnk rLen rItm made pItm held dByt dLen bByt bRea bRec bItm bFld bOff bOfp kept wrt wid ent false fAdr fTab adr tab lf oV) := hD
    refine W.eq (g2 := F0 m 12 ls [.int (nI (sLen (cN t))), .int (nI 0), .ref (a 27)]) rfl ?_
    refine lv_i2l hx hb d_L_field_12 rfl ?_
    refine l_last hx hb hK hP hD hS 27 19 rfl rfl (i := 0) (by omega) (by decide) d_L_field_13 (fun H locs hP hD hS => ?_)
    have hP : va_P D vwCl (Wo a g (va_up sLen (cN t) (sLen (cN t) + 1)) (va_up sKind (cN t * 6 + sLen (cN t)) (cN k)) (upd sExt (cN t * 6 + sLen (cN t)) x) (va_up sMust (cN t * 6 + sLen (cN t)) b) rTab rFil rNum rLnk rLen rItm made pItm held dByt dLen bByt bRea bRec bItm bFld bOff bOfp kept wrt wid ent false fAdr fTab adr tab lf (vp_updL oV 0 ((nI (sLen (cN t))).toInt64))) H := hP
    have hD : va_D A (Wo a g (va_up sLen (cN t) (sLen (cN t) + 1)) (va_up sKind (cN t * 6 + sLen (cN t)) (cN k)) (upd sExt (cN t * 6 + sLen (cN t)) x) (va_up sMust (cN t * 6 + sLen (cN t)) b) rTab rFil rNum rLnk rLen rItm made pItm held dByt dLen bByt bRea bRec bItm bFld bOff bOfp kept wrt wid ent false fAdr fTab adr tab lf (vp_updL oV 0 ((nI (sLen (cN t))).toInt64))) := hD
    refine lv_goto (tgt := 25) hx hb d_L_field_14 (by decide) ?_
    refine lv_iconst (v := nI 0) hx hb d_L_field_25 (by decide) ?_
    refine W.widen (k := 1) (n := 6) (Nat.le_of_ble_eq_true rfl) (Nat.le_of_ble_eq_true rfl) ?_
    exact x_ret (k_iret hx hb hr hlocks hK hP hD hS trivial (nI_congr hcd.symm) ((if_pos hcd).symm) d_L_field_26)
set_option maxHeartbeats 4000000 in
set_option maxRecDepth 100000 in
theorem w_make (l : Launch) (hl0 : l.stackTraces = false) (D : va_G) (a : Nat → Nat) (g : Nat → ClassId) (tw : Nat) (sLen sKind : Nat → Nat) (sExt : Nat → Int32) (sMust : Nat → Bool) (rTab : Nat → Nat) (rFil : Nat → Bool) (rNum : Nat → Int64) (rLnk rLen : Nat → Nat) (rItm : Nat → Int32) (made : Nat) (pItm : Nat → Int32) (held : Nat) (dByt : Nat → Nat) (dLen : Nat) (bByt : Nat → Nat) (bRea : Nat → Bool) (bRec bItm bFld bOff bOfp : Nat → Nat) (kept wrt wid ent : Nat) (ver : Bool) (fAdr fTab adr tab : Nat) (lf : Int32) (oV : Nat → Int64) (x : Int32) (hm : made ≤ 16) : kMH l y_L_make b_L_make 4 (some .int) [(0, 9, 12, 13), (0, 9, 15, 15)] ({ frames := 7, cells := 1, slots := 6, locals := 110 }) D vwCl (WoT g) tw [.ref (a 0), .int x, .ref (a 27)] (Wo a g sLen sKind sExt sMust rTab rFil rNum rLnk rLen rItm made pItm held dByt dLen bByt bRea bRec bItm bFld bOff bOfp kept wrt wid ent ver fAdr fTab adr tab lf oV) (some (.int (nI (cdMake made x)))) (if cdMake made x = 0 then (Wo a g sLen sKind sExt sMust (va_up rTab made (cN x)) rFil rNum rLnk rLen rItm (made + 1) pItm held dByt dLen bByt bRea bRec bItm bFld bOff bOfp kept wrt wid ent ver fAdr fTab adr tab lf (vp_updL oV 0 ((nI made).toInt64))) else (Wo a g sLen sKind sExt sMust rTab rFil rNum rLnk rLen rItm made pItm held dByt dLen bByt bRea bRec bItm bFld bOff bOfp kept wrt wid ent ver fAdr fTab adr tab lf oV)) := by
  refine k_ofH (by decide) (Nat.le_of_ble_eq_true rfl) ?_
  intro p e s m below meth c A ls hx hb hr hlocks hml hex hts hown hA hP hK hD hS hZ hl
  have hl : lv_has ls 4 [(0, .ref (a 0)), (1, .int x), (2, .ref (a 27))] := hl
  refine lv_aload_n hx hb d_L_make_0 rfl (lv_at hl 2 rfl) ?_
  refine lv_iconst (v := nI 0) hx hb d_L_make_1 (by decide) ?_
  refine lv_aload_n hx hb d_L_make_2 rfl (lv_at hl 0 rfl) ?_
  refine lv_iload_n hx hb d_L_make_3 rfl (lv_at hl 1 rfl) ?_
  refine k_partVX (w2 := [(a 27, .inl (g 19, 1, .inr (.inl oV)))]) (c_make l hl0 D a g tw sLen sKind sExt sMust rTab rFil rNum rLnk rLen rItm made pItm held dByt dLen bByt bRea bRec bItm bFld bOff bOfp kept wrt wid ent ver fAdr fTab adr tab lf x hm) m_F_make wd_9d24967f 0 0 rfl rfl rfl kT hx hb hml hown hts ⟨Nat.le_of_ble_eq_true rfl, Nat.le_of_ble_eq_true rfl⟩ ⟨Nat.le_of_ble_eq_true rfl, Nat.le_of_ble_eq_true rfl⟩ (kK_l hK) (kP_l hP) (kP_r hP) (kSp_of hD) hS hA hZ hl.1 rfl rfl (Nat.le_of_ble_eq_true rfl) d_L_make_4 (fun E ce q9 H locs hE hP hD hS hq9 hcv hcl => ?_) (fun H locs hC hP hD hS => ?_)
  · skip
    have hP : va_P D vwCl (Wo a g sLen sKind sExt sMust rTab rFil rNum rLnk rLen rItm made pItm held dByt dLen bByt bRea bRec bItm bFld bOff bOfp kept wrt wid ent ver fAdr fTab adr tab lf oV) H := hP
    have hD : va_D A (Wo a g sLen sKind sExt sMust rTab rFil rNum rLnk rLen rItm made pItm held dByt dLen bByt bRea bRec bItm bFld bOff bOfp kept wrt wid ent ver fAdr fTab adr tab lf oV) := hD
    rcases hE with ⟨rfl, hcd⟩ | ⟨rfl, hcd⟩
    · skip
      refine x_catch hown hq9 hcv hcl [] (⟨0, 9, 12, 13⟩ : ExceptionTableEntry) [(⟨0, 9, 15, 15⟩ : ExceptionTableEntry)] hex (by intro q hq; simp at hq) (by decide) (by decide) (hts _ (kT _ wd_f37328b3)) ?_
      refine lv_astore_n (lv' := [(3, .ref q9), (0, .ref (a 0)), (1, .int x), (2, .ref (a 27))]) hx hb d_L_make_12 rfl hl (by decide) rfl (fun ls hl => ?_)
      refine lv_iconst (v := nI 1) hx hb d_L_make_13 (by decide) ?_
      refine W.widen (k := 1) (n := 6) (Nat.le_of_ble_eq_true rfl) (Nat.le_of_ble_eq_true rfl) ?_
      exact x_ret (k_iret hx hb hr hlocks hK hP hD hS trivial (nI_congr hcd.symm) ((if_neg (show ¬ cdMake made x = 0 by rw [hcd]; decide)).symm) d_L_make_14)
    · skip
      refine x_catch hown hq9 hcv hcl [((⟨0, 9, 12, 13⟩ : ExceptionTableEntry), xIA)] (⟨0, 9, 15, 15⟩ : ExceptionTableEntry) [] hex (fun q hq => by simp only [List.mem_cons, List.not_mem_nil, or_false] at hq; rcases hq with rfl <;> first | exact ⟨by decide, by decide, (hts _ (kT _ wd_f37328b3)), hZ.2.2.2.1 (xIS, xIA) (by decide)⟩) (by decide) (by decide) (hts _ (kT _ wd_8d568b9d)) ?_
      refine lv_astore_n (lv' := [(3, .ref q9), (0, .ref (a 0)), (1, .int x), (2, .ref (a 27))]) hx hb d_L_make_15 rfl hl (by decide) rfl (fun ls hl => ?_)
      refine lv_iconst (v := nI 2) hx hb d_L_make_16 (by decide) ?_
      refine W.widen (k := 1) (n := 6) (Nat.le_of_ble_eq_true rfl) (Nat.le_of_ble_eq_true rfl) ?_
      exact x_ret (k_iret hx hb hr hlocks hK hP hD hS trivial (nI_congr hcd.symm) ((if_neg (show ¬ cdMake made x = 0 by rw [hcd]; decide)).symm) d_L_make_17)
  · skip
    have hcd : cdMake made x = 0 := hC
    have hP : va_P D vwCl (Wo a g sLen sKind sExt sMust (va_up rTab made (cN x)) rFil rNum rLnk rLen rItm (made + 1) pItm held dByt dLen bByt bRea bRec bItm bFld bOff bOfp kept wrt wid ent ver fAdr fTab adr tab lf oV) H := hP
    have hD : va_D A (Wo a g sLen sKind sExt sMust (va_up rTab made (cN x)) rFil rNum rLnk rLen rItm (made + 1) pItm held dByt dLen bByt bRea bRec bItm bFld bOff bOfp kept wrt wid ent ver fAdr fTab adr tab lf oV) := hD
    refine W.eq (g2 := F0 m 7 ls [.int (nI made), .int (nI 0), .ref (a 27)]) rfl ?_
    refine lv_i2l hx hb d_L_make_7 rfl ?_
    refine l_last hx hb hK hP hD hS 27 19 rfl rfl (i := 0) (by omega) (by decide) d_L_make_8 (fun H locs hP hD hS => ?_)
    have hP : va_P D vwCl (Wo a g sLen sKind sExt sMust (va_up rTab made (cN x)) rFil rNum rLnk rLen rItm (made + 1) pItm held dByt dLen bByt bRea bRec bItm bFld bOff bOfp kept wrt wid ent ver fAdr fTab adr tab lf (vp_updL oV 0 ((nI made).toInt64))) H := hP
    have hD : va_D A (Wo a g sLen sKind sExt sMust (va_up rTab made (cN x)) rFil rNum rLnk rLen rItm (made + 1) pItm held dByt dLen bByt bRea bRec bItm bFld bOff bOfp kept wrt wid ent ver fAdr fTab adr tab lf (vp_updL oV 0 ((nI made).toInt64))) := hD
    refine lv_goto (tgt := 18) hx hb d_L_make_9 (by decide) ?_
    refine lv_iconst (v := nI 0) hx hb d_L_make_18 (by decide) ?_
    refine W.widen (k := 1) (n := 6) (Nat.le_of_ble_eq_true rfl) (Nat.le_of_ble_eq_true rfl) ?_
    exact x_ret (k_iret hx hb hr hlocks hK hP hD hS trivial (nI_congr hcd.symm) ((if_pos hcd).symm) d_L_make_19)
set_option maxHeartbeats 4000000 in
set_option maxRecDepth 100000 in
theorem w_number (l : Launch) (hl0 : l.stackTraces = false) (D : va_G) (a : Nat → Nat) (g : Nat → ClassId) (tw : Nat) (sLen sKind : Nat → Nat) (sExt : Nat → Int32) (sMust : Nat → Bool) (rTab : Nat → Nat) (rFil : Nat → Bool) (rNum : Nat → Int64) (rLnk rLen : Nat → Nat) (rItm : Nat → Int32) (made : Nat) (pItm : Nat → Int32) (held : Nat) (dByt : Nat → Nat) (dLen : Nat) (bByt : Nat → Nat) (bRea : Nat → Bool) (bRec bItm bFld bOff bOfp : Nat → Nat) (kept wrt wid ent : Nat) (ver : Bool) (fAdr fTab adr tab : Nat) (lf : Int32) (oV : Nat → Int64) (x : Int32) (y : Int32) (v : Int64) (hm : made ≤ 16) (hT : ∀ r, r < made → rTab r < 4) (hL : ∀ t, t < 4 → sLen t ≤ 6) (hk : ∀ j, sKind j < 7) : kMH l y_L_number b_L_number 7 (some .int) [(0, 11, 14, 25), (0, 11, 18, 27)] ({ frames := 8, cells := 2, slots := 12, locals := 138 }) D vwCl (WoT g) tw [.ref (a 0), .int x, .int y, .long v, .ref (a 27)] (Wo a g sLen sKind sExt sMust rTab rFil rNum rLnk rLen rItm made pItm held dByt dLen bByt bRea bRec bItm bFld bOff bOfp kept wrt wid ent ver fAdr fTab adr tab lf oV) (some (.int (nI (cdNum sLen sKind rTab made x y)))) (if cdNum sLen sKind rTab made x y = 0 then (Wo a g sLen sKind sExt sMust rTab (va_up rFil (cN x * 6 + cN y) true) (vp_updL rNum (cN x * 6 + cN y) (brI (kdR sKind rTab x y) v)) rLnk rLen rItm made pItm held dByt dLen bByt bRea bRec bItm bFld bOff bOfp kept wrt wid ent ver fAdr fTab adr tab lf (vp_updL oV 0 (brI (kdR sKind rTab x y) v))) else (Wo a g sLen sKind sExt sMust rTab rFil rNum rLnk rLen rItm made pItm held dByt dLen bByt bRea bRec bItm bFld bOff bOfp kept wrt wid ent ver fAdr fTab adr tab lf oV)) := by
  refine k_ofH (by decide) (Nat.le_of_ble_eq_true rfl) ?_
  intro p e s m below meth c A ls hx hb hr hlocks hml hex hts hown hA hP hK hD hS hZ hl
  have hl : lv_has ls 7 [(0, .ref (a 0)), (1, .int x), (2, .int y), (3, .long v), (5, .ref (a 27))] := hl
  refine lv_aload hx hb d_L_number_0 (lv_at hl 4 rfl) ?_
  refine lv_iconst (v := nI 0) hx hb d_L_number_2 (by decide) ?_
  refine lv_aload_n hx hb d_L_number_3 rfl (lv_at hl 0 rfl) ?_
  refine lv_iload_n hx hb d_L_number_4 rfl (lv_at hl 1 rfl) ?_
  refine lv_iload_n hx hb d_L_number_5 rfl (lv_at hl 2 rfl) ?_
  refine lv_lload_n hx hb d_L_number_6 rfl (lv_at hl 3 rfl) ?_
  refine k_partVX (w2 := [(a 27, .inl (g 19, 1, .inr (.inl oV)))]) (c_number l hl0 D a g tw sLen sKind sExt sMust rTab rFil rNum rLnk rLen rItm made pItm held dByt dLen bByt bRea bRec bItm bFld bOff bOfp kept wrt wid ent ver fAdr fTab adr tab lf x y v hm hT hL hk) m_F_number wd_822852d1 0 0 rfl rfl rfl kT hx hb hml hown hts ⟨Nat.le_of_ble_eq_true rfl, Nat.le_of_ble_eq_true rfl⟩ ⟨Nat.le_of_ble_eq_true rfl, Nat.le_of_ble_eq_true rfl⟩ (kK_l hK) (kP_l hP) (kP_r hP) (kSp_of hD) hS hA hZ hl.1 rfl rfl (Nat.le_of_ble_eq_true rfl) d_L_number_7 (fun E ce q9 H locs hE hP hD hS hq9 hcv hcl => ?_) (fun H locs hC hP hD hS => ?_)
  · skip
    have hP : va_P D vwCl (Wo a g sLen sKind sExt sMust rTab rFil rNum rLnk rLen rItm made pItm held dByt dLen bByt bRea bRec bItm bFld bOff bOfp kept wrt wid ent ver fAdr fTab adr tab lf oV) H := hP
    have hD : va_D A (Wo a g sLen sKind sExt sMust rTab rFil rNum rLnk rLen rItm made pItm held dByt dLen bByt bRea bRec bItm bFld bOff bOfp kept wrt wid ent ver fAdr fTab adr tab lf oV) := hD
    rcases hE with ⟨rfl, hcd⟩ | ⟨rfl, hcd⟩
    · skip
      refine x_catch hown hq9 hcv hcl [] (⟨0, 11, 14, 25⟩ : ExceptionTableEntry) [(⟨0, 11, 18, 27⟩ : ExceptionTableEntry)] hex (by intro q hq; simp at hq) (by decide) (by decide) (hts _ (kT _ wd_344b8025)) ?_
      refine lv_astore (lv' := [(6, .ref q9), (0, .ref (a 0)), (1, .int x), (2, .int y), (3, .long v), (5, .ref (a 27))]) hx hb d_L_number_14 hl (by decide) rfl (fun ls hl => ?_)
      refine lv_iconst (v := nI 1) hx hb d_L_number_16 (by decide) ?_
      refine W.widen (k := 2) (n := 12) (Nat.le_of_ble_eq_true rfl) (Nat.le_of_ble_eq_true rfl) ?_
      exact x_ret (k_iret hx hb hr hlocks hK hP hD hS trivial (nI_congr hcd.symm) ((if_neg (show ¬ cdNum sLen sKind rTab made x y = 0 by rw [hcd]; decide)).symm) d_L_number_17)
    · skip
      refine x_catch hown hq9 hcv hcl [((⟨0, 11, 14, 25⟩ : ExceptionTableEntry), xNS)] (⟨0, 11, 18, 27⟩ : ExceptionTableEntry) [] hex (fun q hq => by simp only [List.mem_cons, List.not_mem_nil, or_false] at hq; rcases hq with rfl <;> first | exact ⟨by decide, by decide, (hts _ (kT _ wd_344b8025)), hZ.2.2.2.1 (xUO, xNS) (by decide)⟩) (by decide) (by decide) (hts _ (kT _ wd_f6aaf630)) ?_
      refine lv_astore (lv' := [(6, .ref q9), (0, .ref (a 0)), (1, .int x), (2, .int y), (3, .long v), (5, .ref (a 27))]) hx hb d_L_number_18 hl (by decide) rfl (fun ls hl => ?_)
      refine lv_iconst (v := nI 2) hx hb d_L_number_20 (by decide) ?_
      refine W.widen (k := 2) (n := 12) (Nat.le_of_ble_eq_true rfl) (Nat.le_of_ble_eq_true rfl) ?_
      exact x_ret (k_iret hx hb hr hlocks hK hP hD hS trivial (nI_congr hcd.symm) ((if_neg (show ¬ cdNum sLen sKind rTab made x y = 0 by rw [hcd]; decide)).symm) d_L_number_21)
  · skip
    have hcd : cdNum sLen sKind rTab made x y = 0 := hC
    have hP : va_P D vwCl (Wo a g sLen sKind sExt sMust rTab (va_up rFil (cN x * 6 + cN y) true) (vp_updL rNum (cN x * 6 + cN y) (brI (kdR sKind rTab x y) v)) rLnk rLen rItm made pItm held dByt dLen bByt bRea bRec bItm bFld bOff bOfp kept wrt wid ent ver fAdr fTab adr tab lf oV) H := hP
    have hD : va_D A (Wo a g sLen sKind sExt sMust rTab (va_up rFil (cN x * 6 + cN y) true) (vp_updL rNum (cN x * 6 + cN y) (brI (kdR sKind rTab x y) v)) rLnk rLen rItm made pItm held dByt dLen bByt bRea bRec bItm bFld bOff bOfp kept wrt wid ent ver fAdr fTab adr tab lf oV) := hD
    refine W.eq (g2 := F0 m 10 ls [.long (brI (kdR sKind rTab x y) v), .int (nI 0), .ref (a 27)]) rfl ?_
    refine l_last hx hb hK hP hD hS 27 19 rfl rfl (i := 0) (by omega) (by decide) d_L_number_10 (fun H locs hP hD hS => ?_)
    have hP : va_P D vwCl (Wo a g sLen sKind sExt sMust rTab (va_up rFil (cN x * 6 + cN y) true) (vp_updL rNum (cN x * 6 + cN y) (brI (kdR sKind rTab x y) v)) rLnk rLen rItm made pItm held dByt dLen bByt bRea bRec bItm bFld bOff bOfp kept wrt wid ent ver fAdr fTab adr tab lf (vp_updL oV 0 (brI (kdR sKind rTab x y) v))) H := hP
    have hD : va_D A (Wo a g sLen sKind sExt sMust rTab (va_up rFil (cN x * 6 + cN y) true) (vp_updL rNum (cN x * 6 + cN y) (brI (kdR sKind rTab x y) v)) rLnk rLen rItm made pItm held dByt dLen bByt bRea bRec bItm bFld bOff bOfp kept wrt wid ent ver fAdr fTab adr tab lf (vp_updL oV 0 (brI (kdR sKind rTab x y) v))) := hD
    refine lv_goto (tgt := 22) hx hb d_L_number_11 (by decide) ?_
    refine lv_iconst (v := nI 0) hx hb d_L_number_22 (by decide) ?_
    refine W.widen (k := 2) (n := 12) (Nat.le_of_ble_eq_true rfl) (Nat.le_of_ble_eq_true rfl) ?_
    exact x_ret (k_iret hx hb hr hlocks hK hP hD hS trivial (nI_congr hcd.symm) ((if_pos hcd).symm) d_L_number_23)
set_option maxHeartbeats 4000000 in
set_option maxRecDepth 100000 in
theorem w_add (l : Launch) (hl0 : l.stackTraces = false) (D : va_G) (a : Nat → Nat) (g : Nat → ClassId) (tw : Nat) (sLen sKind : Nat → Nat) (sExt : Nat → Int32) (sMust : Nat → Bool) (rTab : Nat → Nat) (rFil : Nat → Bool) (rNum : Nat → Int64) (rLnk rLen : Nat → Nat) (rItm : Nat → Int32) (made : Nat) (pItm : Nat → Int32) (held : Nat) (dByt : Nat → Nat) (dLen : Nat) (bByt : Nat → Nat) (bRea : Nat → Bool) (bRec bItm bFld bOff bOfp : Nat → Nat) (kept wrt wid ent : Nat) (ver : Bool) (fAdr fTab adr tab : Nat) (lf : Int32) (oV : Nat → Int64) (x : Int32) (hh : held ≤ 12) : kMH l y_L_add b_L_add 4 (some .int) [(0, 9, 12, 15)] ({ frames := 7, cells := 1, slots := 6, locals := 110 }) D vwCl (WoT g) tw [.ref (a 0), .int x, .ref (a 27)] (Wo a g sLen sKind sExt sMust rTab rFil rNum rLnk rLen rItm made pItm held dByt dLen bByt bRea bRec bItm bFld bOff bOfp kept wrt wid ent ver fAdr fTab adr tab lf oV) (some (.int (nI (cdAdd held)))) (if cdAdd held = 0 then (Wo a g sLen sKind sExt sMust rTab rFil rNum rLnk rLen rItm made (upd pItm held x.toInt16.toInt32) (held + 1) dByt dLen bByt bRea bRec bItm bFld bOff bOfp kept wrt wid ent ver fAdr fTab adr tab lf (vp_updL oV 0 ((nI (held + 1)).toInt64))) else (Wo a g sLen sKind sExt sMust rTab rFil rNum rLnk rLen rItm made pItm held dByt dLen bByt bRea bRec bItm bFld bOff bOfp kept wrt wid ent ver fAdr fTab adr tab lf oV)) := by
  refine k_ofH (by decide) (Nat.le_of_ble_eq_true rfl) ?_
  intro p e s m below meth c A ls hx hb hr hlocks hml hex hts hown hA hP hK hD hS hZ hl
  have hl : lv_has ls 4 [(0, .ref (a 0)), (1, .int x), (2, .ref (a 27))] := hl
  refine lv_aload_n hx hb d_L_add_0 rfl (lv_at hl 2 rfl) ?_
  refine lv_iconst (v := nI 0) hx hb d_L_add_1 (by decide) ?_
  refine lv_aload_n hx hb d_L_add_2 rfl (lv_at hl 0 rfl) ?_
  refine lv_iload_n hx hb d_L_add_3 rfl (lv_at hl 1 rfl) ?_
  refine k_partVX (w2 := [(a 27, .inl (g 19, 1, .inr (.inl oV)))]) (c_add l hl0 D a g tw sLen sKind sExt sMust rTab rFil rNum rLnk rLen rItm made pItm held dByt dLen bByt bRea bRec bItm bFld bOff bOfp kept wrt wid ent ver fAdr fTab adr tab lf x hh) m_F_add wd_c1f01804 0 0 rfl rfl rfl kT hx hb hml hown hts ⟨Nat.le_of_ble_eq_true rfl, Nat.le_of_ble_eq_true rfl⟩ ⟨Nat.le_of_ble_eq_true rfl, Nat.le_of_ble_eq_true rfl⟩ (kK_l hK) (kP_l hP) (kP_r hP) (kSp_of hD) hS hA hZ hl.1 rfl rfl (Nat.le_of_ble_eq_true rfl) d_L_add_4 (fun E ce q9 H locs hE hP hD hS hq9 hcv hcl => ?_) (fun H locs hC hP hD hS => ?_)
  · skip
    have hP : va_P D vwCl (Wo a g sLen sKind sExt sMust rTab rFil rNum rLnk rLen rItm made pItm held dByt dLen bByt bRea bRec bItm bFld bOff bOfp kept wrt wid ent ver fAdr fTab adr tab lf oV) H := hP
    have hD : va_D A (Wo a g sLen sKind sExt sMust rTab rFil rNum rLnk rLen rItm made pItm held dByt dLen bByt bRea bRec bItm bFld bOff bOfp kept wrt wid ent ver fAdr fTab adr tab lf oV) := hD
    rcases hE with ⟨rfl, hcd⟩
    · skip
      refine x_catch hown hq9 hcv hcl [] (⟨0, 9, 12, 15⟩ : ExceptionTableEntry) [] hex (by intro q hq; simp at hq) (by decide) (by decide) (hts _ (kT _ wd_8d568b9d)) ?_
      refine lv_astore_n (lv' := [(3, .ref q9), (0, .ref (a 0)), (1, .int x), (2, .ref (a 27))]) hx hb d_L_add_12 rfl hl (by decide) rfl (fun ls hl => ?_)
      refine lv_iconst (v := nI 1) hx hb d_L_add_13 (by decide) ?_
      refine W.widen (k := 1) (n := 6) (Nat.le_of_ble_eq_true rfl) (Nat.le_of_ble_eq_true rfl) ?_
      exact x_ret (k_iret hx hb hr hlocks hK hP hD hS trivial (nI_congr hcd.symm) ((if_neg (show ¬ cdAdd held = 0 by rw [hcd]; decide)).symm) d_L_add_14)
  · skip
    have hcd : cdAdd held = 0 := hC
    have hP : va_P D vwCl (Wo a g sLen sKind sExt sMust rTab rFil rNum rLnk rLen rItm made (upd pItm held x.toInt16.toInt32) (held + 1) dByt dLen bByt bRea bRec bItm bFld bOff bOfp kept wrt wid ent ver fAdr fTab adr tab lf oV) H := hP
    have hD : va_D A (Wo a g sLen sKind sExt sMust rTab rFil rNum rLnk rLen rItm made (upd pItm held x.toInt16.toInt32) (held + 1) dByt dLen bByt bRea bRec bItm bFld bOff bOfp kept wrt wid ent ver fAdr fTab adr tab lf oV) := hD
    refine W.eq (g2 := F0 m 7 ls [.int (nI (held + 1)), .int (nI 0), .ref (a 27)]) rfl ?_
    refine lv_i2l hx hb d_L_add_7 rfl ?_
    refine l_last hx hb hK hP hD hS 27 19 rfl rfl (i := 0) (by omega) (by decide) d_L_add_8 (fun H locs hP hD hS => ?_)
    have hP : va_P D vwCl (Wo a g sLen sKind sExt sMust rTab rFil rNum rLnk rLen rItm made (upd pItm held x.toInt16.toInt32) (held + 1) dByt dLen bByt bRea bRec bItm bFld bOff bOfp kept wrt wid ent ver fAdr fTab adr tab lf (vp_updL oV 0 ((nI (held + 1)).toInt64))) H := hP
    have hD : va_D A (Wo a g sLen sKind sExt sMust rTab rFil rNum rLnk rLen rItm made (upd pItm held x.toInt16.toInt32) (held + 1) dByt dLen bByt bRea bRec bItm bFld bOff bOfp kept wrt wid ent ver fAdr fTab adr tab lf (vp_updL oV 0 ((nI (held + 1)).toInt64))) := hD
    refine lv_goto (tgt := 15) hx hb d_L_add_9 (by decide) ?_
    refine lv_iconst (v := nI 0) hx hb d_L_add_15 (by decide) ?_
    refine W.widen (k := 1) (n := 6) (Nat.le_of_ble_eq_true rfl) (Nat.le_of_ble_eq_true rfl) ?_
    exact x_ret (k_iret hx hb hr hlocks hK hP hD hS trivial (nI_congr hcd.symm) ((if_pos hcd).symm) d_L_add_16)
set_option maxHeartbeats 4000000 in
set_option maxRecDepth 100000 in
theorem w_fill (l : Launch) (hl0 : l.stackTraces = false) (D : va_G) (a : Nat → Nat) (g : Nat → ClassId) (tw : Nat) (sLen sKind : Nat → Nat) (sExt : Nat → Int32) (sMust : Nat → Bool) (rTab : Nat → Nat) (rFil : Nat → Bool) (rNum : Nat → Int64) (rLnk rLen : Nat → Nat) (rItm : Nat → Int32) (made : Nat) (pItm : Nat → Int32) (held : Nat) (dByt : Nat → Nat) (dLen : Nat) (bByt : Nat → Nat) (bRea : Nat → Bool) (bRec bItm bFld bOff bOfp : Nat → Nat) (kept wrt wid ent : Nat) (ver : Bool) (fAdr fTab adr tab : Nat) (lf : Int32) (oV : Nat → Int64) (x : Int32) (y : Int32) (hm : made ≤ 16) (hT : ∀ r, r < made → rTab r < 4) (hL : ∀ t, t < 4 → sLen t ≤ 6) (hk : ∀ j, sKind j < 7) (hh : held ≤ 12) : kMH l y_L_fill b_L_fill 5 (some .int) [(0, 10, 13, 25), (0, 10, 17, 27)] ({ frames := 8, cells := 2, slots := 12, locals := 135 }) D vwCl (WoT g) tw [.ref (a 0), .int x, .int y, .ref (a 27)] (Wo a g sLen sKind sExt sMust rTab rFil rNum rLnk rLen rItm made pItm held dByt dLen bByt bRea bRec bItm bFld bOff bOfp kept wrt wid ent ver fAdr fTab adr tab lf oV) (some (.int (nI (cdFill sLen sKind rTab made held x y)))) (if cdFill sLen sKind rTab made held x y = 0 then (Wo a g sLen sKind sExt sMust rTab (va_up rFil (cN x * 6 + cN y) true) rNum rLnk (va_up rLen (cN x * 6 + cN y) held) (cpI rItm pItm (if kdR sKind rTab x y = 4 then nI 127 else -1) ((cN x * 6 + cN y) * 12) held) made pItm 0 dByt dLen bByt bRea bRec bItm bFld bOff bOfp kept wrt wid ent ver fAdr fTab adr tab lf (vp_updL oV 0 ((nI held).toInt64))) else (Wo a g sLen sKind sExt sMust rTab rFil rNum rLnk rLen rItm made pItm held dByt dLen bByt bRea bRec bItm bFld bOff bOfp kept wrt wid ent ver fAdr fTab adr tab lf oV)) := by
  refine k_ofH (by decide) (Nat.le_of_ble_eq_true rfl) ?_
  intro p e s m below meth c A ls hx hb hr hlocks hml hex hts hown hA hP hK hD hS hZ hl
  have hl : lv_has ls 5 [(0, .ref (a 0)), (1, .int x), (2, .int y), (3, .ref (a 27))] := hl
  refine lv_aload_n hx hb d_L_fill_0 rfl (lv_at hl 3 rfl) ?_
  refine lv_iconst (v := nI 0) hx hb d_L_fill_1 (by decide) ?_
  refine lv_aload_n hx hb d_L_fill_2 rfl (lv_at hl 0 rfl) ?_
  refine lv_iload_n hx hb d_L_fill_3 rfl (lv_at hl 1 rfl) ?_
  refine lv_iload_n hx hb d_L_fill_4 rfl (lv_at hl 2 rfl) ?_
  refine k_partVX (w2 := [(a 27, .inl (g 19, 1, .inr (.inl oV)))]) (c_fill l hl0 D a g tw sLen sKind sExt sMust rTab rFil rNum rLnk rLen rItm made pItm held dByt dLen bByt bRea bRec bItm bFld bOff bOfp kept wrt wid ent ver fAdr fTab adr tab lf x y hm hT hL hk hh) m_F_fill wd_83064dd1 0 0 rfl rfl rfl kT hx hb hml hown hts ⟨Nat.le_of_ble_eq_true rfl, Nat.le_of_ble_eq_true rfl⟩ ⟨Nat.le_of_ble_eq_true rfl, Nat.le_of_ble_eq_true rfl⟩ (kK_l hK) (kP_l hP) (kP_r hP) (kSp_of hD) hS hA hZ hl.1 rfl rfl (Nat.le_of_ble_eq_true rfl) d_L_fill_5 (fun E ce q9 H locs hE hP hD hS hq9 hcv hcl => ?_) (fun H locs hC hP hD hS => ?_)
  · skip
    have hP : va_P D vwCl (Wo a g sLen sKind sExt sMust rTab rFil rNum rLnk rLen rItm made pItm held dByt dLen bByt bRea bRec bItm bFld bOff bOfp kept wrt wid ent ver fAdr fTab adr tab lf oV) H := hP
    have hD : va_D A (Wo a g sLen sKind sExt sMust rTab rFil rNum rLnk rLen rItm made pItm held dByt dLen bByt bRea bRec bItm bFld bOff bOfp kept wrt wid ent ver fAdr fTab adr tab lf oV) := hD
    rcases hE with ⟨rfl, hcd⟩ | ⟨rfl, hcd⟩
    · skip
      refine x_catch hown hq9 hcv hcl [] (⟨0, 10, 13, 25⟩ : ExceptionTableEntry) [(⟨0, 10, 17, 27⟩ : ExceptionTableEntry)] hex (by intro q hq; simp at hq) (by decide) (by decide) (hts _ (kT _ wd_344b8025)) ?_
      refine lv_astore (lv' := [(4, .ref q9), (0, .ref (a 0)), (1, .int x), (2, .int y), (3, .ref (a 27))]) hx hb d_L_fill_13 hl (by decide) rfl (fun ls hl => ?_)
      refine lv_iconst (v := nI 1) hx hb d_L_fill_15 (by decide) ?_
      refine W.widen (k := 2) (n := 12) (Nat.le_of_ble_eq_true rfl) (Nat.le_of_ble_eq_true rfl) ?_
      exact x_ret (k_iret hx hb hr hlocks hK hP hD hS trivial (nI_congr hcd.symm) ((if_neg (show ¬ cdFill sLen sKind rTab made held x y = 0 by rw [hcd]; decide)).symm) d_L_fill_16)
    · skip
      refine x_catch hown hq9 hcv hcl [((⟨0, 10, 13, 25⟩ : ExceptionTableEntry), xNS)] (⟨0, 10, 17, 27⟩ : ExceptionTableEntry) [] hex (fun q hq => by simp only [List.mem_cons, List.not_mem_nil, or_false] at hq; rcases hq with rfl <;> first | exact ⟨by decide, by decide, (hts _ (kT _ wd_344b8025)), hZ.2.2.2.1 (xUO, xNS) (by decide)⟩) (by decide) (by decide) (hts _ (kT _ wd_f6aaf630)) ?_
      refine lv_astore (lv' := [(4, .ref q9), (0, .ref (a 0)), (1, .int x), (2, .int y), (3, .ref (a 27))]) hx hb d_L_fill_17 hl (by decide) rfl (fun ls hl => ?_)
      refine lv_iconst (v := nI 2) hx hb d_L_fill_19 (by decide) ?_
      refine W.widen (k := 2) (n := 12) (Nat.le_of_ble_eq_true rfl) (Nat.le_of_ble_eq_true rfl) ?_
      exact x_ret (k_iret hx hb hr hlocks hK hP hD hS trivial (nI_congr hcd.symm) ((if_neg (show ¬ cdFill sLen sKind rTab made held x y = 0 by rw [hcd]; decide)).symm) d_L_fill_20)
  · skip
    have hcd : cdFill sLen sKind rTab made held x y = 0 := hC
    have hP : va_P D vwCl (Wo a g sLen sKind sExt sMust rTab (va_up rFil (cN x * 6 + cN y) true) rNum rLnk (va_up rLen (cN x * 6 + cN y) held) (cpI rItm pItm (if kdR sKind rTab x y = 4 then nI 127 else -1) ((cN x * 6 + cN y) * 12) held) made pItm 0 dByt dLen bByt bRea bRec bItm bFld bOff bOfp kept wrt wid ent ver fAdr fTab adr tab lf oV) H := hP
    have hD : va_D A (Wo a g sLen sKind sExt sMust rTab (va_up rFil (cN x * 6 + cN y) true) rNum rLnk (va_up rLen (cN x * 6 + cN y) held) (cpI rItm pItm (if kdR sKind rTab x y = 4 then nI 127 else -1) ((cN x * 6 + cN y) * 12) held) made pItm 0 dByt dLen bByt bRea bRec bItm bFld bOff bOfp kept wrt wid ent ver fAdr fTab adr tab lf oV) := hD
    refine W.eq (g2 := F0 m 8 ls [.int (nI held), .int (nI 0), .ref (a 27)]) rfl ?_
    refine lv_i2l hx hb d_L_fill_8 rfl ?_
    refine l_last hx hb hK hP hD hS 27 19 rfl rfl (i := 0) (by omega) (by decide) d_L_fill_9 (fun H locs hP hD hS => ?_)
    have hP : va_P D vwCl (Wo a g sLen sKind sExt sMust rTab (va_up rFil (cN x * 6 + cN y) true) rNum rLnk (va_up rLen (cN x * 6 + cN y) held) (cpI rItm pItm (if kdR sKind rTab x y = 4 then nI 127 else -1) ((cN x * 6 + cN y) * 12) held) made pItm 0 dByt dLen bByt bRea bRec bItm bFld bOff bOfp kept wrt wid ent ver fAdr fTab adr tab lf (vp_updL oV 0 ((nI held).toInt64))) H := hP
    have hD : va_D A (Wo a g sLen sKind sExt sMust rTab (va_up rFil (cN x * 6 + cN y) true) rNum rLnk (va_up rLen (cN x * 6 + cN y) held) (cpI rItm pItm (if kdR sKind rTab x y = 4 then nI 127 else -1) ((cN x * 6 + cN y) * 12) held) made pItm 0 dByt dLen bByt bRea bRec bItm bFld bOff bOfp kept wrt wid ent ver fAdr fTab adr tab lf (vp_updL oV 0 ((nI held).toInt64))) := hD
    refine lv_goto (tgt := 21) hx hb d_L_fill_10 (by decide) ?_
    refine lv_iconst (v := nI 0) hx hb d_L_fill_21 (by decide) ?_
    refine W.widen (k := 2) (n := 12) (Nat.le_of_ble_eq_true rfl) (Nat.le_of_ble_eq_true rfl) ?_
    exact x_ret (k_iret hx hb hr hlocks hK hP hD hS trivial (nI_congr hcd.symm) ((if_pos hcd).symm) d_L_fill_22)
set_option maxHeartbeats 4000000 in
set_option maxRecDepth 100000 in
theorem w_link (l : Launch) (hl0 : l.stackTraces = false) (D : va_G) (a : Nat → Nat) (g : Nat → ClassId) (tw : Nat) (sLen sKind : Nat → Nat) (sExt : Nat → Int32) (sMust : Nat → Bool) (rTab : Nat → Nat) (rFil : Nat → Bool) (rNum : Nat → Int64) (rLnk rLen : Nat → Nat) (rItm : Nat → Int32) (made : Nat) (pItm : Nat → Int32) (held : Nat) (dByt : Nat → Nat) (dLen : Nat) (bByt : Nat → Nat) (bRea : Nat → Bool) (bRec bItm bFld bOff bOfp : Nat → Nat) (kept wrt wid ent : Nat) (ver : Bool) (fAdr fTab adr tab : Nat) (lf : Int32) (oV : Nat → Int64) (x : Int32) (y : Int32) (z : Int32) (hm : made ≤ 16) (hT : ∀ r, r < made → rTab r < 4) (hL : ∀ t, t < 4 → sLen t ≤ 6) (hk : ∀ j, sKind j < 7) : kMH l y_L_link b_L_link 6 (some .int) [(0, 12, 15, 25), (0, 12, 19, 27)] ({ frames := 8, cells := 2, slots := 12, locals := 135 }) D vwCl (WoT g) tw [.ref (a 0), .int x, .int y, .int z, .ref (a 27)] (Wo a g sLen sKind sExt sMust rTab rFil rNum rLnk rLen rItm made pItm held dByt dLen bByt bRea bRec bItm bFld bOff bOfp kept wrt wid ent ver fAdr fTab adr tab lf oV) (some (.int (nI (cdLink sLen sKind sExt rTab made x y z)))) (if cdLink sLen sKind sExt rTab made x y z = 0 then (Wo a g sLen sKind sExt sMust rTab (va_up rFil (cN x * 6 + cN y) true) rNum (va_up rLnk (cN x * 6 + cN y) (cN z)) rLen rItm made pItm held dByt dLen bByt bRea bRec bItm bFld bOff bOfp kept wrt wid ent ver fAdr fTab adr tab lf (vp_updL oV 0 ((nI 1).toInt64))) else (Wo a g sLen sKind sExt sMust rTab rFil rNum rLnk rLen rItm made pItm held dByt dLen bByt bRea bRec bItm bFld bOff bOfp kept wrt wid ent ver fAdr fTab adr tab lf oV)) := by
  refine k_ofH (by decide) (Nat.le_of_ble_eq_true rfl) ?_
  intro p e s m below meth c A ls hx hb hr hlocks hml hex hts hown hA hP hK hD hS hZ hl
  have hl : lv_has ls 6 [(0, .ref (a 0)), (1, .int x), (2, .int y), (3, .int z), (4, .ref (a 27))] := hl
  refine lv_aload hx hb d_L_link_0 (lv_at hl 4 rfl) ?_
  refine lv_iconst (v := nI 0) hx hb d_L_link_2 (by decide) ?_
  refine lv_aload_n hx hb d_L_link_3 rfl (lv_at hl 0 rfl) ?_
  refine lv_iload_n hx hb d_L_link_4 rfl (lv_at hl 1 rfl) ?_
  refine lv_iload_n hx hb d_L_link_5 rfl (lv_at hl 2 rfl) ?_
  refine lv_iload_n hx hb d_L_link_6 rfl (lv_at hl 3 rfl) ?_
  refine k_partVX (w2 := [(a 27, .inl (g 19, 1, .inr (.inl oV)))]) (c_link l hl0 D a g tw sLen sKind sExt sMust rTab rFil rNum rLnk rLen rItm made pItm held dByt dLen bByt bRea bRec bItm bFld bOff bOfp kept wrt wid ent ver fAdr fTab adr tab lf x y z hm hT hL hk) m_F_link wd_28f98e0a 0 0 rfl rfl rfl kT hx hb hml hown hts ⟨Nat.le_of_ble_eq_true rfl, Nat.le_of_ble_eq_true rfl⟩ ⟨Nat.le_of_ble_eq_true rfl, Nat.le_of_ble_eq_true rfl⟩ (kK_l hK) (kP_l hP) (kP_r hP) (kSp_of hD) hS hA hZ hl.1 rfl rfl (Nat.le_of_ble_eq_true rfl) d_L_link_7 (fun E ce q9 H locs hE hP hD hS hq9 hcv hcl => ?_) (fun H locs hC hP hD hS => ?_)
  · skip
    have hP : va_P D vwCl (Wo a g sLen sKind sExt sMust rTab rFil rNum rLnk rLen rItm made pItm held dByt dLen bByt bRea bRec bItm bFld bOff bOfp kept wrt wid ent ver fAdr fTab adr tab lf oV) H := hP
    have hD : va_D A (Wo a g sLen sKind sExt sMust rTab rFil rNum rLnk rLen rItm made pItm held dByt dLen bByt bRea bRec bItm bFld bOff bOfp kept wrt wid ent ver fAdr fTab adr tab lf oV) := hD
    rcases hE with ⟨rfl, hcd⟩ | ⟨rfl, hcd⟩
    · skip
      refine x_catch hown hq9 hcv hcl [] (⟨0, 12, 15, 25⟩ : ExceptionTableEntry) [(⟨0, 12, 19, 27⟩ : ExceptionTableEntry)] hex (by intro q hq; simp at hq) (by decide) (by decide) (hts _ (kT _ wd_344b8025)) ?_
      refine lv_astore (lv' := [(5, .ref q9), (0, .ref (a 0)), (1, .int x), (2, .int y), (3, .int z), (4, .ref (a 27))]) hx hb d_L_link_15 hl (by decide) rfl (fun ls hl => ?_)
      refine lv_iconst (v := nI 1) hx hb d_L_link_17 (by decide) ?_
      refine W.widen (k := 2) (n := 12) (Nat.le_of_ble_eq_true rfl) (Nat.le_of_ble_eq_true rfl) ?_
      exact x_ret (k_iret hx hb hr hlocks hK hP hD hS trivial (nI_congr hcd.symm) ((if_neg (show ¬ cdLink sLen sKind sExt rTab made x y z = 0 by rw [hcd]; decide)).symm) d_L_link_18)
    · skip
      refine x_catch hown hq9 hcv hcl [((⟨0, 12, 15, 25⟩ : ExceptionTableEntry), xNS)] (⟨0, 12, 19, 27⟩ : ExceptionTableEntry) [] hex (fun q hq => by simp only [List.mem_cons, List.not_mem_nil, or_false] at hq; rcases hq with rfl <;> first | exact ⟨by decide, by decide, (hts _ (kT _ wd_344b8025)), hZ.2.2.2.1 (xUO, xNS) (by decide)⟩) (by decide) (by decide) (hts _ (kT _ wd_f6aaf630)) ?_
      refine lv_astore (lv' := [(5, .ref q9), (0, .ref (a 0)), (1, .int x), (2, .int y), (3, .int z), (4, .ref (a 27))]) hx hb d_L_link_19 hl (by decide) rfl (fun ls hl => ?_)
      refine lv_iconst (v := nI 2) hx hb d_L_link_21 (by decide) ?_
      refine W.widen (k := 2) (n := 12) (Nat.le_of_ble_eq_true rfl) (Nat.le_of_ble_eq_true rfl) ?_
      exact x_ret (k_iret hx hb hr hlocks hK hP hD hS trivial (nI_congr hcd.symm) ((if_neg (show ¬ cdLink sLen sKind sExt rTab made x y z = 0 by rw [hcd]; decide)).symm) d_L_link_22)
  · skip
    have hcd : cdLink sLen sKind sExt rTab made x y z = 0 := hC
    have hP : va_P D vwCl (Wo a g sLen sKind sExt sMust rTab (va_up rFil (cN x * 6 + cN y) true) rNum (va_up rLnk (cN x * 6 + cN y) (cN z)) rLen rItm made pItm held dByt dLen bByt bRea bRec bItm bFld bOff bOfp kept wrt wid ent ver fAdr fTab adr tab lf oV) H := hP
    have hD : va_D A (Wo a g sLen sKind sExt sMust rTab (va_up rFil (cN x * 6 + cN y) true) rNum (va_up rLnk (cN x * 6 + cN y) (cN z)) rLen rItm made pItm held dByt dLen bByt bRea bRec bItm bFld bOff bOfp kept wrt wid ent ver fAdr fTab adr tab lf oV) := hD
    refine W.eq (g2 := F0 m 10 ls [.int (nI 1), .int (nI 0), .ref (a 27)]) rfl ?_
    refine lv_i2l hx hb d_L_link_10 rfl ?_
    refine l_last hx hb hK hP hD hS 27 19 rfl rfl (i := 0) (by omega) (by decide) d_L_link_11 (fun H locs hP hD hS => ?_)
    have hP : va_P D vwCl (Wo a g sLen sKind sExt sMust rTab (va_up rFil (cN x * 6 + cN y) true) rNum (va_up rLnk (cN x * 6 + cN y) (cN z)) rLen rItm made pItm held dByt dLen bByt bRea bRec bItm bFld bOff bOfp kept wrt wid ent ver fAdr fTab adr tab lf (vp_updL oV 0 ((nI 1).toInt64))) H := hP
    have hD : va_D A (Wo a g sLen sKind sExt sMust rTab (va_up rFil (cN x * 6 + cN y) true) rNum (va_up rLnk (cN x * 6 + cN y) (cN z)) rLen rItm made pItm held dByt dLen bByt bRea bRec bItm bFld bOff bOfp kept wrt wid ent ver fAdr fTab adr tab lf (vp_updL oV 0 ((nI 1).toInt64))) := hD
    refine lv_goto (tgt := 23) hx hb d_L_link_12 (by decide) ?_
    refine lv_iconst (v := nI 0) hx hb d_L_link_23 (by decide) ?_
    refine W.widen (k := 2) (n := 12) (Nat.le_of_ble_eq_true rfl) (Nat.le_of_ble_eq_true rfl) ?_
    exact x_ret (k_iret hx hb hr hlocks hK hP hD hS trivial (nI_congr hcd.symm) ((if_pos hcd).symm) d_L_link_24)
set_option maxHeartbeats 4000000 in
set_option maxRecDepth 100000 in
theorem w_unset (l : Launch) (hl0 : l.stackTraces = false) (D : va_G) (a : Nat → Nat) (g : Nat → ClassId) (tw : Nat) (sLen sKind : Nat → Nat) (sExt : Nat → Int32) (sMust : Nat → Bool) (rTab : Nat → Nat) (rFil : Nat → Bool) (rNum : Nat → Int64) (rLnk rLen : Nat → Nat) (rItm : Nat → Int32) (made : Nat) (pItm : Nat → Int32) (held : Nat) (dByt : Nat → Nat) (dLen : Nat) (bByt : Nat → Nat) (bRea : Nat → Bool) (bRec bItm bFld bOff bOfp : Nat → Nat) (kept wrt wid ent : Nat) (ver : Bool) (fAdr fTab adr tab : Nat) (lf : Int32) (oV : Nat → Int64) (x : Int32) (y : Int32) (hm : made ≤ 16) (hT : ∀ r, r < made → rTab r < 4) (hL : ∀ t, t < 4 → sLen t ≤ 6) : kMH l y_L_unset b_L_unset 5 (some .int) [(0, 10, 13, 25)] ({ frames := 8, cells := 1, slots := 6, locals := 133 }) D vwCl (WoT g) tw [.ref (a 0), .int x, .int y, .ref (a 27)] (Wo a g sLen sKind sExt sMust rTab rFil rNum rLnk rLen rItm made pItm held dByt dLen bByt bRea bRec bItm bFld bOff bOfp kept wrt wid ent ver fAdr fTab adr tab lf oV) (some (.int (nI (cdUnset sLen rTab made x y)))) (if cdUnset sLen rTab made x y = 0 then (Wo a g sLen sKind sExt sMust rTab (va_up rFil (cN x * 6 + cN y) false) rNum rLnk rLen rItm made pItm held dByt dLen bByt bRea bRec bItm bFld bOff bOfp kept wrt wid ent ver fAdr fTab adr tab lf (vp_updL oV 0 ((bI (rFil (cN x * 6 + cN y))).toInt64))) else (Wo a g sLen sKind sExt sMust rTab rFil rNum rLnk rLen rItm made pItm held dByt dLen bByt bRea bRec bItm bFld bOff bOfp kept wrt wid ent ver fAdr fTab adr tab lf oV)) := by
  refine k_ofH (by decide) (Nat.le_of_ble_eq_true rfl) ?_
  intro p e s m below meth c A ls hx hb hr hlocks hml hex hts hown hA hP hK hD hS hZ hl
  have hl : lv_has ls 5 [(0, .ref (a 0)), (1, .int x), (2, .int y), (3, .ref (a 27))] := hl
  refine lv_aload_n hx hb d_L_unset_0 rfl (lv_at hl 3 rfl) ?_
  refine lv_iconst (v := nI 0) hx hb d_L_unset_1 (by decide) ?_
  refine lv_aload_n hx hb d_L_unset_2 rfl (lv_at hl 0 rfl) ?_
  refine lv_iload_n hx hb d_L_unset_3 rfl (lv_at hl 1 rfl) ?_
  refine lv_iload_n hx hb d_L_unset_4 rfl (lv_at hl 2 rfl) ?_
  refine k_partVX (w2 := [(a 27, .inl (g 19, 1, .inr (.inl oV)))]) (c_unset l hl0 D a g tw sLen sKind sExt sMust rTab rFil rNum rLnk rLen rItm made pItm held dByt dLen bByt bRea bRec bItm bFld bOff bOfp kept wrt wid ent ver fAdr fTab adr tab lf x y hm hT hL) m_F_unset wd_e8f2409a 0 0 rfl rfl rfl kT hx hb hml hown hts ⟨Nat.le_of_ble_eq_true rfl, Nat.le_of_ble_eq_true rfl⟩ ⟨Nat.le_of_ble_eq_true rfl, Nat.le_of_ble_eq_true rfl⟩ (kK_l hK) (kP_l hP) (kP_r hP) (kSp_of hD) hS hA hZ hl.1 rfl rfl (Nat.le_of_ble_eq_true rfl) d_L_unset_5 (fun E ce q9 H locs hE hP hD hS hq9 hcv hcl => ?_) (fun H locs hC hP hD hS => ?_)
  · skip
    have hP : va_P D vwCl (Wo a g sLen sKind sExt sMust rTab rFil rNum rLnk rLen rItm made pItm held dByt dLen bByt bRea bRec bItm bFld bOff bOfp kept wrt wid ent ver fAdr fTab adr tab lf oV) H := hP
    have hD : va_D A (Wo a g sLen sKind sExt sMust rTab rFil rNum rLnk rLen rItm made pItm held dByt dLen bByt bRea bRec bItm bFld bOff bOfp kept wrt wid ent ver fAdr fTab adr tab lf oV) := hD
    rcases hE with ⟨rfl, hcd⟩
    · skip
      refine x_catch hown hq9 hcv hcl [] (⟨0, 10, 13, 25⟩ : ExceptionTableEntry) [] hex (by intro q hq; simp at hq) (by decide) (by decide) (hts _ (kT _ wd_344b8025)) ?_
      refine lv_astore (lv' := [(4, .ref q9), (0, .ref (a 0)), (1, .int x), (2, .int y), (3, .ref (a 27))]) hx hb d_L_unset_13 hl (by decide) rfl (fun ls hl => ?_)
      refine lv_iconst (v := nI 1) hx hb d_L_unset_15 (by decide) ?_
      refine W.widen (k := 1) (n := 6) (Nat.le_of_ble_eq_true rfl) (Nat.le_of_ble_eq_true rfl) ?_
      exact x_ret (k_iret hx hb hr hlocks hK hP hD hS trivial (nI_congr hcd.symm) ((if_neg (show ¬ cdUnset sLen rTab made x y = 0 by rw [hcd]; decide)).symm) d_L_unset_16)
  · skip
    have hcd : cdUnset sLen rTab made x y = 0 := hC
    have hP : va_P D vwCl (Wo a g sLen sKind sExt sMust rTab (va_up rFil (cN x * 6 + cN y) false) rNum rLnk rLen rItm made pItm held dByt dLen bByt bRea bRec bItm bFld bOff bOfp kept wrt wid ent ver fAdr fTab adr tab lf oV) H := hP
    have hD : va_D A (Wo a g sLen sKind sExt sMust rTab (va_up rFil (cN x * 6 + cN y) false) rNum rLnk rLen rItm made pItm held dByt dLen bByt bRea bRec bItm bFld bOff bOfp kept wrt wid ent ver fAdr fTab adr tab lf oV) := hD
    refine W.eq (g2 := F0 m 8 ls [.int (bI (rFil (cN x * 6 + cN y))), .int (nI 0), .ref (a 27)]) rfl ?_
    refine lv_i2l hx hb d_L_unset_8 rfl ?_
    refine l_last hx hb hK hP hD hS 27 19 rfl rfl (i := 0) (by omega) (by decide) d_L_unset_9 (fun H locs hP hD hS => ?_)
    have hP : va_P D vwCl (Wo a g sLen sKind sExt sMust rTab (va_up rFil (cN x * 6 + cN y) false) rNum rLnk rLen rItm made pItm held dByt dLen bByt bRea bRec bItm bFld bOff bOfp kept wrt wid ent ver fAdr fTab adr tab lf (vp_updL oV 0 ((bI (rFil (cN x * 6 + cN y))).toInt64))) H := hP
    have hD : va_D A (Wo a g sLen sKind sExt sMust rTab (va_up rFil (cN x * 6 + cN y) false) rNum rLnk rLen rItm made pItm held dByt dLen bByt bRea bRec bItm bFld bOff bOfp kept wrt wid ent ver fAdr fTab adr tab lf (vp_updL oV 0 ((bI (rFil (cN x * 6 + cN y))).toInt64))) := hD
    refine lv_goto (tgt := 17) hx hb d_L_unset_10 (by decide) ?_
    refine lv_iconst (v := nI 0) hx hb d_L_unset_17 (by decide) ?_
    refine W.widen (k := 1) (n := 6) (Nat.le_of_ble_eq_true rfl) (Nat.le_of_ble_eq_true rfl) ?_
    exact x_ret (k_iret hx hb hr hlocks hK hP hD hS trivial (nI_congr hcd.symm) ((if_pos hcd).symm) d_L_unset_18)
set_option maxHeartbeats 4000000 in
set_option maxRecDepth 100000 in
theorem w_build (l : Launch) (hl0 : l.stackTraces = false) (D : va_G) (a : Nat → Nat) (g : Nat → ClassId) (tw : Nat) (sLen sKind : Nat → Nat) (sExt : Nat → Int32) (sMust : Nat → Bool) (rTab : Nat → Nat) (rFil : Nat → Bool) (rNum : Nat → Int64) (rLnk rLen : Nat → Nat) (rItm : Nat → Int32) (made : Nat) (pItm : Nat → Int32) (held : Nat) (dByt : Nat → Nat) (dLen : Nat) (bByt : Nat → Nat) (bRea : Nat → Bool) (bRec bItm bFld bOff bOfp : Nat → Nat) (kept wrt wid ent : Nat) (ver : Bool) (fAdr fTab adr tab : Nat) (lf : Int32) (oV : Nat → Int64) (x : Int32) (hm : made ≤ 16) (hq : SOK (SR.mk sLen sKind sExt sMust rTab rFil rNum rLnk rLen rItm)) (hO : ∀ j, bOff j < 100000 ∧ bRec j < 100000) : kMH l y_L_build b_L_build 4 (some .int) [(0, 9, 12, 25), (0, 9, 15, 15), (0, 9, 18, 46)] ({ frames := 55, cells := 1, slots := 6, locals := 1226 }) D vwCl (WoT g) tw [.ref (a 0), .int x, .ref (a 27)] (Wo a g sLen sKind sExt sMust rTab rFil rNum rLnk rLen rItm made pItm held dByt dLen bByt bRea bRec bItm bFld bOff bOfp kept wrt wid ent ver fAdr fTab adr tab lf oV) (some (.int (nI (cdBuild (SR.mk sLen sKind sExt sMust rTab rFil rNum rLnk rLen rItm) made bRea (BS.mk bByt bRec bItm bFld bOff bOfp kept wrt wid) x)))) (if cdBuild (SR.mk sLen sKind sExt sMust rTab rFil rNum rLnk rLen rItm) made bRea (BS.mk bByt bRec bItm bFld bOff bOfp kept wrt wid) x = 0 then (Wo a g sLen sKind sExt sMust rTab rFil rNum rLnk rLen rItm made pItm held (tkE (asP (SR.mk sLen sKind sExt sMust rTab rFil rNum rLnk rLen rItm) (cN x) (BS.mk bByt bRec bItm bFld bOff bOfp kept wrt wid)).byt dByt (asP (SR.mk sLen sKind sExt sMust rTab rFil rNum rLnk rLen rItm) (cN x) (BS.mk bByt bRec bItm bFld bOff bOfp kept wrt wid)).wrt) ((asP (SR.mk sLen sKind sExt sMust rTab rFil rNum rLnk rLen rItm) (cN x) (BS.mk bByt bRec bItm bFld bOff bOfp kept wrt wid)).wrt) ((asP (SR.mk sLen sKind sExt sMust rTab rFil rNum rLnk rLen rItm) (cN x) (BS.mk bByt bRec bItm bFld bOff bOfp kept wrt wid)).byt) ((whR (SR.mk sLen sKind sExt sMust rTab rFil rNum rLnk rLen rItm) (cN x) (rcR (cN x) bRea 16) (cN x + 1)).2) ((asP (SR.mk sLen sKind sExt sMust rTab rFil rNum rLnk rLen rItm) (cN x) (BS.mk bByt bRec bItm bFld bOff bOfp kept wrt wid)).rcp) ((asP (SR.mk sLen sKind sExt sMust rTab rFil rNum rLnk rLen rItm) (cN x) (BS.mk bByt bRec bItm bFld bOff bOfp kept wrt wid)).itm) ((asP (SR.mk sLen sKind sExt sMust rTab rFil rNum rLnk rLen rItm) (cN x) (BS.mk bByt bRec bItm bFld bOff bOfp kept wrt wid)).fld) ((asP (SR.mk sLen sKind sExt sMust rTab rFil rNum rLnk rLen rItm) (cN x) (BS.mk bByt bRec bItm bFld bOff bOfp kept wrt wid)).off) ((asP (SR.mk sLen sKind sExt sMust rTab rFil rNum rLnk rLen rItm) (cN x) (BS.mk bByt bRec bItm bFld bOff bOfp kept wrt wid)).ofp) ((asP (SR.mk sLen sKind sExt sMust rTab rFil rNum rLnk rLen rItm) (cN x) (BS.mk bByt bRec bItm bFld bOff bOfp kept wrt wid)).kept) ((asP (SR.mk sLen sKind sExt sMust rTab rFil rNum rLnk rLen rItm) (cN x) (BS.mk bByt bRec bItm bFld bOff bOfp kept wrt wid)).wrt) ((asP (SR.mk sLen sKind sExt sMust rTab rFil rNum rLnk rLen rItm) (cN x) (BS.mk bByt bRec bItm bFld bOff bOfp kept wrt wid)).wid) ent false fAdr fTab adr tab lf (vp_updL oV 0 ((nI (asP (SR.mk sLen sKind sExt sMust rTab rFil rNum rLnk rLen rItm) (cN x) (BS.mk bByt bRec bItm bFld bOff bOfp kept wrt wid)).wrt).toInt64))) else (Wo a g sLen sKind sExt sMust rTab rFil rNum rLnk rLen rItm made pItm held dByt dLen (if cdBuild (SR.mk sLen sKind sExt sMust rTab rFil rNum rLnk rLen rItm) made bRea (BS.mk bByt bRec bItm bFld bOff bOfp kept wrt wid) x = 3 then (asP (SR.mk sLen sKind sExt sMust rTab rFil rNum rLnk rLen rItm) (cN x) (BS.mk bByt bRec bItm bFld bOff bOfp kept wrt wid)).byt else bByt) (if hasF made x = true then (whR (SR.mk sLen sKind sExt sMust rTab rFil rNum rLnk rLen rItm) (cN x) (rcR (cN x) bRea 16) (cN x + 1)).2 else bRea) (if cdBuild (SR.mk sLen sKind sExt sMust rTab rFil rNum rLnk rLen rItm) made bRea (BS.mk bByt bRec bItm bFld bOff bOfp kept wrt wid) x = 3 then (asP (SR.mk sLen sKind sExt sMust rTab rFil rNum rLnk rLen rItm) (cN x) (BS.mk bByt bRec bItm bFld bOff bOfp kept wrt wid)).rcp else bRec) (if cdBuild (SR.mk sLen sKind sExt sMust rTab rFil rNum rLnk rLen rItm) made bRea (BS.mk bByt bRec bItm bFld bOff bOfp kept wrt wid) x = 3 then (asP (SR.mk sLen sKind sExt sMust rTab rFil rNum rLnk rLen rItm) (cN x) (BS.mk bByt bRec bItm bFld bOff bOfp kept wrt wid)).itm else bItm) (if cdBuild (SR.mk sLen sKind sExt sMust rTab rFil rNum rLnk rLen rItm) made bRea (BS.mk bByt bRec bItm bFld bOff bOfp kept wrt wid) x = 3 then (asP (SR.mk sLen sKind sExt sMust rTab rFil rNum rLnk rLen rItm) (cN x) (BS.mk bByt bRec bItm bFld bOff bOfp kept wrt wid)).fld else bFld) (if cdBuild (SR.mk sLen sKind sExt sMust rTab rFil rNum rLnk rLen rItm) made bRea (BS.mk bByt bRec bItm bFld bOff bOfp kept wrt wid) x = 3 then (asP (SR.mk sLen sKind sExt sMust rTab rFil rNum rLnk rLen rItm) (cN x) (BS.mk bByt bRec bItm bFld bOff bOfp kept wrt wid)).off else bOff) (if cdBuild (SR.mk sLen sKind sExt sMust rTab rFil rNum rLnk rLen rItm) made bRea (BS.mk bByt bRec bItm bFld bOff bOfp kept wrt wid) x = 3 then (asP (SR.mk sLen sKind sExt sMust rTab rFil rNum rLnk rLen rItm) (cN x) (BS.mk bByt bRec bItm bFld bOff bOfp kept wrt wid)).ofp else bOfp) (if cdBuild (SR.mk sLen sKind sExt sMust rTab rFil rNum rLnk rLen rItm) made bRea (BS.mk bByt bRec bItm bFld bOff bOfp kept wrt wid) x = 3 then (asP (SR.mk sLen sKind sExt sMust rTab rFil rNum rLnk rLen rItm) (cN x) (BS.mk bByt bRec bItm bFld bOff bOfp kept wrt wid)).kept else kept) (if cdBuild (SR.mk sLen sKind sExt sMust rTab rFil rNum rLnk rLen rItm) made bRea (BS.mk bByt bRec bItm bFld bOff bOfp kept wrt wid) x = 3 then (asP (SR.mk sLen sKind sExt sMust rTab rFil rNum rLnk rLen rItm) (cN x) (BS.mk bByt bRec bItm bFld bOff bOfp kept wrt wid)).wrt else wrt) (if cdBuild (SR.mk sLen sKind sExt sMust rTab rFil rNum rLnk rLen rItm) made bRea (BS.mk bByt bRec bItm bFld bOff bOfp kept wrt wid) x = 3 then (asP (SR.mk sLen sKind sExt sMust rTab rFil rNum rLnk rLen rItm) (cN x) (BS.mk bByt bRec bItm bFld bOff bOfp kept wrt wid)).wid else wid) ent ver fAdr fTab adr tab lf oV)) := by
  refine k_ofH (by decide) (Nat.le_of_ble_eq_true rfl) ?_
  intro p e s m below meth c A ls hx hb hr hlocks hml hex hts hown hA hP hK hD hS hZ hl
  have hl : lv_has ls 4 [(0, .ref (a 0)), (1, .int x), (2, .ref (a 27))] := hl
  refine lv_aload_n hx hb d_L_build_0 rfl (lv_at hl 2 rfl) ?_
  refine lv_iconst (v := nI 0) hx hb d_L_build_1 (by decide) ?_
  refine lv_aload_n hx hb d_L_build_2 rfl (lv_at hl 0 rfl) ?_
  refine lv_iload_n hx hb d_L_build_3 rfl (lv_at hl 1 rfl) ?_
  refine k_partVX (w2 := [(a 27, .inl (g 19, 1, .inr (.inl oV)))]) (c_build l hl0 D a g tw sLen sKind sExt sMust rTab rFil rNum rLnk rLen rItm made pItm held dByt dLen bByt bRea bRec bItm bFld bOff bOfp kept wrt wid ent ver fAdr fTab adr tab lf x hm hq hO) m_F_build wd_6f68fe01 0 0 rfl rfl rfl kT hx hb hml hown hts ⟨Nat.le_of_ble_eq_true rfl, Nat.le_of_ble_eq_true rfl⟩ ⟨Nat.le_of_ble_eq_true rfl, Nat.le_of_ble_eq_true rfl⟩ (kK_l hK) (kP_l hP) (kP_r hP) (kSp_of hD) hS hA hZ hl.1 rfl rfl (Nat.le_of_ble_eq_true rfl) d_L_build_4 (fun E ce q9 H locs hE hP hD hS hq9 hcv hcl => ?_) (fun H locs hC hP hD hS => ?_)
  · skip
    have hP : va_P D vwCl (Wo a g sLen sKind sExt sMust rTab rFil rNum rLnk rLen rItm made pItm held dByt dLen (if cdBuild (SR.mk sLen sKind sExt sMust rTab rFil rNum rLnk rLen rItm) made bRea (BS.mk bByt bRec bItm bFld bOff bOfp kept wrt wid) x = 3 then (asP (SR.mk sLen sKind sExt sMust rTab rFil rNum rLnk rLen rItm) (cN x) (BS.mk bByt bRec bItm bFld bOff bOfp kept wrt wid)).byt else bByt) (if hasF made x = true then (whR (SR.mk sLen sKind sExt sMust rTab rFil rNum rLnk rLen rItm) (cN x) (rcR (cN x) bRea 16) (cN x + 1)).2 else bRea) (if cdBuild (SR.mk sLen sKind sExt sMust rTab rFil rNum rLnk rLen rItm) made bRea (BS.mk bByt bRec bItm bFld bOff bOfp kept wrt wid) x = 3 then (asP (SR.mk sLen sKind sExt sMust rTab rFil rNum rLnk rLen rItm) (cN x) (BS.mk bByt bRec bItm bFld bOff bOfp kept wrt wid)).rcp else bRec) (if cdBuild (SR.mk sLen sKind sExt sMust rTab rFil rNum rLnk rLen rItm) made bRea (BS.mk bByt bRec bItm bFld bOff bOfp kept wrt wid) x = 3 then (asP (SR.mk sLen sKind sExt sMust rTab rFil rNum rLnk rLen rItm) (cN x) (BS.mk bByt bRec bItm bFld bOff bOfp kept wrt wid)).itm else bItm) (if cdBuild (SR.mk sLen sKind sExt sMust rTab rFil rNum rLnk rLen rItm) made bRea (BS.mk bByt bRec bItm bFld bOff bOfp kept wrt wid) x = 3 then (asP (SR.mk sLen sKind sExt sMust rTab rFil rNum rLnk rLen rItm) (cN x) (BS.mk bByt bRec bItm bFld bOff bOfp kept wrt wid)).fld else bFld) (if cdBuild (SR.mk sLen sKind sExt sMust rTab rFil rNum rLnk rLen rItm) made bRea (BS.mk bByt bRec bItm bFld bOff bOfp kept wrt wid) x = 3 then (asP (SR.mk sLen sKind sExt sMust rTab rFil rNum rLnk rLen rItm) (cN x) (BS.mk bByt bRec bItm bFld bOff bOfp kept wrt wid)).off else bOff) (if cdBuild (SR.mk sLen sKind sExt sMust rTab rFil rNum rLnk rLen rItm) made bRea (BS.mk bByt bRec bItm bFld bOff bOfp kept wrt wid) x = 3 then (asP (SR.mk sLen sKind sExt sMust rTab rFil rNum rLnk rLen rItm) (cN x) (BS.mk bByt bRec bItm bFld bOff bOfp kept wrt wid)).ofp else bOfp) (if cdBuild (SR.mk sLen sKind sExt sMust rTab rFil rNum rLnk rLen rItm) made bRea (BS.mk bByt bRec bItm bFld bOff bOfp kept wrt wid) x = 3 then (asP (SR.mk sLen sKind sExt sMust rTab rFil rNum rLnk rLen rItm) (cN x) (BS.mk bByt bRec bItm bFld bOff bOfp kept wrt wid)).kept else kept) (if cdBuild (SR.mk sLen sKind sExt sMust rTab rFil rNum rLnk rLen rItm) made bRea (BS.mk bByt bRec bItm bFld bOff bOfp kept wrt wid) x = 3 then (asP (SR.mk sLen sKind sExt sMust rTab rFil rNum rLnk rLen rItm) (cN x) (BS.mk bByt bRec bItm bFld bOff bOfp kept wrt wid)).wrt else wrt) (if cdBuild (SR.mk sLen sKind sExt sMust rTab rFil rNum rLnk rLen rItm) made bRea (BS.mk bByt bRec bItm bFld bOff bOfp kept wrt wid) x = 3 then (asP (SR.mk sLen sKind sExt sMust rTab rFil rNum rLnk rLen rItm) (cN x) (BS.mk bByt bRec bItm bFld bOff bOfp kept wrt wid)).wid else wid) ent ver fAdr fTab adr tab lf oV) H := hP
    have hD : va_D A (Wo a g sLen sKind sExt sMust rTab rFil rNum rLnk rLen rItm made pItm held dByt dLen (if cdBuild (SR.mk sLen sKind sExt sMust rTab rFil rNum rLnk rLen rItm) made bRea (BS.mk bByt bRec bItm bFld bOff bOfp kept wrt wid) x = 3 then (asP (SR.mk sLen sKind sExt sMust rTab rFil rNum rLnk rLen rItm) (cN x) (BS.mk bByt bRec bItm bFld bOff bOfp kept wrt wid)).byt else bByt) (if hasF made x = true then (whR (SR.mk sLen sKind sExt sMust rTab rFil rNum rLnk rLen rItm) (cN x) (rcR (cN x) bRea 16) (cN x + 1)).2 else bRea) (if cdBuild (SR.mk sLen sKind sExt sMust rTab rFil rNum rLnk rLen rItm) made bRea (BS.mk bByt bRec bItm bFld bOff bOfp kept wrt wid) x = 3 then (asP (SR.mk sLen sKind sExt sMust rTab rFil rNum rLnk rLen rItm) (cN x) (BS.mk bByt bRec bItm bFld bOff bOfp kept wrt wid)).rcp else bRec) (if cdBuild (SR.mk sLen sKind sExt sMust rTab rFil rNum rLnk rLen rItm) made bRea (BS.mk bByt bRec bItm bFld bOff bOfp kept wrt wid) x = 3 then (asP (SR.mk sLen sKind sExt sMust rTab rFil rNum rLnk rLen rItm) (cN x) (BS.mk bByt bRec bItm bFld bOff bOfp kept wrt wid)).itm else bItm) (if cdBuild (SR.mk sLen sKind sExt sMust rTab rFil rNum rLnk rLen rItm) made bRea (BS.mk bByt bRec bItm bFld bOff bOfp kept wrt wid) x = 3 then (asP (SR.mk sLen sKind sExt sMust rTab rFil rNum rLnk rLen rItm) (cN x) (BS.mk bByt bRec bItm bFld bOff bOfp kept wrt wid)).fld else bFld) (if cdBuild (SR.mk sLen sKind sExt sMust rTab rFil rNum rLnk rLen rItm) made bRea (BS.mk bByt bRec bItm bFld bOff bOfp kept wrt wid) x = 3 then (asP (SR.mk sLen sKind sExt sMust rTab rFil rNum rLnk rLen rItm) (cN x) (BS.mk bByt bRec bItm bFld bOff bOfp kept wrt wid)).off else bOff) (if cdBuild (SR.mk sLen sKind sExt sMust rTab rFil rNum rLnk rLen rItm) made bRea (BS.mk bByt bRec bItm bFld bOff bOfp kept wrt wid) x = 3 then (asP (SR.mk sLen sKind sExt sMust rTab rFil rNum rLnk rLen rItm) (cN x) (BS.mk bByt bRec bItm bFld bOff bOfp kept wrt wid)).ofp else bOfp) (if cdBuild (SR.mk sLen sKind sExt sMust rTab rFil rNum rLnk rLen rItm) made bRea (BS.mk bByt bRec bItm bFld bOff bOfp kept wrt wid) x = 3 then (asP (SR.mk sLen sKind sExt sMust rTab rFil rNum rLnk rLen rItm) (cN x) (BS.mk bByt bRec bItm bFld bOff bOfp kept wrt wid)).kept else kept) (if cdBuild (SR.mk sLen sKind sExt sMust rTab rFil rNum rLnk rLen rItm) made bRea (BS.mk bByt bRec bItm bFld bOff bOfp kept wrt wid) x = 3 then (asP (SR.mk sLen sKind sExt sMust rTab rFil rNum rLnk rLen rItm) (cN x) (BS.mk bByt bRec bItm bFld bOff bOfp kept wrt wid)).wrt else wrt) (if cdBuild (SR.mk sLen sKind sExt sMust rTab rFil rNum rLnk rLen rItm) made bRea (BS.mk bByt bRec bItm bFld bOff bOfp kept wrt wid) x = 3 then (asP (SR.mk sLen sKind sExt sMust rTab rFil rNum rLnk rLen rItm) (cN x) (BS.mk bByt bRec bItm bFld bOff bOfp kept wrt wid)).wid else wid) ent ver fAdr fTab adr tab lf oV) := hD
    rcases hE with ⟨rfl, hcd⟩ | ⟨rfl, hcd⟩ | ⟨rfl, hcd⟩
    · skip
      refine x_catch hown hq9 hcv hcl [] (⟨0, 9, 12, 25⟩ : ExceptionTableEntry) [(⟨0, 9, 15, 15⟩ : ExceptionTableEntry), (⟨0, 9, 18, 46⟩ : ExceptionTableEntry)] hex (by intro q hq; simp at hq) (by decide) (by decide) (hts _ (kT _ wd_344b8025)) ?_
      refine lv_astore_n (lv' := [(3, .ref q9), (0, .ref (a 0)), (1, .int x), (2, .ref (a 27))]) hx hb d_L_build_12 rfl hl (by decide) rfl (fun ls hl => ?_)
      refine lv_iconst (v := nI 1) hx hb d_L_build_13 (by decide) ?_
      refine W.widen (k := 1) (n := 6) (Nat.le_of_ble_eq_true rfl) (Nat.le_of_ble_eq_true rfl) ?_
      exact x_ret (k_iret hx hb hr hlocks hK hP hD hS trivial (nI_congr hcd.symm) ((if_neg (show ¬ cdBuild (SR.mk sLen sKind sExt sMust rTab rFil rNum rLnk rLen rItm) made bRea (BS.mk bByt bRec bItm bFld bOff bOfp kept wrt wid) x = 0 by rw [hcd]; decide)).symm) d_L_build_14)
    · skip
      refine x_catch hown hq9 hcv hcl [((⟨0, 9, 12, 25⟩ : ExceptionTableEntry), xNS)] (⟨0, 9, 15, 15⟩ : ExceptionTableEntry) [(⟨0, 9, 18, 46⟩ : ExceptionTableEntry)] hex (fun q hq => by simp only [List.mem_cons, List.not_mem_nil, or_false] at hq; rcases hq with rfl <;> first | exact ⟨by decide, by decide, (hts _ (kT _ wd_344b8025)), hZ.2.2.2.1 (xIS, xNS) (by decide)⟩) (by decide) (by decide) (hts _ (kT _ wd_8d568b9d)) ?_
      refine lv_astore_n (lv' := [(3, .ref q9), (0, .ref (a 0)), (1, .int x), (2, .ref (a 27))]) hx hb d_L_build_15 rfl hl (by decide) rfl (fun ls hl => ?_)
      refine lv_iconst (v := nI 2) hx hb d_L_build_16 (by decide) ?_
      refine W.widen (k := 1) (n := 6) (Nat.le_of_ble_eq_true rfl) (Nat.le_of_ble_eq_true rfl) ?_
      exact x_ret (k_iret hx hb hr hlocks hK hP hD hS trivial (nI_congr hcd.symm) ((if_neg (show ¬ cdBuild (SR.mk sLen sKind sExt sMust rTab rFil rNum rLnk rLen rItm) made bRea (BS.mk bByt bRec bItm bFld bOff bOfp kept wrt wid) x = 0 by rw [hcd]; decide)).symm) d_L_build_17)
    · skip
      refine x_catch hown hq9 hcv hcl [((⟨0, 9, 12, 25⟩ : ExceptionTableEntry), xNS), ((⟨0, 9, 15, 15⟩ : ExceptionTableEntry), xIS)] (⟨0, 9, 18, 46⟩ : ExceptionTableEntry) [] hex (fun q hq => by simp only [List.mem_cons, List.not_mem_nil, or_false] at hq; rcases hq with rfl | rfl <;> first | exact ⟨by decide, by decide, (hts _ (kT _ wd_344b8025)), hZ.2.2.2.1 (xIO, xNS) (by decide)⟩ | exact ⟨by decide, by decide, (hts _ (kT _ wd_8d568b9d)), hZ.2.2.2.1 (xIO, xIS) (by decide)⟩) (by decide) (by decide) (hts _ (kT _ wd_d149e94a)) ?_
      refine lv_astore_n (lv' := [(3, .ref q9), (0, .ref (a 0)), (1, .int x), (2, .ref (a 27))]) hx hb d_L_build_18 rfl hl (by decide) rfl (fun ls hl => ?_)
      refine lv_iconst (v := nI 3) hx hb d_L_build_19 (by decide) ?_
      refine W.widen (k := 1) (n := 6) (Nat.le_of_ble_eq_true rfl) (Nat.le_of_ble_eq_true rfl) ?_
      exact x_ret (k_iret hx hb hr hlocks hK hP hD hS trivial (nI_congr hcd.symm) ((if_neg (show ¬ cdBuild (SR.mk sLen sKind sExt sMust rTab rFil rNum rLnk rLen rItm) made bRea (BS.mk bByt bRec bItm bFld bOff bOfp kept wrt wid) x = 0 by rw [hcd]; decide)).symm) d_L_build_20)
  · skip
    have hcd : cdBuild (SR.mk sLen sKind sExt sMust rTab rFil rNum rLnk rLen rItm) made bRea (BS.mk bByt bRec bItm bFld bOff bOfp kept wrt wid) x = 0 := hC
    have hP : va_P D vwCl (Wo a g sLen sKind sExt sMust rTab rFil rNum rLnk rLen rItm made pItm held (tkE (asP (SR.mk sLen sKind sExt sMust rTab rFil rNum rLnk rLen rItm) (cN x) (BS.mk bByt bRec bItm bFld bOff bOfp kept wrt wid)).byt dByt (asP (SR.mk sLen sKind sExt sMust rTab rFil rNum rLnk rLen rItm) (cN x) (BS.mk bByt bRec bItm bFld bOff bOfp kept wrt wid)).wrt) ((asP (SR.mk sLen sKind sExt sMust rTab rFil rNum rLnk rLen rItm) (cN x) (BS.mk bByt bRec bItm bFld bOff bOfp kept wrt wid)).wrt) ((asP (SR.mk sLen sKind sExt sMust rTab rFil rNum rLnk rLen rItm) (cN x) (BS.mk bByt bRec bItm bFld bOff bOfp kept wrt wid)).byt) ((whR (SR.mk sLen sKind sExt sMust rTab rFil rNum rLnk rLen rItm) (cN x) (rcR (cN x) bRea 16) (cN x + 1)).2) ((asP (SR.mk sLen sKind sExt sMust rTab rFil rNum rLnk rLen rItm) (cN x) (BS.mk bByt bRec bItm bFld bOff bOfp kept wrt wid)).rcp) ((asP (SR.mk sLen sKind sExt sMust rTab rFil rNum rLnk rLen rItm) (cN x) (BS.mk bByt bRec bItm bFld bOff bOfp kept wrt wid)).itm) ((asP (SR.mk sLen sKind sExt sMust rTab rFil rNum rLnk rLen rItm) (cN x) (BS.mk bByt bRec bItm bFld bOff bOfp kept wrt wid)).fld) ((asP (SR.mk sLen sKind sExt sMust rTab rFil rNum rLnk rLen rItm) (cN x) (BS.mk bByt bRec bItm bFld bOff bOfp kept wrt wid)).off) ((asP (SR.mk sLen sKind sExt sMust rTab rFil rNum rLnk rLen rItm) (cN x) (BS.mk bByt bRec bItm bFld bOff bOfp kept wrt wid)).ofp) ((asP (SR.mk sLen sKind sExt sMust rTab rFil rNum rLnk rLen rItm) (cN x) (BS.mk bByt bRec bItm bFld bOff bOfp kept wrt wid)).kept) ((asP (SR.mk sLen sKind sExt sMust rTab rFil rNum rLnk rLen rItm) (cN x) (BS.mk bByt bRec bItm bFld bOff bOfp kept wrt wid)).wrt) ((asP (SR.mk sLen sKind sExt sMust rTab rFil rNum rLnk rLen rItm) (cN x) (BS.mk bByt bRec bItm bFld bOff bOfp kept wrt wid)).wid) ent false fAdr fTab adr tab lf oV) H := hP
    have hD : va_D A (Wo a g sLen sKind sExt sMust rTab rFil rNum rLnk rLen rItm made pItm held (tkE (asP (SR.mk sLen sKind sExt sMust rTab rFil rNum rLnk rLen rItm) (cN x) (BS.mk bByt bRec bItm bFld bOff bOfp kept wrt wid)).byt dByt (asP (SR.mk sLen sKind sExt sMust rTab rFil rNum rLnk rLen rItm) (cN x) (BS.mk bByt bRec bItm bFld bOff bOfp kept wrt wid)).wrt) ((asP (SR.mk sLen sKind sExt sMust rTab rFil rNum rLnk rLen rItm) (cN x) (BS.mk bByt bRec bItm bFld bOff bOfp kept wrt wid)).wrt) ((asP (SR.mk sLen sKind sExt sMust rTab rFil rNum rLnk rLen rItm) (cN x) (BS.mk bByt bRec bItm bFld bOff bOfp kept wrt wid)).byt) ((whR (SR.mk sLen sKind sExt sMust rTab rFil rNum rLnk rLen rItm) (cN x) (rcR (cN x) bRea 16) (cN x + 1)).2) ((asP (SR.mk sLen sKind sExt sMust rTab rFil rNum rLnk rLen rItm) (cN x) (BS.mk bByt bRec bItm bFld bOff bOfp kept wrt wid)).rcp) ((asP (SR.mk sLen sKind sExt sMust rTab rFil rNum rLnk rLen rItm) (cN x) (BS.mk bByt bRec bItm bFld bOff bOfp kept wrt wid)).itm) ((asP (SR.mk sLen sKind sExt sMust rTab rFil rNum rLnk rLen rItm) (cN x) (BS.mk bByt bRec bItm bFld bOff bOfp kept wrt wid)).fld) ((asP (SR.mk sLen sKind sExt sMust rTab rFil rNum rLnk rLen rItm) (cN x) (BS.mk bByt bRec bItm bFld bOff bOfp kept wrt wid)).off) ((asP (SR.mk sLen sKind sExt sMust rTab rFil rNum rLnk rLen rItm) (cN x) (BS.mk bByt bRec bItm bFld bOff bOfp kept wrt wid)).ofp) ((asP (SR.mk sLen sKind sExt sMust rTab rFil rNum rLnk rLen rItm) (cN x) (BS.mk bByt bRec bItm bFld bOff bOfp kept wrt wid)).kept) ((asP (SR.mk sLen sKind sExt sMust rTab rFil rNum rLnk rLen rItm) (cN x) (BS.mk bByt bRec bItm bFld bOff bOfp kept wrt wid)).wrt) ((asP (SR.mk sLen sKind sExt sMust rTab rFil rNum rLnk rLen rItm) (cN x) (BS.mk bByt bRec bItm bFld bOff bOfp kept wrt wid)).wid) ent false fAdr fTab adr tab lf oV) := hD
    refine W.eq (g2 := F0 m 7 ls [.int (nI (asP (SR.mk sLen sKind sExt sMust rTab rFil rNum rLnk rLen rItm) (cN x) (BS.mk bByt bRec bItm bFld bOff bOfp kept wrt wid)).wrt), .int (nI 0), .ref (a 27)]) rfl ?_
    refine lv_i2l hx hb d_L_build_7 rfl ?_
    refine l_last hx hb hK hP hD hS 27 19 rfl rfl (i := 0) (by omega) (by decide) d_L_build_8 (fun H locs hP hD hS => ?_)
    have hP : va_P D vwCl (Wo a g sLen sKind sExt sMust rTab rFil rNum rLnk rLen rItm made pItm held (tkE (asP (SR.mk sLen sKind sExt sMust rTab rFil rNum rLnk rLen rItm) (cN x) (BS.mk bByt bRec bItm bFld bOff bOfp kept wrt wid)).byt dByt (asP (SR.mk sLen sKind sExt sMust rTab rFil rNum rLnk rLen rItm) (cN x) (BS.mk bByt bRec bItm bFld bOff bOfp kept wrt wid)).wrt) ((asP (SR.mk sLen sKind sExt sMust rTab rFil rNum rLnk rLen rItm) (cN x) (BS.mk bByt bRec bItm bFld bOff bOfp kept wrt wid)).wrt) ((asP (SR.mk sLen sKind sExt sMust rTab rFil rNum rLnk rLen rItm) (cN x) (BS.mk bByt bRec bItm bFld bOff bOfp kept wrt wid)).byt) ((whR (SR.mk sLen sKind sExt sMust rTab rFil rNum rLnk rLen rItm) (cN x) (rcR (cN x) bRea 16) (cN x + 1)).2) ((asP (SR.mk sLen sKind sExt sMust rTab rFil rNum rLnk rLen rItm) (cN x) (BS.mk bByt bRec bItm bFld bOff bOfp kept wrt wid)).rcp) ((asP (SR.mk sLen sKind sExt sMust rTab rFil rNum rLnk rLen rItm) (cN x) (BS.mk bByt bRec bItm bFld bOff bOfp kept wrt wid)).itm) ((asP (SR.mk sLen sKind sExt sMust rTab rFil rNum rLnk rLen rItm) (cN x) (BS.mk bByt bRec bItm bFld bOff bOfp kept wrt wid)).fld) ((asP (SR.mk sLen sKind sExt sMust rTab rFil rNum rLnk rLen rItm) (cN x) (BS.mk bByt bRec bItm bFld bOff bOfp kept wrt wid)).off) ((asP (SR.mk sLen sKind sExt sMust rTab rFil rNum rLnk rLen rItm) (cN x) (BS.mk bByt bRec bItm bFld bOff bOfp kept wrt wid)).ofp) ((asP (SR.mk sLen sKind sExt sMust rTab rFil rNum rLnk rLen rItm) (cN x) (BS.mk bByt bRec bItm bFld bOff bOfp kept wrt wid)).kept) ((asP (SR.mk sLen sKind sExt sMust rTab rFil rNum rLnk rLen rItm) (cN x) (BS.mk bByt bRec bItm bFld bOff bOfp kept wrt wid)).wrt) ((asP (SR.mk sLen sKind sExt sMust rTab rFil rNum rLnk rLen rItm) (cN x) (BS.mk bByt bRec bItm bFld bOff bOfp kept wrt wid)).wid) ent false fAdr fTab adr tab lf (vp_updL oV 0 ((nI (asP (SR.mk sLen sKind sExt sMust rTab rFil rNum rLnk rLen rItm) (cN x) (BS.mk bByt bRec bItm bFld bOff bOfp kept wrt wid)).wrt).toInt64))) H := hP
    have hD : va_D A (Wo a g sLen sKind sExt sMust rTab rFil rNum rLnk rLen rItm made pItm held (tkE (asP (SR.mk sLen sKind sExt sMust rTab rFil rNum rLnk rLen rItm) (cN x) (BS.mk bByt bRec bItm bFld bOff bOfp kept wrt wid)).byt dByt (asP (SR.mk sLen sKind sExt sMust rTab rFil rNum rLnk rLen rItm) (cN x) (BS.mk bByt bRec bItm bFld bOff bOfp kept wrt wid)).wrt) ((asP (SR.mk sLen sKind sExt sMust rTab rFil rNum rLnk rLen rItm) (cN x) (BS.mk bByt bRec bItm bFld bOff bOfp kept wrt wid)).wrt) ((asP (SR.mk sLen sKind sExt sMust rTab rFil rNum rLnk rLen rItm) (cN x) (BS.mk bByt bRec bItm bFld bOff bOfp kept wrt wid)).byt) ((whR (SR.mk sLen sKind sExt sMust rTab rFil rNum rLnk rLen rItm) (cN x) (rcR (cN x) bRea 16) (cN x + 1)).2) ((asP (SR.mk sLen sKind sExt sMust rTab rFil rNum rLnk rLen rItm) (cN x) (BS.mk bByt bRec bItm bFld bOff bOfp kept wrt wid)).rcp) ((asP (SR.mk sLen sKind sExt sMust rTab rFil rNum rLnk rLen rItm) (cN x) (BS.mk bByt bRec bItm bFld bOff bOfp kept wrt wid)).itm) ((asP (SR.mk sLen sKind sExt sMust rTab rFil rNum rLnk rLen rItm) (cN x) (BS.mk bByt bRec bItm bFld bOff bOfp kept wrt wid)).fld) ((asP (SR.mk sLen sKind sExt sMust rTab rFil rNum rLnk rLen rItm) (cN x) (BS.mk bByt bRec bItm bFld bOff bOfp kept wrt wid)).off) ((asP (SR.mk sLen sKind sExt sMust rTab rFil rNum rLnk rLen rItm) (cN x) (BS.mk bByt bRec bItm bFld bOff bOfp kept wrt wid)).ofp) ((asP (SR.mk sLen sKind sExt sMust rTab rFil rNum rLnk rLen rItm) (cN x) (BS.mk bByt bRec bItm bFld bOff bOfp kept wrt wid)).kept) ((asP (SR.mk sLen sKind sExt sMust rTab rFil rNum rLnk rLen rItm) (cN x) (BS.mk bByt bRec bItm bFld bOff bOfp kept wrt wid)).wrt) ((asP (SR.mk sLen sKind sExt sMust rTab rFil rNum rLnk rLen rItm) (cN x) (BS.mk bByt bRec bItm bFld bOff bOfp kept wrt wid)).wid) ent false fAdr fTab adr tab lf (vp_updL oV 0 ((nI (asP (SR.mk sLen sKind sExt sMust rTab rFil rNum rLnk rLen rItm) (cN x) (BS.mk bByt bRec bItm bFld bOff bOfp kept wrt wid)).wrt).toInt64))) := hD
    refine lv_goto (tgt := 21) hx hb d_L_build_9 (by decide) ?_
    refine lv_iconst (v := nI 0) hx hb d_L_build_21 (by decide) ?_
    refine W.widen (k := 1) (n := 6) (Nat.le_of_ble_eq_true rfl) (Nat.le_of_ble_eq_true rfl) ?_
    exact x_ret (k_iret hx hb hr hlocks hK hP hD hS trivial (nI_congr hcd.symm) ((if_pos hcd).symm) d_L_build_22)
set_option maxHeartbeats 4000000 in
set_option maxRecDepth 100000 in
theorem w_at (l : Launch) (hl0 : l.stackTraces = false) (D : va_G) (a : Nat → Nat) (g : Nat → ClassId) (tw : Nat) (sLen sKind : Nat → Nat) (sExt : Nat → Int32) (sMust : Nat → Bool) (rTab : Nat → Nat) (rFil : Nat → Bool) (rNum : Nat → Int64) (rLnk rLen : Nat → Nat) (rItm : Nat → Int32) (made : Nat) (pItm : Nat → Int32) (held : Nat) (dByt : Nat → Nat) (dLen : Nat) (bByt : Nat → Nat) (bRea : Nat → Bool) (bRec bItm bFld bOff bOfp : Nat → Nat) (kept wrt wid ent : Nat) (ver : Bool) (fAdr fTab adr tab : Nat) (lf : Int32) (oV : Nat → Int64) (x : Int32) (hB : ∀ k, dByt k < 256) (hd : dLen ≤ 240) : kMH l y_L_at b_L_at 4 (some .int) [(0, 9, 12, 46)] ({ frames := 7, cells := 1, slots := 6, locals := 110 }) D vwCl (WoT g) tw [.ref (a 0), .int x, .ref (a 27)] (Wo a g sLen sKind sExt sMust rTab rFil rNum rLnk rLen rItm made pItm held dByt dLen bByt bRea bRec bItm bFld bOff bOfp kept wrt wid ent ver fAdr fTab adr tab lf oV) (some (.int (nI (cdAt dLen x)))) (if cdAt dLen x = 0 then (Wo a g sLen sKind sExt sMust rTab rFil rNum rLnk rLen rItm made pItm held dByt dLen bByt bRea bRec bItm bFld bOff bOfp kept wrt wid ent ver fAdr fTab adr tab lf (vp_updL oV 0 ((nI (leN dByt dLen x 1)).toInt64))) else (Wo a g sLen sKind sExt sMust rTab rFil rNum rLnk rLen rItm made pItm held dByt dLen bByt bRea bRec bItm bFld bOff bOfp kept wrt wid ent ver fAdr fTab adr tab lf oV)) := by
  refine k_ofH (by decide) (Nat.le_of_ble_eq_true rfl) ?_
  intro p e s m below meth c A ls hx hb hr hlocks hml hex hts hown hA hP hK hD hS hZ hl
  have hl : lv_has ls 4 [(0, .ref (a 0)), (1, .int x), (2, .ref (a 27))] := hl
  refine lv_aload_n hx hb d_L_at_0 rfl (lv_at hl 2 rfl) ?_
  refine lv_iconst (v := nI 0) hx hb d_L_at_1 (by decide) ?_
  refine lv_aload_n hx hb d_L_at_2 rfl (lv_at hl 0 rfl) ?_
  refine lv_iload_n hx hb d_L_at_3 rfl (lv_at hl 1 rfl) ?_
  refine k_partVX (w2 := [(a 27, .inl (g 19, 1, .inr (.inl oV)))]) (c_at l hl0 D a g tw sLen sKind sExt sMust rTab rFil rNum rLnk rLen rItm made pItm held dByt dLen bByt bRea bRec bItm bFld bOff bOfp kept wrt wid ent ver fAdr fTab adr tab lf x hB hd) m_F_at wd_66dcd284 0 0 rfl rfl rfl kT hx hb hml hown hts ⟨Nat.le_of_ble_eq_true rfl, Nat.le_of_ble_eq_true rfl⟩ ⟨Nat.le_of_ble_eq_true rfl, Nat.le_of_ble_eq_true rfl⟩ (kK_l hK) (kP_l hP) (kP_r hP) (kSp_of hD) hS hA hZ hl.1 rfl rfl (Nat.le_of_ble_eq_true rfl) d_L_at_4 (fun E ce q9 H locs hE hP hD hS hq9 hcv hcl => ?_) (fun H locs hC hP hD hS => ?_)
  · skip
    have hP : va_P D vwCl (Wo a g sLen sKind sExt sMust rTab rFil rNum rLnk rLen rItm made pItm held dByt dLen bByt bRea bRec bItm bFld bOff bOfp kept wrt wid ent ver fAdr fTab adr tab lf oV) H := hP
    have hD : va_D A (Wo a g sLen sKind sExt sMust rTab rFil rNum rLnk rLen rItm made pItm held dByt dLen bByt bRea bRec bItm bFld bOff bOfp kept wrt wid ent ver fAdr fTab adr tab lf oV) := hD
    rcases hE with ⟨rfl, hcd⟩
    · skip
      refine x_catch hown hq9 hcv hcl [] (⟨0, 9, 12, 46⟩ : ExceptionTableEntry) [] hex (by intro q hq; simp at hq) (by decide) (by decide) (hts _ (kT _ wd_d149e94a)) ?_
      refine lv_astore_n (lv' := [(3, .ref q9), (0, .ref (a 0)), (1, .int x), (2, .ref (a 27))]) hx hb d_L_at_12 rfl hl (by decide) rfl (fun ls hl => ?_)
      refine lv_iconst (v := nI 1) hx hb d_L_at_13 (by decide) ?_
      refine W.widen (k := 1) (n := 6) (Nat.le_of_ble_eq_true rfl) (Nat.le_of_ble_eq_true rfl) ?_
      exact x_ret (k_iret hx hb hr hlocks hK hP hD hS trivial (nI_congr hcd.symm) ((if_neg (show ¬ cdAt dLen x = 0 by rw [hcd]; decide)).symm) d_L_at_14)
  · skip
    have hcd : cdAt dLen x = 0 := hC
    have hP : va_P D vwCl (Wo a g sLen sKind sExt sMust rTab rFil rNum rLnk rLen rItm made pItm held dByt dLen bByt bRea bRec bItm bFld bOff bOfp kept wrt wid ent ver fAdr fTab adr tab lf oV) H := hP
    have hD : va_D A (Wo a g sLen sKind sExt sMust rTab rFil rNum rLnk rLen rItm made pItm held dByt dLen bByt bRea bRec bItm bFld bOff bOfp kept wrt wid ent ver fAdr fTab adr tab lf oV) := hD
    refine W.eq (g2 := F0 m 7 ls [.int (nI (leN dByt dLen x 1)), .int (nI 0), .ref (a 27)]) rfl ?_
    refine lv_i2l hx hb d_L_at_7 rfl ?_
    refine l_last hx hb hK hP hD hS 27 19 rfl rfl (i := 0) (by omega) (by decide) d_L_at_8 (fun H locs hP hD hS => ?_)
    have hP : va_P D vwCl (Wo a g sLen sKind sExt sMust rTab rFil rNum rLnk rLen rItm made pItm held dByt dLen bByt bRea bRec bItm bFld bOff bOfp kept wrt wid ent ver fAdr fTab adr tab lf (vp_updL oV 0 ((nI (leN dByt dLen x 1)).toInt64))) H := hP
    have hD : va_D A (Wo a g sLen sKind sExt sMust rTab rFil rNum rLnk rLen rItm made pItm held dByt dLen bByt bRea bRec bItm bFld bOff bOfp kept wrt wid ent ver fAdr fTab adr tab lf (vp_updL oV 0 ((nI (leN dByt dLen x 1)).toInt64))) := hD
    refine lv_goto (tgt := 15) hx hb d_L_at_9 (by decide) ?_
    refine lv_iconst (v := nI 0) hx hb d_L_at_15 (by decide) ?_
    refine W.widen (k := 1) (n := 6) (Nat.le_of_ble_eq_true rfl) (Nat.le_of_ble_eq_true rfl) ?_
    exact x_ret (k_iret hx hb hr hlocks hK hP hD hS trivial (nI_congr hcd.symm) ((if_pos hcd).symm) d_L_at_16)
set_option maxHeartbeats 4000000 in
set_option maxRecDepth 100000 in
theorem w_patch (l : Launch) (hl0 : l.stackTraces = false) (D : va_G) (a : Nat → Nat) (g : Nat → ClassId) (tw : Nat) (sLen sKind : Nat → Nat) (sExt : Nat → Int32) (sMust : Nat → Bool) (rTab : Nat → Nat) (rFil : Nat → Bool) (rNum : Nat → Int64) (rLnk rLen : Nat → Nat) (rItm : Nat → Int32) (made : Nat) (pItm : Nat → Int32) (held : Nat) (dByt : Nat → Nat) (dLen : Nat) (bByt : Nat → Nat) (bRea : Nat → Bool) (bRec bItm bFld bOff bOfp : Nat → Nat) (kept wrt wid ent : Nat) (ver : Bool) (fAdr fTab adr tab : Nat) (lf : Int32) (oV : Nat → Int64) (x : Int32) (v : Int32) (hB : ∀ k, dByt k < 256) (hd : dLen ≤ 240) : kMH l y_L_patch b_L_patch 5 (some .int) [(0, 10, 13, 46)] ({ frames := 7, cells := 1, slots := 6, locals := 112 }) D vwCl (WoT g) tw [.ref (a 0), .int x, .int v, .ref (a 27)] (Wo a g sLen sKind sExt sMust rTab rFil rNum rLnk rLen rItm made pItm held dByt dLen bByt bRea bRec bItm bFld bOff bOfp kept wrt wid ent ver fAdr fTab adr tab lf oV) (some (.int (nI (cdAt dLen x)))) (if cdAt dLen x = 0 then (Wo a g sLen sKind sExt sMust rTab rFil rNum rLnk rLen rItm made pItm held (va_up dByt (cN x) (u8 v)) dLen bByt bRea bRec bItm bFld bOff bOfp kept wrt wid ent false fAdr fTab adr tab lf (vp_updL oV 0 ((nI (leN dByt dLen x 1)).toInt64))) else (Wo a g sLen sKind sExt sMust rTab rFil rNum rLnk rLen rItm made pItm held dByt dLen bByt bRea bRec bItm bFld bOff bOfp kept wrt wid ent ver fAdr fTab adr tab lf oV)) := by
  refine k_ofH (by decide) (Nat.le_of_ble_eq_true rfl) ?_
  intro p e s m below meth c A ls hx hb hr hlocks hml hex hts hown hA hP hK hD hS hZ hl
  have hl : lv_has ls 5 [(0, .ref (a 0)), (1, .int x), (2, .int v), (3, .ref (a 27))] := hl
  refine lv_aload_n hx hb d_L_patch_0 rfl (lv_at hl 3 rfl) ?_
  refine lv_iconst (v := nI 0) hx hb d_L_patch_1 (by decide) ?_
  refine lv_aload_n hx hb d_L_patch_2 rfl (lv_at hl 0 rfl) ?_
  refine lv_iload_n hx hb d_L_patch_3 rfl (lv_at hl 1 rfl) ?_
  refine lv_iload_n hx hb d_L_patch_4 rfl (lv_at hl 2 rfl) ?_
  refine k_partVX (w2 := [(a 27, .inl (g 19, 1, .inr (.inl oV)))]) (c_patch l hl0 D a g tw sLen sKind sExt sMust rTab rFil rNum rLnk rLen rItm made pItm held dByt dLen bByt bRea bRec bItm bFld bOff bOfp kept wrt wid ent ver fAdr fTab adr tab lf x v hB hd) m_F_patch wd_5eb21dd2 0 0 rfl rfl rfl kT hx hb hml hown hts ⟨Nat.le_of_ble_eq_true rfl, Nat.le_of_ble_eq_true rfl⟩ ⟨Nat.le_of_ble_eq_true rfl, Nat.le_of_ble_eq_true rfl⟩ (kK_l hK) (kP_l hP) (kP_r hP) (kSp_of hD) hS hA hZ hl.1 rfl rfl (Nat.le_of_ble_eq_true rfl) d_L_patch_5 (fun E ce q9 H locs hE hP hD hS hq9 hcv hcl => ?_) (fun H locs hC hP hD hS => ?_)
  · skip
    have hP : va_P D vwCl (Wo a g sLen sKind sExt sMust rTab rFil rNum rLnk rLen rItm made pItm held dByt dLen bByt bRea bRec bItm bFld bOff bOfp kept wrt wid ent ver fAdr fTab adr tab lf oV) H := hP
    have hD : va_D A (Wo a g sLen sKind sExt sMust rTab rFil rNum rLnk rLen rItm made pItm held dByt dLen bByt bRea bRec bItm bFld bOff bOfp kept wrt wid ent ver fAdr fTab adr tab lf oV) := hD
    rcases hE with ⟨rfl, hcd⟩
    · skip
      refine x_catch hown hq9 hcv hcl [] (⟨0, 10, 13, 46⟩ : ExceptionTableEntry) [] hex (by intro q hq; simp at hq) (by decide) (by decide) (hts _ (kT _ wd_d149e94a)) ?_
      refine lv_astore (lv' := [(4, .ref q9), (0, .ref (a 0)), (1, .int x), (2, .int v), (3, .ref (a 27))]) hx hb d_L_patch_13 hl (by decide) rfl (fun ls hl => ?_)
      refine lv_iconst (v := nI 1) hx hb d_L_patch_15 (by decide) ?_
      refine W.widen (k := 1) (n := 6) (Nat.le_of_ble_eq_true rfl) (Nat.le_of_ble_eq_true rfl) ?_
      exact x_ret (k_iret hx hb hr hlocks hK hP hD hS trivial (nI_congr hcd.symm) ((if_neg (show ¬ cdAt dLen x = 0 by rw [hcd]; decide)).symm) d_L_patch_16)
  · skip
    have hcd : cdAt dLen x = 0 := hC
    have hP : va_P D vwCl (Wo a g sLen sKind sExt sMust rTab rFil rNum rLnk rLen rItm made pItm held (va_up dByt (cN x) (u8 v)) dLen bByt bRea bRec bItm bFld bOff bOfp kept wrt wid ent false fAdr fTab adr tab lf oV) H := hP
    have hD : va_D A (Wo a g sLen sKind sExt sMust rTab rFil rNum rLnk rLen rItm made pItm held (va_up dByt (cN x) (u8 v)) dLen bByt bRea bRec bItm bFld bOff bOfp kept wrt wid ent false fAdr fTab adr tab lf oV) := hD
    refine W.eq (g2 := F0 m 8 ls [.int (nI (leN dByt dLen x 1)), .int (nI 0), .ref (a 27)]) rfl ?_
    refine lv_i2l hx hb d_L_patch_8 rfl ?_
    refine l_last hx hb hK hP hD hS 27 19 rfl rfl (i := 0) (by omega) (by decide) d_L_patch_9 (fun H locs hP hD hS => ?_)
    have hP : va_P D vwCl (Wo a g sLen sKind sExt sMust rTab rFil rNum rLnk rLen rItm made pItm held (va_up dByt (cN x) (u8 v)) dLen bByt bRea bRec bItm bFld bOff bOfp kept wrt wid ent false fAdr fTab adr tab lf (vp_updL oV 0 ((nI (leN dByt dLen x 1)).toInt64))) H := hP
    have hD : va_D A (Wo a g sLen sKind sExt sMust rTab rFil rNum rLnk rLen rItm made pItm held (va_up dByt (cN x) (u8 v)) dLen bByt bRea bRec bItm bFld bOff bOfp kept wrt wid ent false fAdr fTab adr tab lf (vp_updL oV 0 ((nI (leN dByt dLen x 1)).toInt64))) := hD
    refine lv_goto (tgt := 17) hx hb d_L_patch_10 (by decide) ?_
    refine lv_iconst (v := nI 0) hx hb d_L_patch_17 (by decide) ?_
    refine W.widen (k := 1) (n := 6) (Nat.le_of_ble_eq_true rfl) (Nat.le_of_ble_eq_true rfl) ?_
    exact x_ret (k_iret hx hb hr hlocks hK hP hD hS trivial (nI_congr hcd.symm) ((if_pos hcd).symm) d_L_patch_18)
set_option maxHeartbeats 4000000 in
set_option maxRecDepth 100000 in
theorem w_cut (l : Launch) (hl0 : l.stackTraces = false) (D : va_G) (a : Nat → Nat) (g : Nat → ClassId) (tw : Nat) (sLen sKind : Nat → Nat) (sExt : Nat → Int32) (sMust : Nat → Bool) (rTab : Nat → Nat) (rFil : Nat → Bool) (rNum : Nat → Int64) (rLnk rLen : Nat → Nat) (rItm : Nat → Int32) (made : Nat) (pItm : Nat → Int32) (held : Nat) (dByt : Nat → Nat) (dLen : Nat) (bByt : Nat → Nat) (bRea : Nat → Bool) (bRec bItm bFld bOff bOfp : Nat → Nat) (kept wrt wid ent : Nat) (ver : Bool) (fAdr fTab adr tab : Nat) (lf : Int32) (oV : Nat → Int64) (x : Int32) (hd : dLen ≤ 240) : kMH l y_L_cut b_L_cut 4 (some .int) [(0, 9, 12, 46)] ({ frames := 7, cells := 1, slots := 6, locals := 111 }) D vwCl (WoT g) tw [.ref (a 0), .int x, .ref (a 27)] (Wo a g sLen sKind sExt sMust rTab rFil rNum rLnk rLen rItm made pItm held dByt dLen bByt bRea bRec bItm bFld bOff bOfp kept wrt wid ent ver fAdr fTab adr tab lf oV) (some (.int (nI (cdCut dLen x)))) (if cdCut dLen x = 0 then (Wo a g sLen sKind sExt sMust rTab rFil rNum rLnk rLen rItm made pItm held dByt (cN x) bByt bRea bRec bItm bFld bOff bOfp kept wrt wid ent false fAdr fTab adr tab lf (vp_updL oV 0 ((nI (dLen - cN x)).toInt64))) else (Wo a g sLen sKind sExt sMust rTab rFil rNum rLnk rLen rItm made pItm held dByt dLen bByt bRea bRec bItm bFld bOff bOfp kept wrt wid ent ver fAdr fTab adr tab lf oV)) := by
  refine k_ofH (by decide) (Nat.le_of_ble_eq_true rfl) ?_
  intro p e s m below meth c A ls hx hb hr hlocks hml hex hts hown hA hP hK hD hS hZ hl
  have hl : lv_has ls 4 [(0, .ref (a 0)), (1, .int x), (2, .ref (a 27))] := hl
  refine lv_aload_n hx hb d_L_cut_0 rfl (lv_at hl 2 rfl) ?_
  refine lv_iconst (v := nI 0) hx hb d_L_cut_1 (by decide) ?_
  refine lv_aload_n hx hb d_L_cut_2 rfl (lv_at hl 0 rfl) ?_
  refine lv_iload_n hx hb d_L_cut_3 rfl (lv_at hl 1 rfl) ?_
  refine k_partVX (w2 := [(a 27, .inl (g 19, 1, .inr (.inl oV)))]) (c_cut l hl0 D a g tw sLen sKind sExt sMust rTab rFil rNum rLnk rLen rItm made pItm held dByt dLen bByt bRea bRec bItm bFld bOff bOfp kept wrt wid ent ver fAdr fTab adr tab lf x hd) m_F_cut wd_aea6c2c4 0 0 rfl rfl rfl kT hx hb hml hown hts ⟨Nat.le_of_ble_eq_true rfl, Nat.le_of_ble_eq_true rfl⟩ ⟨Nat.le_of_ble_eq_true rfl, Nat.le_of_ble_eq_true rfl⟩ (kK_l hK) (kP_l hP) (kP_r hP) (kSp_of hD) hS hA hZ hl.1 rfl rfl (Nat.le_of_ble_eq_true rfl) d_L_cut_4 (fun E ce q9 H locs hE hP hD hS hq9 hcv hcl => ?_) (fun H locs hC hP hD hS => ?_)
  · skip
    have hP : va_P D vwCl (Wo a g sLen sKind sExt sMust rTab rFil rNum rLnk rLen rItm made pItm held dByt dLen bByt bRea bRec bItm bFld bOff bOfp kept wrt wid ent ver fAdr fTab adr tab lf oV) H := hP
    have hD : va_D A (Wo a g sLen sKind sExt sMust rTab rFil rNum rLnk rLen rItm made pItm held dByt dLen bByt bRea bRec bItm bFld bOff bOfp kept wrt wid ent ver fAdr fTab adr tab lf oV) := hD
    rcases hE with ⟨rfl, hcd⟩
    · skip
      refine x_catch hown hq9 hcv hcl [] (⟨0, 9, 12, 46⟩ : ExceptionTableEntry) [] hex (by intro q hq; simp at hq) (by decide) (by decide) (hts _ (kT _ wd_d149e94a)) ?_
      refine lv_astore_n (lv' := [(3, .ref q9), (0, .ref (a 0)), (1, .int x), (2, .ref (a 27))]) hx hb d_L_cut_12 rfl hl (by decide) rfl (fun ls hl => ?_)
      refine lv_iconst (v := nI 1) hx hb d_L_cut_13 (by decide) ?_
      refine W.widen (k := 1) (n := 6) (Nat.le_of_ble_eq_true rfl) (Nat.le_of_ble_eq_true rfl) ?_
      exact x_ret (k_iret hx hb hr hlocks hK hP hD hS trivial (nI_congr hcd.symm) ((if_neg (show ¬ cdCut dLen x = 0 by rw [hcd]; decide)).symm) d_L_cut_14)
  · skip
    have hcd : cdCut dLen x = 0 := hC
    have hP : va_P D vwCl (Wo a g sLen sKind sExt sMust rTab rFil rNum rLnk rLen rItm made pItm held dByt (cN x) bByt bRea bRec bItm bFld bOff bOfp kept wrt wid ent false fAdr fTab adr tab lf oV) H := hP
    have hD : va_D A (Wo a g sLen sKind sExt sMust rTab rFil rNum rLnk rLen rItm made pItm held dByt (cN x) bByt bRea bRec bItm bFld bOff bOfp kept wrt wid ent false fAdr fTab adr tab lf oV) := hD
    refine W.eq (g2 := F0 m 7 ls [.int (nI (dLen - cN x)), .int (nI 0), .ref (a 27)]) rfl ?_
    refine lv_i2l hx hb d_L_cut_7 rfl ?_
    refine l_last hx hb hK hP hD hS 27 19 rfl rfl (i := 0) (by omega) (by decide) d_L_cut_8 (fun H locs hP hD hS => ?_)
    have hP : va_P D vwCl (Wo a g sLen sKind sExt sMust rTab rFil rNum rLnk rLen rItm made pItm held dByt (cN x) bByt bRea bRec bItm bFld bOff bOfp kept wrt wid ent false fAdr fTab adr tab lf (vp_updL oV 0 ((nI (dLen - cN x)).toInt64))) H := hP
    have hD : va_D A (Wo a g sLen sKind sExt sMust rTab rFil rNum rLnk rLen rItm made pItm held dByt (cN x) bByt bRea bRec bItm bFld bOff bOfp kept wrt wid ent false fAdr fTab adr tab lf (vp_updL oV 0 ((nI (dLen - cN x)).toInt64))) := hD
    refine lv_goto (tgt := 15) hx hb d_L_cut_9 (by decide) ?_
    refine lv_iconst (v := nI 0) hx hb d_L_cut_15 (by decide) ?_
    refine W.widen (k := 1) (n := 6) (Nat.le_of_ble_eq_true rfl) (Nat.le_of_ble_eq_true rfl) ?_
    exact x_ret (k_iret hx hb hr hlocks hK hP hD hS trivial (nI_congr hcd.symm) ((if_pos hcd).symm) d_L_cut_16)
set_option maxHeartbeats 4000000 in
set_option maxRecDepth 100000 in
theorem w_verify (l : Launch) (hl0 : l.stackTraces = false) (D : va_G) (a : Nat → Nat) (g : Nat → ClassId) (tw : Nat) (sLen sKind : Nat → Nat) (sExt : Nat → Int32) (sMust : Nat → Bool) (rTab : Nat → Nat) (rFil : Nat → Bool) (rNum : Nat → Int64) (rLnk rLen : Nat → Nat) (rItm : Nat → Int32) (made : Nat) (pItm : Nat → Int32) (held : Nat) (dByt : Nat → Nat) (dLen : Nat) (bByt : Nat → Nat) (bRea : Nat → Bool) (bRec bItm bFld bOff bOfp : Nat → Nat) (kept wrt wid ent : Nat) (ver : Bool) (fAdr fTab adr tab : Nat) (lf : Int32) (oV : Nat → Int64) (x : Int32) (hq : SOK (SR.mk sLen sKind sExt sMust rTab rFil rNum rLnk rLen rItm)) (hX : ∀ j, sKind j = 6 → okT (sExt j) = true) (hB : ∀ k, dByt k < 256) (hd : dLen ≤ 240) : kMH l y_L_verify b_L_verify 4 (some .int) [(0, 9, 12, 13)] ({ frames := 35, cells := 1, slots := 6, locals := 750 }) D vwCl (WoT g) tw [.ref (a 0), .int x, .ref (a 27)] (Wo a g sLen sKind sExt sMust rTab rFil rNum rLnk rLen rItm made pItm held dByt dLen bByt bRea bRec bItm bFld bOff bOfp kept wrt wid ent ver fAdr fTab adr tab lf oV) (some (.int (nI (cdVer (SR.mk sLen sKind sExt sMust rTab rFil rNum rLnk rLen rItm) dByt dLen x)))) (if cdVer (SR.mk sLen sKind sExt sMust rTab rFil rNum rLnk rLen rItm) dByt dLen x = 0 then (Wo a g sLen sKind sExt sMust rTab rFil rNum rLnk rLen rItm made pItm held dByt dLen bByt bRea bRec bItm bFld bOff bOfp kept wrt wid ((vIn (SR.mk sLen sKind sExt sMust rTab rFil rNum rLnk rLen rItm) dByt dLen (cN x)).2) true (min (leN dByt dLen (nI 0) 4) 100000) (cN x) (min (leN dByt dLen (nI 0) 4) 100000) (cN x) ((vIn (SR.mk sLen sKind sExt sMust rTab rFil rNum rLnk rLen rItm) dByt dLen (cN x)).1) (vp_updL oV 0 ((nI (vIn (SR.mk sLen sKind sExt sMust rTab rFil rNum rLnk rLen rItm) dByt dLen (cN x)).2).toInt64))) else (Wo a g sLen sKind sExt sMust rTab rFil rNum rLnk rLen rItm made pItm held dByt dLen bByt bRea bRec bItm bFld bOff bOfp kept wrt wid (if okT x = true then (vIn (SR.mk sLen sKind sExt sMust rTab rFil rNum rLnk rLen rItm) dByt dLen (cN x)).2 else ent) (if okT x = true then false else ver) fAdr fTab adr tab (if okT x = true then (vIn (SR.mk sLen sKind sExt sMust rTab rFil rNum rLnk rLen rItm) dByt dLen (cN x)).1 else lf) oV)) := by
  refine k_ofH (by decide) (Nat.le_of_ble_eq_true rfl) ?_
  intro p e s m below meth c A ls hx hb hr hlocks hml hex hts hown hA hP hK hD hS hZ hl
  have hl : lv_has ls 4 [(0, .ref (a 0)), (1, .int x), (2, .ref (a 27))] := hl
  refine lv_aload_n hx hb d_L_verify_0 rfl (lv_at hl 2 rfl) ?_
  refine lv_iconst (v := nI 0) hx hb d_L_verify_1 (by decide) ?_
  refine lv_aload_n hx hb d_L_verify_2 rfl (lv_at hl 0 rfl) ?_
  refine lv_iload_n hx hb d_L_verify_3 rfl (lv_at hl 1 rfl) ?_
  refine k_partVX (w2 := [(a 27, .inl (g 19, 1, .inr (.inl oV)))]) (c_verify l hl0 D a g tw sLen sKind sExt sMust rTab rFil rNum rLnk rLen rItm made pItm held dByt dLen bByt bRea bRec bItm bFld bOff bOfp kept wrt wid ent ver fAdr fTab adr tab lf x hq hX hB hd) m_F_verify wd_71410b8d 0 0 rfl rfl rfl kT hx hb hml hown hts ⟨Nat.le_of_ble_eq_true rfl, Nat.le_of_ble_eq_true rfl⟩ ⟨Nat.le_of_ble_eq_true rfl, Nat.le_of_ble_eq_true rfl⟩ (kK_l hK) (kP_l hP) (kP_r hP) (kSp_of hD) hS hA hZ hl.1 rfl rfl (Nat.le_of_ble_eq_true rfl) d_L_verify_4 (fun E ce q9 H locs hE hP hD hS hq9 hcv hcl => ?_) (fun H locs hC hP hD hS => ?_)
  · skip
    have hP : va_P D vwCl (Wo a g sLen sKind sExt sMust rTab rFil rNum rLnk rLen rItm made pItm held dByt dLen bByt bRea bRec bItm bFld bOff bOfp kept wrt wid (if okT x = true then (vIn (SR.mk sLen sKind sExt sMust rTab rFil rNum rLnk rLen rItm) dByt dLen (cN x)).2 else ent) (if okT x = true then false else ver) fAdr fTab adr tab (if okT x = true then (vIn (SR.mk sLen sKind sExt sMust rTab rFil rNum rLnk rLen rItm) dByt dLen (cN x)).1 else lf) oV) H := hP
    have hD : va_D A (Wo a g sLen sKind sExt sMust rTab rFil rNum rLnk rLen rItm made pItm held dByt dLen bByt bRea bRec bItm bFld bOff bOfp kept wrt wid (if okT x = true then (vIn (SR.mk sLen sKind sExt sMust rTab rFil rNum rLnk rLen rItm) dByt dLen (cN x)).2 else ent) (if okT x = true then false else ver) fAdr fTab adr tab (if okT x = true then (vIn (SR.mk sLen sKind sExt sMust rTab rFil rNum rLnk rLen rItm) dByt dLen (cN x)).1 else lf) oV) := hD
    rcases hE with ⟨rfl, hcd⟩
    · skip
      refine x_catch hown hq9 hcv hcl [] (⟨0, 9, 12, 13⟩ : ExceptionTableEntry) [] hex (by intro q hq; simp at hq) (by decide) (by decide) (hts _ (kT _ wd_f37328b3)) ?_
      refine lv_astore_n (lv' := [(3, .ref q9), (0, .ref (a 0)), (1, .int x), (2, .ref (a 27))]) hx hb d_L_verify_12 rfl hl (by decide) rfl (fun ls hl => ?_)
      refine lv_iconst (v := nI 1) hx hb d_L_verify_13 (by decide) ?_
      refine W.widen (k := 1) (n := 6) (Nat.le_of_ble_eq_true rfl) (Nat.le_of_ble_eq_true rfl) ?_
      exact x_ret (k_iret hx hb hr hlocks hK hP hD hS trivial (nI_congr hcd.symm) ((if_neg (show ¬ cdVer (SR.mk sLen sKind sExt sMust rTab rFil rNum rLnk rLen rItm) dByt dLen x = 0 by rw [hcd]; decide)).symm) d_L_verify_14)
  · skip
    have hcd : cdVer (SR.mk sLen sKind sExt sMust rTab rFil rNum rLnk rLen rItm) dByt dLen x = 0 := hC
    have hP : va_P D vwCl (Wo a g sLen sKind sExt sMust rTab rFil rNum rLnk rLen rItm made pItm held dByt dLen bByt bRea bRec bItm bFld bOff bOfp kept wrt wid ((vIn (SR.mk sLen sKind sExt sMust rTab rFil rNum rLnk rLen rItm) dByt dLen (cN x)).2) true (min (leN dByt dLen (nI 0) 4) 100000) (cN x) (min (leN dByt dLen (nI 0) 4) 100000) (cN x) ((vIn (SR.mk sLen sKind sExt sMust rTab rFil rNum rLnk rLen rItm) dByt dLen (cN x)).1) oV) H := hP
    have hD : va_D A (Wo a g sLen sKind sExt sMust rTab rFil rNum rLnk rLen rItm made pItm held dByt dLen bByt bRea bRec bItm bFld bOff bOfp kept wrt wid ((vIn (SR.mk sLen sKind sExt sMust rTab rFil rNum rLnk rLen rItm) dByt dLen (cN x)).2) true (min (leN dByt dLen (nI 0) 4) 100000) (cN x) (min (leN dByt dLen (nI 0) 4) 100000) (cN x) ((vIn (SR.mk sLen sKind sExt sMust rTab rFil rNum rLnk rLen rItm) dByt dLen (cN x)).1) oV) := hD
    refine W.eq (g2 := F0 m 7 ls [.int (nI (vIn (SR.mk sLen sKind sExt sMust rTab rFil rNum rLnk rLen rItm) dByt dLen (cN x)).2), .int (nI 0), .ref (a 27)]) rfl ?_
    refine lv_i2l hx hb d_L_verify_7 rfl ?_
    refine l_last hx hb hK hP hD hS 27 19 rfl rfl (i := 0) (by omega) (by decide) d_L_verify_8 (fun H locs hP hD hS => ?_)
    have hP : va_P D vwCl (Wo a g sLen sKind sExt sMust rTab rFil rNum rLnk rLen rItm made pItm held dByt dLen bByt bRea bRec bItm bFld bOff bOfp kept wrt wid ((vIn (SR.mk sLen sKind sExt sMust rTab rFil rNum rLnk rLen rItm) dByt dLen (cN x)).2) true (min (leN dByt dLen (nI 0) 4) 100000) (cN x) (min (leN dByt dLen (nI 0) 4) 100000) (cN x) ((vIn (SR.mk sLen sKind sExt sMust rTab rFil rNum rLnk rLen rItm) dByt dLen (cN x)).1) (vp_updL oV 0 ((nI (vIn (SR.mk sLen sKind sExt sMust rTab rFil rNum rLnk rLen rItm) dByt dLen (cN x)).2).toInt64))) H := hP
    have hD : va_D A (Wo a g sLen sKind sExt sMust rTab rFil rNum rLnk rLen rItm made pItm held dByt dLen bByt bRea bRec bItm bFld bOff bOfp kept wrt wid ((vIn (SR.mk sLen sKind sExt sMust rTab rFil rNum rLnk rLen rItm) dByt dLen (cN x)).2) true (min (leN dByt dLen (nI 0) 4) 100000) (cN x) (min (leN dByt dLen (nI 0) 4) 100000) (cN x) ((vIn (SR.mk sLen sKind sExt sMust rTab rFil rNum rLnk rLen rItm) dByt dLen (cN x)).1) (vp_updL oV 0 ((nI (vIn (SR.mk sLen sKind sExt sMust rTab rFil rNum rLnk rLen rItm) dByt dLen (cN x)).2).toInt64))) := hD
    refine lv_goto (tgt := 15) hx hb d_L_verify_9 (by decide) ?_
    refine lv_iconst (v := nI 0) hx hb d_L_verify_15 (by decide) ?_
    refine W.widen (k := 1) (n := 6) (Nat.le_of_ble_eq_true rfl) (Nat.le_of_ble_eq_true rfl) ?_
    exact x_ret (k_iret hx hb hr hlocks hK hP hD hS trivial (nI_congr hcd.symm) ((if_pos hcd).symm) d_L_verify_16)
set_option maxHeartbeats 4000000 in
set_option maxRecDepth 100000 in
theorem w_top (l : Launch) (hl0 : l.stackTraces = false) (D : va_G) (a : Nat → Nat) (g : Nat → ClassId) (tw : Nat) (sLen sKind : Nat → Nat) (sExt : Nat → Int32) (sMust : Nat → Bool) (rTab : Nat → Nat) (rFil : Nat → Bool) (rNum : Nat → Int64) (rLnk rLen : Nat → Nat) (rItm : Nat → Int32) (made : Nat) (pItm : Nat → Int32) (held : Nat) (dByt : Nat → Nat) (dLen : Nat) (bByt : Nat → Nat) (bRea : Nat → Bool) (bRec bItm bFld bOff bOfp : Nat → Nat) (kept wrt wid ent : Nat) (ver : Bool) (fAdr fTab adr tab : Nat) (lf : Int32) (oV : Nat → Int64)   : kMH l y_L_top b_L_top 3 (some .int) [(0, 8, 11, 15)] ({ frames := 7, cells := 1, slots := 6, locals := 109 }) D vwCl (WoT g) tw [.ref (a 0), .ref (a 27)] (Wo a g sLen sKind sExt sMust rTab rFil rNum rLnk rLen rItm made pItm held dByt dLen bByt bRea bRec bItm bFld bOff bOfp kept wrt wid ent ver fAdr fTab adr tab lf oV) (some (.int (nI (cdTop ver)))) (if cdTop ver = 0 then (Wo a g sLen sKind sExt sMust rTab rFil rNum rLnk rLen rItm made pItm held dByt dLen bByt bRea bRec bItm bFld bOff bOfp kept wrt wid ent ver fAdr fTab fAdr fTab lf (vp_updL oV 0 ((nI 1).toInt64))) else (Wo a g sLen sKind sExt sMust rTab rFil rNum rLnk rLen rItm made pItm held dByt dLen bByt bRea bRec bItm bFld bOff bOfp kept wrt wid ent ver fAdr fTab adr tab lf oV)) := by
  refine k_ofH (by decide) (Nat.le_of_ble_eq_true rfl) ?_
  intro p e s m below meth c A ls hx hb hr hlocks hml hex hts hown hA hP hK hD hS hZ hl
  have hl : lv_has ls 3 [(0, .ref (a 0)), (1, .ref (a 27))] := hl
  refine lv_aload_n hx hb d_L_top_0 rfl (lv_at hl 1 rfl) ?_
  refine lv_iconst (v := nI 0) hx hb d_L_top_1 (by decide) ?_
  refine lv_aload_n hx hb d_L_top_2 rfl (lv_at hl 0 rfl) ?_
  refine k_partVX (w2 := [(a 27, .inl (g 19, 1, .inr (.inl oV)))]) (c_top l hl0 D a g tw sLen sKind sExt sMust rTab rFil rNum rLnk rLen rItm made pItm held dByt dLen bByt bRea bRec bItm bFld bOff bOfp kept wrt wid ent ver fAdr fTab adr tab lf  ) m_F_top wd_696c8c34 0 0 rfl rfl rfl kT hx hb hml hown hts ⟨Nat.le_of_ble_eq_true rfl, Nat.le_of_ble_eq_true rfl⟩ ⟨Nat.le_of_ble_eq_true rfl, Nat.le_of_ble_eq_true rfl⟩ (kK_l hK) (kP_l hP) (kP_r hP) (kSp_of hD) hS hA hZ hl.1 rfl rfl (Nat.le_of_ble_eq_true rfl) d_L_top_3 (fun E ce q9 H locs hE hP hD hS hq9 hcv hcl => ?_) (fun H locs hC hP hD hS => ?_)
  · skip
    have hP : va_P D vwCl (Wo a g sLen sKind sExt sMust rTab rFil rNum rLnk rLen rItm made pItm held dByt dLen bByt bRea bRec bItm bFld bOff bOfp kept wrt wid ent ver fAdr fTab adr tab lf oV) H := hP
    have hD : va_D A (Wo a g sLen sKind sExt sMust rTab rFil rNum rLnk rLen rItm made pItm held dByt dLen bByt bRea bRec bItm bFld bOff bOfp kept wrt wid ent ver fAdr fTab adr tab lf oV) := hD
    rcases hE with ⟨rfl, hcd⟩
    · skip
      refine x_catch hown hq9 hcv hcl [] (⟨0, 8, 11, 15⟩ : ExceptionTableEntry) [] hex (by intro q hq; simp at hq) (by decide) (by decide) (hts _ (kT _ wd_8d568b9d)) ?_
      refine lv_astore_n (lv' := [(2, .ref q9), (0, .ref (a 0)), (1, .ref (a 27))]) hx hb d_L_top_11 rfl hl (by decide) rfl (fun ls hl => ?_)
      refine lv_iconst (v := nI 1) hx hb d_L_top_12 (by decide) ?_
      refine W.widen (k := 1) (n := 6) (Nat.le_of_ble_eq_true rfl) (Nat.le_of_ble_eq_true rfl) ?_
      exact x_ret (k_iret hx hb hr hlocks hK hP hD hS trivial (nI_congr hcd.symm) ((if_neg (show ¬ cdTop ver = 0 by rw [hcd]; decide)).symm) d_L_top_13)
  · skip
    have hcd : cdTop ver = 0 := hC
    have hP : va_P D vwCl (Wo a g sLen sKind sExt sMust rTab rFil rNum rLnk rLen rItm made pItm held dByt dLen bByt bRea bRec bItm bFld bOff bOfp kept wrt wid ent ver fAdr fTab fAdr fTab lf oV) H := hP
    have hD : va_D A (Wo a g sLen sKind sExt sMust rTab rFil rNum rLnk rLen rItm made pItm held dByt dLen bByt bRea bRec bItm bFld bOff bOfp kept wrt wid ent ver fAdr fTab fAdr fTab lf oV) := hD
    refine W.eq (g2 := F0 m 6 ls [.int (nI 1), .int (nI 0), .ref (a 27)]) rfl ?_
    refine lv_i2l hx hb d_L_top_6 rfl ?_
    refine l_last hx hb hK hP hD hS 27 19 rfl rfl (i := 0) (by omega) (by decide) d_L_top_7 (fun H locs hP hD hS => ?_)
    have hP : va_P D vwCl (Wo a g sLen sKind sExt sMust rTab rFil rNum rLnk rLen rItm made pItm held dByt dLen bByt bRea bRec bItm bFld bOff bOfp kept wrt wid ent ver fAdr fTab fAdr fTab lf (vp_updL oV 0 ((nI 1).toInt64))) H := hP
    have hD : va_D A (Wo a g sLen sKind sExt sMust rTab rFil rNum rLnk rLen rItm made pItm held dByt dLen bByt bRea bRec bItm bFld bOff bOfp kept wrt wid ent ver fAdr fTab fAdr fTab lf (vp_updL oV 0 ((nI 1).toInt64))) := hD
    refine lv_goto (tgt := 14) hx hb d_L_top_8 (by decide) ?_
    refine lv_iconst (v := nI 0) hx hb d_L_top_14 (by decide) ?_
    refine W.widen (k := 1) (n := 6) (Nat.le_of_ble_eq_true rfl) (Nat.le_of_ble_eq_true rfl) ?_
    exact x_ret (k_iret hx hb hr hlocks hK hP hD hS trivial (nI_congr hcd.symm) ((if_pos hcd).symm) d_L_top_15)
set_option maxHeartbeats 4000000 in
set_option maxRecDepth 100000 in
theorem w_down (l : Launch) (hl0 : l.stackTraces = false) (D : va_G) (a : Nat → Nat) (g : Nat → ClassId) (tw : Nat) (sLen sKind : Nat → Nat) (sExt : Nat → Int32) (sMust : Nat → Bool) (rTab : Nat → Nat) (rFil : Nat → Bool) (rNum : Nat → Int64) (rLnk rLen : Nat → Nat) (rItm : Nat → Int32) (made : Nat) (pItm : Nat → Int32) (held : Nat) (dByt : Nat → Nat) (dLen : Nat) (bByt : Nat → Nat) (bRea : Nat → Bool) (bRec bItm bFld bOff bOfp : Nat → Nat) (kept wrt wid ent : Nat) (ver : Bool) (fAdr fTab adr tab : Nat) (lf : Int32) (oV : Nat → Int64) (x : Int32) (ht : tab < 4) (hL : sLen tab ≤ 6) (hk : ∀ j, sKind j < 7) (hX : ∀ j, sKind j = 6 → okT (sExt j) = true) (hB : ∀ k, dByt k < 256) (hd : dLen ≤ 240) (hadr : adr < 2 ^ 29) : kMH l y_L_down b_L_down 4 (some .int) [(0, 9, 12, 15), (0, 9, 15, 25), (0, 9, 18, 27)] ({ frames := 8, cells := 2, slots := 12, locals := 132 }) D vwCl (WoT g) tw [.ref (a 0), .int x, .ref (a 27)] (Wo a g sLen sKind sExt sMust rTab rFil rNum rLnk rLen rItm made pItm held dByt dLen bByt bRea bRec bItm bFld bOff bOfp kept wrt wid ent ver fAdr fTab adr tab lf oV) (some (.int (nI (cdKd (cdCur ver sLen tab x) (sKind (tab * 6 + cN x)) 6 6)))) (if cdKd (cdCur ver sLen tab x) (sKind (tab * 6 + cN x)) 6 6 = 0 then (Wo a g sLen sKind sExt sMust rTab rFil rNum rLnk rLen rItm made pItm held dByt dLen bByt bRea bRec bItm bFld bOff bOfp kept wrt wid ent ver fAdr fTab (if ofF dByt dLen adr (cN x) = 0 then adr else tgF dByt dLen (adr + ofF dByt dLen adr (cN x))) (if ofF dByt dLen adr (cN x) = 0 then tab else cN (sExt (tab * 6 + cN x))) lf (vp_updL oV 0 ((nI (if ofF dByt dLen adr (cN x) = 0 then 0 else 1)).toInt64))) else (Wo a g sLen sKind sExt sMust rTab rFil rNum rLnk rLen rItm made pItm held dByt dLen bByt bRea bRec bItm bFld bOff bOfp kept wrt wid ent ver fAdr fTab adr tab lf oV)) := by
  refine k_ofH (by decide) (Nat.le_of_ble_eq_true rfl) ?_
  intro p e s m below meth c A ls hx hb hr hlocks hml hex hts hown hA hP hK hD hS hZ hl
  have hl : lv_has ls 4 [(0, .ref (a 0)), (1, .int x), (2, .ref (a 27))] := hl
  refine lv_aload_n hx hb d_L_down_0 rfl (lv_at hl 2 rfl) ?_
  refine lv_iconst (v := nI 0) hx hb d_L_down_1 (by decide) ?_
  refine lv_aload_n hx hb d_L_down_2 rfl (lv_at hl 0 rfl) ?_
  refine lv_iload_n hx hb d_L_down_3 rfl (lv_at hl 1 rfl) ?_
  refine k_partVX (w2 := [(a 27, .inl (g 19, 1, .inr (.inl oV)))]) (c_down l hl0 D a g tw sLen sKind sExt sMust rTab rFil rNum rLnk rLen rItm made pItm held dByt dLen bByt bRea bRec bItm bFld bOff bOfp kept wrt wid ent ver fAdr fTab adr tab lf x ht hL hk hX hB hd hadr) m_F_down wd_2e891f6c 0 0 rfl rfl rfl kT hx hb hml hown hts ⟨Nat.le_of_ble_eq_true rfl, Nat.le_of_ble_eq_true rfl⟩ ⟨Nat.le_of_ble_eq_true rfl, Nat.le_of_ble_eq_true rfl⟩ (kK_l hK) (kP_l hP) (kP_r hP) (kSp_of hD) hS hA hZ hl.1 rfl rfl (Nat.le_of_ble_eq_true rfl) d_L_down_4 (fun E ce q9 H locs hE hP hD hS hq9 hcv hcl => ?_) (fun H locs hC hP hD hS => ?_)
  · skip
    have hP : va_P D vwCl (Wo a g sLen sKind sExt sMust rTab rFil rNum rLnk rLen rItm made pItm held dByt dLen bByt bRea bRec bItm bFld bOff bOfp kept wrt wid ent ver fAdr fTab adr tab lf oV) H := hP
    have hD : va_D A (Wo a g sLen sKind sExt sMust rTab rFil rNum rLnk rLen rItm made pItm held dByt dLen bByt bRea bRec bItm bFld bOff bOfp kept wrt wid ent ver fAdr fTab adr tab lf oV) := hD
    rcases hE with ⟨rfl, hcd⟩ | ⟨rfl, hcd⟩ | ⟨rfl, hcd⟩
    · skip
      refine x_catch hown hq9 hcv hcl [] (⟨0, 9, 12, 15⟩ : ExceptionTableEntry) [(⟨0, 9, 15, 25⟩ : ExceptionTableEntry), (⟨0, 9, 18, 27⟩ : ExceptionTableEntry)] hex (by intro q hq; simp at hq) (by decide) (by decide) (hts _ (kT _ wd_8d568b9d)) ?_
      refine lv_astore_n (lv' := [(3, .ref q9), (0, .ref (a 0)), (1, .int x), (2, .ref (a 27))]) hx hb d_L_down_12 rfl hl (by decide) rfl (fun ls hl => ?_)
      refine lv_iconst (v := nI 1) hx hb d_L_down_13 (by decide) ?_
      refine W.widen (k := 2) (n := 12) (Nat.le_of_ble_eq_true rfl) (Nat.le_of_ble_eq_true rfl) ?_
      exact x_ret (k_iret hx hb hr hlocks hK hP hD hS trivial (nI_congr hcd.symm) ((if_neg (show ¬ cdKd (cdCur ver sLen tab x) (sKind (tab * 6 + cN x)) 6 6 = 0 by rw [hcd]; decide)).symm) d_L_down_14)
    · skip
      refine x_catch hown hq9 hcv hcl [((⟨0, 9, 12, 15⟩ : ExceptionTableEntry), xIS)] (⟨0, 9, 15, 25⟩ : ExceptionTableEntry) [(⟨0, 9, 18, 27⟩ : ExceptionTableEntry)] hex (fun q hq => by simp only [List.mem_cons, List.not_mem_nil, or_false] at hq; rcases hq with rfl <;> first | exact ⟨by decide, by decide, (hts _ (kT _ wd_8d568b9d)), hZ.2.2.2.1 (xNS, xIS) (by decide)⟩) (by decide) (by decide) (hts _ (kT _ wd_344b8025)) ?_
      refine lv_astore_n (lv' := [(3, .ref q9), (0, .ref (a 0)), (1, .int x), (2, .ref (a 27))]) hx hb d_L_down_15 rfl hl (by decide) rfl (fun ls hl => ?_)
      refine lv_iconst (v := nI 2) hx hb d_L_down_16 (by decide) ?_
      refine W.widen (k := 2) (n := 12) (Nat.le_of_ble_eq_true rfl) (Nat.le_of_ble_eq_true rfl) ?_
      exact x_ret (k_iret hx hb hr hlocks hK hP hD hS trivial (nI_congr hcd.symm) ((if_neg (show ¬ cdKd (cdCur ver sLen tab x) (sKind (tab * 6 + cN x)) 6 6 = 0 by rw [hcd]; decide)).symm) d_L_down_17)
    · skip
      refine x_catch hown hq9 hcv hcl [((⟨0, 9, 12, 15⟩ : ExceptionTableEntry), xIS), ((⟨0, 9, 15, 25⟩ : ExceptionTableEntry), xNS)] (⟨0, 9, 18, 27⟩ : ExceptionTableEntry) [] hex (fun q hq => by simp only [List.mem_cons, List.not_mem_nil, or_false] at hq; rcases hq with rfl | rfl <;> first | exact ⟨by decide, by decide, (hts _ (kT _ wd_8d568b9d)), hZ.2.2.2.1 (xUO, xIS) (by decide)⟩ | exact ⟨by decide, by decide, (hts _ (kT _ wd_344b8025)), hZ.2.2.2.1 (xUO, xNS) (by decide)⟩) (by decide) (by decide) (hts _ (kT _ wd_f6aaf630)) ?_
      refine lv_astore_n (lv' := [(3, .ref q9), (0, .ref (a 0)), (1, .int x), (2, .ref (a 27))]) hx hb d_L_down_18 rfl hl (by decide) rfl (fun ls hl => ?_)
      refine lv_iconst (v := nI 3) hx hb d_L_down_19 (by decide) ?_
      refine W.widen (k := 2) (n := 12) (Nat.le_of_ble_eq_true rfl) (Nat.le_of_ble_eq_true rfl) ?_
      exact x_ret (k_iret hx hb hr hlocks hK hP hD hS trivial (nI_congr hcd.symm) ((if_neg (show ¬ cdKd (cdCur ver sLen tab x) (sKind (tab * 6 + cN x)) 6 6 = 0 by rw [hcd]; decide)).symm) d_L_down_20)
  · skip
    have hcd : cdKd (cdCur ver sLen tab x) (sKind (tab * 6 + cN x)) 6 6 = 0 := hC
    have hP : va_P D vwCl (Wo a g sLen sKind sExt sMust rTab rFil rNum rLnk rLen rItm made pItm held dByt dLen bByt bRea bRec bItm bFld bOff bOfp kept wrt wid ent ver fAdr fTab (if ofF dByt dLen adr (cN x) = 0 then adr else tgF dByt dLen (adr + ofF dByt dLen adr (cN x))) (if ofF dByt dLen adr (cN x) = 0 then tab else cN (sExt (tab * 6 + cN x))) lf oV) H := hP
    have hD : va_D A (Wo a g sLen sKind sExt sMust rTab rFil rNum rLnk rLen rItm made pItm held dByt dLen bByt bRea bRec bItm bFld bOff bOfp kept wrt wid ent ver fAdr fTab (if ofF dByt dLen adr (cN x) = 0 then adr else tgF dByt dLen (adr + ofF dByt dLen adr (cN x))) (if ofF dByt dLen adr (cN x) = 0 then tab else cN (sExt (tab * 6 + cN x))) lf oV) := hD
    refine W.eq (g2 := F0 m 7 ls [.int (nI (if ofF dByt dLen adr (cN x) = 0 then 0 else 1)), .int (nI 0), .ref (a 27)]) rfl ?_
    refine lv_i2l hx hb d_L_down_7 rfl ?_
    refine l_last hx hb hK hP hD hS 27 19 rfl rfl (i := 0) (by omega) (by decide) d_L_down_8 (fun H locs hP hD hS => ?_)
    have hP : va_P D vwCl (Wo a g sLen sKind sExt sMust rTab rFil rNum rLnk rLen rItm made pItm held dByt dLen bByt bRea bRec bItm bFld bOff bOfp kept wrt wid ent ver fAdr fTab (if ofF dByt dLen adr (cN x) = 0 then adr else tgF dByt dLen (adr + ofF dByt dLen adr (cN x))) (if ofF dByt dLen adr (cN x) = 0 then tab else cN (sExt (tab * 6 + cN x))) lf (vp_updL oV 0 ((nI (if ofF dByt dLen adr (cN x) = 0 then 0 else 1)).toInt64))) H := hP
    have hD : va_D A (Wo a g sLen sKind sExt sMust rTab rFil rNum rLnk rLen rItm made pItm held dByt dLen bByt bRea bRec bItm bFld bOff bOfp kept wrt wid ent ver fAdr fTab (if ofF dByt dLen adr (cN x) = 0 then adr else tgF dByt dLen (adr + ofF dByt dLen adr (cN x))) (if ofF dByt dLen adr (cN x) = 0 then tab else cN (sExt (tab * 6 + cN x))) lf (vp_updL oV 0 ((nI (if ofF dByt dLen adr (cN x) = 0 then 0 else 1)).toInt64))) := hD
    refine lv_goto (tgt := 21) hx hb d_L_down_9 (by decide) ?_
    refine lv_iconst (v := nI 0) hx hb d_L_down_21 (by decide) ?_
    refine W.widen (k := 2) (n := 12) (Nat.le_of_ble_eq_true rfl) (Nat.le_of_ble_eq_true rfl) ?_
    exact x_ret (k_iret hx hb hr hlocks hK hP hD hS trivial (nI_congr hcd.symm) ((if_pos hcd).symm) d_L_down_22)
set_option maxHeartbeats 4000000 in
set_option maxRecDepth 100000 in
theorem w_value (l : Launch) (hl0 : l.stackTraces = false) (D : va_G) (a : Nat → Nat) (g : Nat → ClassId) (tw : Nat) (sLen sKind : Nat → Nat) (sExt : Nat → Int32) (sMust : Nat → Bool) (rTab : Nat → Nat) (rFil : Nat → Bool) (rNum : Nat → Int64) (rLnk rLen : Nat → Nat) (rItm : Nat → Int32) (made : Nat) (pItm : Nat → Int32) (held : Nat) (dByt : Nat → Nat) (dLen : Nat) (bByt : Nat → Nat) (bRea : Nat → Bool) (bRec bItm bFld bOff bOfp : Nat → Nat) (kept wrt wid ent : Nat) (ver : Bool) (fAdr fTab adr tab : Nat) (lf : Int32) (oV : Nat → Int64) (x : Int32) (ht : tab < 4) (hL : sLen tab ≤ 6) (hk : ∀ j, sKind j < 7) (hB : ∀ k, dByt k < 256) (hd : dLen ≤ 240) (hadr : adr < 2 ^ 29) : kMH l y_L_value b_L_value 4 (some .int) [(0, 8, 11, 15), (0, 8, 14, 25), (0, 8, 17, 27)] ({ frames := 8, cells := 2, slots := 12, locals := 133 }) D vwCl (WoT g) tw [.ref (a 0), .int x, .ref (a 27)] (Wo a g sLen sKind sExt sMust rTab rFil rNum rLnk rLen rItm made pItm held dByt dLen bByt bRea bRec bItm bFld bOff bOfp kept wrt wid ent ver fAdr fTab adr tab lf oV) (some (.int (nI (cdKd (cdCur ver sLen tab x) (sKind (tab * 6 + cN x)) 0 3)))) (if cdKd (cdCur ver sLen tab x) (sKind (tab * 6 + cN x)) 0 3 = 0 then (Wo a g sLen sKind sExt sMust rTab rFil rNum rLnk rLen rItm made pItm held dByt dLen bByt bRea bRec bItm bFld bOff bOfp kept wrt wid ent ver fAdr fTab adr tab lf (vp_updL oV 0 (if ofF dByt dLen adr (cN x) = 0 then (sExt (tab * 6 + cN x)).toInt64 else sxL (kWd (sKind (tab * 6 + cN x))) (leN dByt dLen (nI (adr + ofF dByt dLen adr (cN x))) (kWd (sKind (tab * 6 + cN x))))))) else (Wo a g sLen sKind sExt sMust rTab rFil rNum rLnk rLen rItm made pItm held dByt dLen bByt bRea bRec bItm bFld bOff bOfp kept wrt wid ent ver fAdr fTab adr tab lf oV)) := by
  refine k_ofH (by decide) (Nat.le_of_ble_eq_true rfl) ?_
  intro p e s m below meth c A ls hx hb hr hlocks hml hex hts hown hA hP hK hD hS hZ hl
  have hl : lv_has ls 4 [(0, .ref (a 0)), (1, .int x), (2, .ref (a 27))] := hl
  refine lv_aload_n hx hb d_L_value_0 rfl (lv_at hl 2 rfl) ?_
  refine lv_iconst (v := nI 0) hx hb d_L_value_1 (by decide) ?_
  refine lv_aload_n hx hb d_L_value_2 rfl (lv_at hl 0 rfl) ?_
  refine lv_iload_n hx hb d_L_value_3 rfl (lv_at hl 1 rfl) ?_
  refine k_partVX (w2 := [(a 27, .inl (g 19, 1, .inr (.inl oV)))]) (c_value l hl0 D a g tw sLen sKind sExt sMust rTab rFil rNum rLnk rLen rItm made pItm held dByt dLen bByt bRea bRec bItm bFld bOff bOfp kept wrt wid ent ver fAdr fTab adr tab lf x ht hL hk hB hd hadr) m_F_value wd_604a1197 0 0 rfl rfl rfl kT hx hb hml hown hts ⟨Nat.le_of_ble_eq_true rfl, Nat.le_of_ble_eq_true rfl⟩ ⟨Nat.le_of_ble_eq_true rfl, Nat.le_of_ble_eq_true rfl⟩ (kK_l hK) (kP_l hP) (kP_r hP) (kSp_of hD) hS hA hZ hl.1 rfl rfl (Nat.le_of_ble_eq_true rfl) d_L_value_4 (fun E ce q9 H locs hE hP hD hS hq9 hcv hcl => ?_) (fun H locs hC hP hD hS => ?_)
  · skip
    have hP : va_P D vwCl (Wo a g sLen sKind sExt sMust rTab rFil rNum rLnk rLen rItm made pItm held dByt dLen bByt bRea bRec bItm bFld bOff bOfp kept wrt wid ent ver fAdr fTab adr tab lf oV) H := hP
    have hD : va_D A (Wo a g sLen sKind sExt sMust rTab rFil rNum rLnk rLen rItm made pItm held dByt dLen bByt bRea bRec bItm bFld bOff bOfp kept wrt wid ent ver fAdr fTab adr tab lf oV) := hD
    rcases hE with ⟨rfl, hcd⟩ | ⟨rfl, hcd⟩ | ⟨rfl, hcd⟩
    · skip
      refine x_catch hown hq9 hcv hcl [] (⟨0, 8, 11, 15⟩ : ExceptionTableEntry) [(⟨0, 8, 14, 25⟩ : ExceptionTableEntry), (⟨0, 8, 17, 27⟩ : ExceptionTableEntry)] hex (by intro q hq; simp at hq) (by decide) (by decide) (hts _ (kT _ wd_8d568b9d)) ?_
      refine lv_astore_n (lv' := [(3, .ref q9), (0, .ref (a 0)), (1, .int x), (2, .ref (a 27))]) hx hb d_L_value_11 rfl hl (by decide) rfl (fun ls hl => ?_)
      refine lv_iconst (v := nI 1) hx hb d_L_value_12 (by decide) ?_
      refine W.widen (k := 2) (n := 12) (Nat.le_of_ble_eq_true rfl) (Nat.le_of_ble_eq_true rfl) ?_
      exact x_ret (k_iret hx hb hr hlocks hK hP hD hS trivial (nI_congr hcd.symm) ((if_neg (show ¬ cdKd (cdCur ver sLen tab x) (sKind (tab * 6 + cN x)) 0 3 = 0 by rw [hcd]; decide)).symm) d_L_value_13)
    · skip
      refine x_catch hown hq9 hcv hcl [((⟨0, 8, 11, 15⟩ : ExceptionTableEntry), xIS)] (⟨0, 8, 14, 25⟩ : ExceptionTableEntry) [(⟨0, 8, 17, 27⟩ : ExceptionTableEntry)] hex (fun q hq => by simp only [List.mem_cons, List.not_mem_nil, or_false] at hq; rcases hq with rfl <;> first | exact ⟨by decide, by decide, (hts _ (kT _ wd_8d568b9d)), hZ.2.2.2.1 (xNS, xIS) (by decide)⟩) (by decide) (by decide) (hts _ (kT _ wd_344b8025)) ?_
      refine lv_astore_n (lv' := [(3, .ref q9), (0, .ref (a 0)), (1, .int x), (2, .ref (a 27))]) hx hb d_L_value_14 rfl hl (by decide) rfl (fun ls hl => ?_)
      refine lv_iconst (v := nI 2) hx hb d_L_value_15 (by decide) ?_
      refine W.widen (k := 2) (n := 12) (Nat.le_of_ble_eq_true rfl) (Nat.le_of_ble_eq_true rfl) ?_
      exact x_ret (k_iret hx hb hr hlocks hK hP hD hS trivial (nI_congr hcd.symm) ((if_neg (show ¬ cdKd (cdCur ver sLen tab x) (sKind (tab * 6 + cN x)) 0 3 = 0 by rw [hcd]; decide)).symm) d_L_value_16)
    · skip
      refine x_catch hown hq9 hcv hcl [((⟨0, 8, 11, 15⟩ : ExceptionTableEntry), xIS), ((⟨0, 8, 14, 25⟩ : ExceptionTableEntry), xNS)] (⟨0, 8, 17, 27⟩ : ExceptionTableEntry) [] hex (fun q hq => by simp only [List.mem_cons, List.not_mem_nil, or_false] at hq; rcases hq with rfl | rfl <;> first | exact ⟨by decide, by decide, (hts _ (kT _ wd_8d568b9d)), hZ.2.2.2.1 (xUO, xIS) (by decide)⟩ | exact ⟨by decide, by decide, (hts _ (kT _ wd_344b8025)), hZ.2.2.2.1 (xUO, xNS) (by decide)⟩) (by decide) (by decide) (hts _ (kT _ wd_f6aaf630)) ?_
      refine lv_astore_n (lv' := [(3, .ref q9), (0, .ref (a 0)), (1, .int x), (2, .ref (a 27))]) hx hb d_L_value_17 rfl hl (by decide) rfl (fun ls hl => ?_)
      refine lv_iconst (v := nI 3) hx hb d_L_value_18 (by decide) ?_
      refine W.widen (k := 2) (n := 12) (Nat.le_of_ble_eq_true rfl) (Nat.le_of_ble_eq_true rfl) ?_
      exact x_ret (k_iret hx hb hr hlocks hK hP hD hS trivial (nI_congr hcd.symm) ((if_neg (show ¬ cdKd (cdCur ver sLen tab x) (sKind (tab * 6 + cN x)) 0 3 = 0 by rw [hcd]; decide)).symm) d_L_value_19)
  · skip
    have hcd : cdKd (cdCur ver sLen tab x) (sKind (tab * 6 + cN x)) 0 3 = 0 := hC
    have hP : va_P D vwCl (Wo a g sLen sKind sExt sMust rTab rFil rNum rLnk rLen rItm made pItm held dByt dLen bByt bRea bRec bItm bFld bOff bOfp kept wrt wid ent ver fAdr fTab adr tab lf oV) H := hP
    have hD : va_D A (Wo a g sLen sKind sExt sMust rTab rFil rNum rLnk rLen rItm made pItm held dByt dLen bByt bRea bRec bItm bFld bOff bOfp kept wrt wid ent ver fAdr fTab adr tab lf oV) := hD
    refine W.eq (g2 := F0 m 7 ls [.long (if ofF dByt dLen adr (cN x) = 0 then (sExt (tab * 6 + cN x)).toInt64 else sxL (kWd (sKind (tab * 6 + cN x))) (leN dByt dLen (nI (adr + ofF dByt dLen adr (cN x))) (kWd (sKind (tab * 6 + cN x))))), .int (nI 0), .ref (a 27)]) rfl ?_
    refine l_last hx hb hK hP hD hS 27 19 rfl rfl (i := 0) (by omega) (by decide) d_L_value_7 (fun H locs hP hD hS => ?_)
    have hP : va_P D vwCl (Wo a g sLen sKind sExt sMust rTab rFil rNum rLnk rLen rItm made pItm held dByt dLen bByt bRea bRec bItm bFld bOff bOfp kept wrt wid ent ver fAdr fTab adr tab lf (vp_updL oV 0 (if ofF dByt dLen adr (cN x) = 0 then (sExt (tab * 6 + cN x)).toInt64 else sxL (kWd (sKind (tab * 6 + cN x))) (leN dByt dLen (nI (adr + ofF dByt dLen adr (cN x))) (kWd (sKind (tab * 6 + cN x))))))) H := hP
    have hD : va_D A (Wo a g sLen sKind sExt sMust rTab rFil rNum rLnk rLen rItm made pItm held dByt dLen bByt bRea bRec bItm bFld bOff bOfp kept wrt wid ent ver fAdr fTab adr tab lf (vp_updL oV 0 (if ofF dByt dLen adr (cN x) = 0 then (sExt (tab * 6 + cN x)).toInt64 else sxL (kWd (sKind (tab * 6 + cN x))) (leN dByt dLen (nI (adr + ofF dByt dLen adr (cN x))) (kWd (sKind (tab * 6 + cN x))))))) := hD
    refine lv_goto (tgt := 20) hx hb d_L_value_8 (by decide) ?_
    refine lv_iconst (v := nI 0) hx hb d_L_value_20 (by decide) ?_
    refine W.widen (k := 2) (n := 12) (Nat.le_of_ble_eq_true rfl) (Nat.le_of_ble_eq_true rfl) ?_
    exact x_ret (k_iret hx hb hr hlocks hK hP hD hS trivial (nI_congr hcd.symm) ((if_pos hcd).symm) d_L_value_21)
set_option maxHeartbeats 4000000 in
set_option maxRecDepth 100000 in
theorem w_size (l : Launch) (hl0 : l.stackTraces = false) (D : va_G) (a : Nat → Nat) (g : Nat → ClassId) (tw : Nat) (sLen sKind : Nat → Nat) (sExt : Nat → Int32) (sMust : Nat → Bool) (rTab : Nat → Nat) (rFil : Nat → Bool) (rNum : Nat → Int64) (rLnk rLen : Nat → Nat) (rItm : Nat → Int32) (made : Nat) (pItm : Nat → Int32) (held : Nat) (dByt : Nat → Nat) (dLen : Nat) (bByt : Nat → Nat) (bRea : Nat → Bool) (bRec bItm bFld bOff bOfp : Nat → Nat) (kept wrt wid ent : Nat) (ver : Bool) (fAdr fTab adr tab : Nat) (lf : Int32) (oV : Nat → Int64) (x : Int32) (ht : tab < 4) (hL : sLen tab ≤ 6) (hk : ∀ j, sKind j < 7) (hB : ∀ k, dByt k < 256) (hd : dLen ≤ 240) (hadr : adr < 2 ^ 29) : kMH l y_L_size b_L_size 4 (some .int) [(0, 9, 12, 15), (0, 9, 15, 25), (0, 9, 18, 27)] ({ frames := 9, cells := 2, slots := 12, locals := 154 }) D vwCl (WoT g) tw [.ref (a 0), .int x, .ref (a 27)] (Wo a g sLen sKind sExt sMust rTab rFil rNum rLnk rLen rItm made pItm held dByt dLen bByt bRea bRec bItm bFld bOff bOfp kept wrt wid ent ver fAdr fTab adr tab lf oV) (some (.int (nI (cdKd (cdCur ver sLen tab x) (sKind (tab * 6 + cN x)) 4 5)))) (if cdKd (cdCur ver sLen tab x) (sKind (tab * 6 + cN x)) 4 5 = 0 then (Wo a g sLen sKind sExt sMust rTab rFil rNum rLnk rLen rItm made pItm held dByt dLen bByt bRea bRec bItm bFld bOff bOfp kept wrt wid ent ver fAdr fTab adr tab lf (vp_updL oV 0 ((itF dByt dLen adr (cN x)).toInt64))) else (Wo a g sLen sKind sExt sMust rTab rFil rNum rLnk rLen rItm made pItm held dByt dLen bByt bRea bRec bItm bFld bOff bOfp kept wrt wid ent ver fAdr fTab adr tab lf oV)) := by
  refine k_ofH (by decide) (Nat.le_of_ble_eq_true rfl) ?_
  intro p e s m below meth c A ls hx hb hr hlocks hml hex hts hown hA hP hK hD hS hZ hl
  have hl : lv_has ls 4 [(0, .ref (a 0)), (1, .int x), (2, .ref (a 27))] := hl
  refine lv_aload_n hx hb d_L_size_0 rfl (lv_at hl 2 rfl) ?_
  refine lv_iconst (v := nI 0) hx hb d_L_size_1 (by decide) ?_
  refine lv_aload_n hx hb d_L_size_2 rfl (lv_at hl 0 rfl) ?_
  refine lv_iload_n hx hb d_L_size_3 rfl (lv_at hl 1 rfl) ?_
  refine k_partVX (w2 := [(a 27, .inl (g 19, 1, .inr (.inl oV)))]) (c_size l hl0 D a g tw sLen sKind sExt sMust rTab rFil rNum rLnk rLen rItm made pItm held dByt dLen bByt bRea bRec bItm bFld bOff bOfp kept wrt wid ent ver fAdr fTab adr tab lf x ht hL hk hB hd hadr) m_F_size wd_402efd02 0 0 rfl rfl rfl kT hx hb hml hown hts ⟨Nat.le_of_ble_eq_true rfl, Nat.le_of_ble_eq_true rfl⟩ ⟨Nat.le_of_ble_eq_true rfl, Nat.le_of_ble_eq_true rfl⟩ (kK_l hK) (kP_l hP) (kP_r hP) (kSp_of hD) hS hA hZ hl.1 rfl rfl (Nat.le_of_ble_eq_true rfl) d_L_size_4 (fun E ce q9 H locs hE hP hD hS hq9 hcv hcl => ?_) (fun H locs hC hP hD hS => ?_)
  · skip
    have hP : va_P D vwCl (Wo a g sLen sKind sExt sMust rTab rFil rNum rLnk rLen rItm made pItm held dByt dLen bByt bRea bRec bItm bFld bOff bOfp kept wrt wid ent ver fAdr fTab adr tab lf oV) H := hP
    have hD : va_D A (Wo a g sLen sKind sExt sMust rTab rFil rNum rLnk rLen rItm made pItm held dByt dLen bByt bRea bRec bItm bFld bOff bOfp kept wrt wid ent ver fAdr fTab adr tab lf oV) := hD
    rcases hE with ⟨rfl, hcd⟩ | ⟨rfl, hcd⟩ | ⟨rfl, hcd⟩
    · skip
      refine x_catch hown hq9 hcv hcl [] (⟨0, 9, 12, 15⟩ : ExceptionTableEntry) [(⟨0, 9, 15, 25⟩ : ExceptionTableEntry), (⟨0, 9, 18, 27⟩ : ExceptionTableEntry)] hex (by intro q hq; simp at hq) (by decide) (by decide) (hts _ (kT _ wd_8d568b9d)) ?_
      refine lv_astore_n (lv' := [(3, .ref q9), (0, .ref (a 0)), (1, .int x), (2, .ref (a 27))]) hx hb d_L_size_12 rfl hl (by decide) rfl (fun ls hl => ?_)
      refine lv_iconst (v := nI 1) hx hb d_L_size_13 (by decide) ?_
      refine W.widen (k := 2) (n := 12) (Nat.le_of_ble_eq_true rfl) (Nat.le_of_ble_eq_true rfl) ?_
      exact x_ret (k_iret hx hb hr hlocks hK hP hD hS trivial (nI_congr hcd.symm) ((if_neg (show ¬ cdKd (cdCur ver sLen tab x) (sKind (tab * 6 + cN x)) 4 5 = 0 by rw [hcd]; decide)).symm) d_L_size_14)
    · skip
      refine x_catch hown hq9 hcv hcl [((⟨0, 9, 12, 15⟩ : ExceptionTableEntry), xIS)] (⟨0, 9, 15, 25⟩ : ExceptionTableEntry) [(⟨0, 9, 18, 27⟩ : ExceptionTableEntry)] hex (fun q hq => by simp only [List.mem_cons, List.not_mem_nil, or_false] at hq; rcases hq with rfl <;> first | exact ⟨by decide, by decide, (hts _ (kT _ wd_8d568b9d)), hZ.2.2.2.1 (xNS, xIS) (by decide)⟩) (by decide) (by decide) (hts _ (kT _ wd_344b8025)) ?_
      refine lv_astore_n (lv' := [(3, .ref q9), (0, .ref (a 0)), (1, .int x), (2, .ref (a 27))]) hx hb d_L_size_15 rfl hl (by decide) rfl (fun ls hl => ?_)
      refine lv_iconst (v := nI 2) hx hb d_L_size_16 (by decide) ?_
      refine W.widen (k := 2) (n := 12) (Nat.le_of_ble_eq_true rfl) (Nat.le_of_ble_eq_true rfl) ?_
      exact x_ret (k_iret hx hb hr hlocks hK hP hD hS trivial (nI_congr hcd.symm) ((if_neg (show ¬ cdKd (cdCur ver sLen tab x) (sKind (tab * 6 + cN x)) 4 5 = 0 by rw [hcd]; decide)).symm) d_L_size_17)
    · skip
      refine x_catch hown hq9 hcv hcl [((⟨0, 9, 12, 15⟩ : ExceptionTableEntry), xIS), ((⟨0, 9, 15, 25⟩ : ExceptionTableEntry), xNS)] (⟨0, 9, 18, 27⟩ : ExceptionTableEntry) [] hex (fun q hq => by simp only [List.mem_cons, List.not_mem_nil, or_false] at hq; rcases hq with rfl | rfl <;> first | exact ⟨by decide, by decide, (hts _ (kT _ wd_8d568b9d)), hZ.2.2.2.1 (xUO, xIS) (by decide)⟩ | exact ⟨by decide, by decide, (hts _ (kT _ wd_344b8025)), hZ.2.2.2.1 (xUO, xNS) (by decide)⟩) (by decide) (by decide) (hts _ (kT _ wd_f6aaf630)) ?_
      refine lv_astore_n (lv' := [(3, .ref q9), (0, .ref (a 0)), (1, .int x), (2, .ref (a 27))]) hx hb d_L_size_18 rfl hl (by decide) rfl (fun ls hl => ?_)
      refine lv_iconst (v := nI 3) hx hb d_L_size_19 (by decide) ?_
      refine W.widen (k := 2) (n := 12) (Nat.le_of_ble_eq_true rfl) (Nat.le_of_ble_eq_true rfl) ?_
      exact x_ret (k_iret hx hb hr hlocks hK hP hD hS trivial (nI_congr hcd.symm) ((if_neg (show ¬ cdKd (cdCur ver sLen tab x) (sKind (tab * 6 + cN x)) 4 5 = 0 by rw [hcd]; decide)).symm) d_L_size_20)
  · skip
    have hcd : cdKd (cdCur ver sLen tab x) (sKind (tab * 6 + cN x)) 4 5 = 0 := hC
    have hP : va_P D vwCl (Wo a g sLen sKind sExt sMust rTab rFil rNum rLnk rLen rItm made pItm held dByt dLen bByt bRea bRec bItm bFld bOff bOfp kept wrt wid ent ver fAdr fTab adr tab lf oV) H := hP
    have hD : va_D A (Wo a g sLen sKind sExt sMust rTab rFil rNum rLnk rLen rItm made pItm held dByt dLen bByt bRea bRec bItm bFld bOff bOfp kept wrt wid ent ver fAdr fTab adr tab lf oV) := hD
    refine W.eq (g2 := F0 m 7 ls [.int (itF dByt dLen adr (cN x)), .int (nI 0), .ref (a 27)]) rfl ?_
    refine lv_i2l hx hb d_L_size_7 rfl ?_
    refine l_last hx hb hK hP hD hS 27 19 rfl rfl (i := 0) (by omega) (by decide) d_L_size_8 (fun H locs hP hD hS => ?_)
    have hP : va_P D vwCl (Wo a g sLen sKind sExt sMust rTab rFil rNum rLnk rLen rItm made pItm held dByt dLen bByt bRea bRec bItm bFld bOff bOfp kept wrt wid ent ver fAdr fTab adr tab lf (vp_updL oV 0 ((itF dByt dLen adr (cN x)).toInt64))) H := hP
    have hD : va_D A (Wo a g sLen sKind sExt sMust rTab rFil rNum rLnk rLen rItm made pItm held dByt dLen bByt bRea bRec bItm bFld bOff bOfp kept wrt wid ent ver fAdr fTab adr tab lf (vp_updL oV 0 ((itF dByt dLen adr (cN x)).toInt64))) := hD
    refine lv_goto (tgt := 21) hx hb d_L_size_9 (by decide) ?_
    refine lv_iconst (v := nI 0) hx hb d_L_size_21 (by decide) ?_
    refine W.widen (k := 2) (n := 12) (Nat.le_of_ble_eq_true rfl) (Nat.le_of_ble_eq_true rfl) ?_
    exact x_ret (k_iret hx hb hr hlocks hK hP hD hS trivial (nI_congr hcd.symm) ((if_pos hcd).symm) d_L_size_22)
set_option maxHeartbeats 4000000 in
set_option maxRecDepth 100000 in
theorem w_element (l : Launch) (hl0 : l.stackTraces = false) (D : va_G) (a : Nat → Nat) (g : Nat → ClassId) (tw : Nat) (sLen sKind : Nat → Nat) (sExt : Nat → Int32) (sMust : Nat → Bool) (rTab : Nat → Nat) (rFil : Nat → Bool) (rNum : Nat → Int64) (rLnk rLen : Nat → Nat) (rItm : Nat → Int32) (made : Nat) (pItm : Nat → Int32) (held : Nat) (dByt : Nat → Nat) (dLen : Nat) (bByt : Nat → Nat) (bRea : Nat → Bool) (bRec bItm bFld bOff bOfp : Nat → Nat) (kept wrt wid ent : Nat) (ver : Bool) (fAdr fTab adr tab : Nat) (lf : Int32) (oV : Nat → Int64) (x : Int32) (y : Int32) (ht : tab < 4) (hL : sLen tab ≤ 6) (hk : ∀ j, sKind j < 7) (hB : ∀ k, dByt k < 256) (hd : dLen ≤ 240) (hadr : adr < 2 ^ 29) : kMH l y_L_element b_L_element 5 (some .int) [(0, 10, 13, 15), (0, 10, 17, 25), (0, 10, 21, 27), (0, 10, 25, 46)] ({ frames := 9, cells := 3, slots := 18, locals := 157 }) D vwCl (WoT g) tw [.ref (a 0), .int x, .int y, .ref (a 27)] (Wo a g sLen sKind sExt sMust rTab rFil rNum rLnk rLen rItm made pItm held dByt dLen bByt bRea bRec bItm bFld bOff bOfp kept wrt wid ent ver fAdr fTab adr tab lf oV) (some (.int (nI (cdEl (cdKd (cdCur ver sLen tab x) (sKind (tab * 6 + cN x)) 4 5) (itF dByt dLen adr (cN x)) y)))) (if cdEl (cdKd (cdCur ver sLen tab x) (sKind (tab * 6 + cN x)) 4 5) (itF dByt dLen adr (cN x)) y = 0 then (Wo a g sLen sKind sExt sMust rTab rFil rNum rLnk rLen rItm made pItm held dByt dLen bByt bRea bRec bItm bFld bOff bOfp kept wrt wid ent ver fAdr fTab adr tab lf (vp_updL oV 0 ((if (sKind (tab * 6 + cN x)) = 4 then nI (leN dByt dLen (nI (tgF dByt dLen (adr + ofF dByt dLen adr (cN x)) + 4 + cN y)) 1) else (sxL 2 (leN dByt dLen (nI (tgF dByt dLen (adr + ofF dByt dLen adr (cN x)) + 4 + 2 * cN y)) 2)).toInt32).toInt64))) else (Wo a g sLen sKind sExt sMust rTab rFil rNum rLnk rLen rItm made pItm held dByt dLen bByt bRea bRec bItm bFld bOff bOfp kept wrt wid ent ver fAdr fTab adr tab lf oV)) := by
  refine k_ofH (by decide) (Nat.le_of_ble_eq_true rfl) ?_
  intro p e s m below meth c A ls hx hb hr hlocks hml hex hts hown hA hP hK hD hS hZ hl
  have hl : lv_has ls 5 [(0, .ref (a 0)), (1, .int x), (2, .int y), (3, .ref (a 27))] := hl
  refine lv_aload_n hx hb d_L_element_0 rfl (lv_at hl 3 rfl) ?_
  refine lv_iconst (v := nI 0) hx hb d_L_element_1 (by decide) ?_
  refine lv_aload_n hx hb d_L_element_2 rfl (lv_at hl 0 rfl) ?_
  refine lv_iload_n hx hb d_L_element_3 rfl (lv_at hl 1 rfl) ?_
  refine lv_iload_n hx hb d_L_element_4 rfl (lv_at hl 2 rfl) ?_
  refine k_partVX (w2 := [(a 27, .inl (g 19, 1, .inr (.inl oV)))]) (c_element l hl0 D a g tw sLen sKind sExt sMust rTab rFil rNum rLnk rLen rItm made pItm held dByt dLen bByt bRea bRec bItm bFld bOff bOfp kept wrt wid ent ver fAdr fTab adr tab lf x y ht hL hk hB hd hadr) m_F_element wd_7263c1d2 0 0 rfl rfl rfl kT hx hb hml hown hts ⟨Nat.le_of_ble_eq_true rfl, Nat.le_of_ble_eq_true rfl⟩ ⟨Nat.le_of_ble_eq_true rfl, Nat.le_of_ble_eq_true rfl⟩ (kK_l hK) (kP_l hP) (kP_r hP) (kSp_of hD) hS hA hZ hl.1 rfl rfl (Nat.le_of_ble_eq_true rfl) d_L_element_5 (fun E ce q9 H locs hE hP hD hS hq9 hcv hcl => ?_) (fun H locs hC hP hD hS => ?_)
  · skip
    have hP : va_P D vwCl (Wo a g sLen sKind sExt sMust rTab rFil rNum rLnk rLen rItm made pItm held dByt dLen bByt bRea bRec bItm bFld bOff bOfp kept wrt wid ent ver fAdr fTab adr tab lf oV) H := hP
    have hD : va_D A (Wo a g sLen sKind sExt sMust rTab rFil rNum rLnk rLen rItm made pItm held dByt dLen bByt bRea bRec bItm bFld bOff bOfp kept wrt wid ent ver fAdr fTab adr tab lf oV) := hD
    rcases hE with ⟨rfl, hcd⟩ | ⟨rfl, hcd⟩ | ⟨rfl, hcd⟩ | ⟨rfl, hcd⟩
    · skip
      refine x_catch hown hq9 hcv hcl [] (⟨0, 10, 13, 15⟩ : ExceptionTableEntry) [(⟨0, 10, 17, 25⟩ : ExceptionTableEntry), (⟨0, 10, 21, 27⟩ : ExceptionTableEntry), (⟨0, 10, 25, 46⟩ : ExceptionTableEntry)] hex (by intro q hq; simp at hq) (by decide) (by decide) (hts _ (kT _ wd_8d568b9d)) ?_
      refine lv_astore (lv' := [(4, .ref q9), (0, .ref (a 0)), (1, .int x), (2, .int y), (3, .ref (a 27))]) hx hb d_L_element_13 hl (by decide) rfl (fun ls hl => ?_)
      refine lv_iconst (v := nI 1) hx hb d_L_element_15 (by decide) ?_
      refine W.widen (k := 3) (n := 18) (Nat.le_of_ble_eq_true rfl) (Nat.le_of_ble_eq_true rfl) ?_
      exact x_ret (k_iret hx hb hr hlocks hK hP hD hS trivial (nI_congr hcd.symm) ((if_neg (show ¬ cdEl (cdKd (cdCur ver sLen tab x) (sKind (tab * 6 + cN x)) 4 5) (itF dByt dLen adr (cN x)) y = 0 by rw [hcd]; decide)).symm) d_L_element_16)
    · skip
      refine x_catch hown hq9 hcv hcl [((⟨0, 10, 13, 15⟩ : ExceptionTableEntry), xIS)] (⟨0, 10, 17, 25⟩ : ExceptionTableEntry) [(⟨0, 10, 21, 27⟩ : ExceptionTableEntry), (⟨0, 10, 25, 46⟩ : ExceptionTableEntry)] hex (fun q hq => by simp only [List.mem_cons, List.not_mem_nil, or_false] at hq; rcases hq with rfl <;> first | exact ⟨by decide, by decide, (hts _ (kT _ wd_8d568b9d)), hZ.2.2.2.1 (xNS, xIS) (by decide)⟩) (by decide) (by decide) (hts _ (kT _ wd_344b8025)) ?_
      refine lv_astore (lv' := [(4, .ref q9), (0, .ref (a 0)), (1, .int x), (2, .int y), (3, .ref (a 27))]) hx hb d_L_element_17 hl (by decide) rfl (fun ls hl => ?_)
      refine lv_iconst (v := nI 2) hx hb d_L_element_19 (by decide) ?_
      refine W.widen (k := 3) (n := 18) (Nat.le_of_ble_eq_true rfl) (Nat.le_of_ble_eq_true rfl) ?_
      exact x_ret (k_iret hx hb hr hlocks hK hP hD hS trivial (nI_congr hcd.symm) ((if_neg (show ¬ cdEl (cdKd (cdCur ver sLen tab x) (sKind (tab * 6 + cN x)) 4 5) (itF dByt dLen adr (cN x)) y = 0 by rw [hcd]; decide)).symm) d_L_element_20)
    · skip
      refine x_catch hown hq9 hcv hcl [((⟨0, 10, 13, 15⟩ : ExceptionTableEntry), xIS), ((⟨0, 10, 17, 25⟩ : ExceptionTableEntry), xNS)] (⟨0, 10, 21, 27⟩ : ExceptionTableEntry) [(⟨0, 10, 25, 46⟩ : ExceptionTableEntry)] hex (fun q hq => by simp only [List.mem_cons, List.not_mem_nil, or_false] at hq; rcases hq with rfl | rfl <;> first | exact ⟨by decide, by decide, (hts _ (kT _ wd_8d568b9d)), hZ.2.2.2.1 (xUO, xIS) (by decide)⟩ | exact ⟨by decide, by decide, (hts _ (kT _ wd_344b8025)), hZ.2.2.2.1 (xUO, xNS) (by decide)⟩) (by decide) (by decide) (hts _ (kT _ wd_f6aaf630)) ?_
      refine lv_astore (lv' := [(4, .ref q9), (0, .ref (a 0)), (1, .int x), (2, .int y), (3, .ref (a 27))]) hx hb d_L_element_21 hl (by decide) rfl (fun ls hl => ?_)
      refine lv_iconst (v := nI 3) hx hb d_L_element_23 (by decide) ?_
      refine W.widen (k := 3) (n := 18) (Nat.le_of_ble_eq_true rfl) (Nat.le_of_ble_eq_true rfl) ?_
      exact x_ret (k_iret hx hb hr hlocks hK hP hD hS trivial (nI_congr hcd.symm) ((if_neg (show ¬ cdEl (cdKd (cdCur ver sLen tab x) (sKind (tab * 6 + cN x)) 4 5) (itF dByt dLen adr (cN x)) y = 0 by rw [hcd]; decide)).symm) d_L_element_24)
    · skip
      refine x_catch hown hq9 hcv hcl [((⟨0, 10, 13, 15⟩ : ExceptionTableEntry), xIS), ((⟨0, 10, 17, 25⟩ : ExceptionTableEntry), xNS), ((⟨0, 10, 21, 27⟩ : ExceptionTableEntry), xUO)] (⟨0, 10, 25, 46⟩ : ExceptionTableEntry) [] hex (fun q hq => by simp only [List.mem_cons, List.not_mem_nil, or_false] at hq; rcases hq with rfl | rfl | rfl <;> first | exact ⟨by decide, by decide, (hts _ (kT _ wd_8d568b9d)), hZ.2.2.2.1 (xIO, xIS) (by decide)⟩ | exact ⟨by decide, by decide, (hts _ (kT _ wd_344b8025)), hZ.2.2.2.1 (xIO, xNS) (by decide)⟩ | exact ⟨by decide, by decide, (hts _ (kT _ wd_f6aaf630)), hZ.2.2.2.1 (xIO, xUO) (by decide)⟩) (by decide) (by decide) (hts _ (kT _ wd_d149e94a)) ?_
      refine lv_astore (lv' := [(4, .ref q9), (0, .ref (a 0)), (1, .int x), (2, .int y), (3, .ref (a 27))]) hx hb d_L_element_25 hl (by decide) rfl (fun ls hl => ?_)
      refine lv_iconst (v := nI 4) hx hb d_L_element_27 (by decide) ?_
      refine W.widen (k := 3) (n := 18) (Nat.le_of_ble_eq_true rfl) (Nat.le_of_ble_eq_true rfl) ?_
      exact x_ret (k_iret hx hb hr hlocks hK hP hD hS trivial (nI_congr hcd.symm) ((if_neg (show ¬ cdEl (cdKd (cdCur ver sLen tab x) (sKind (tab * 6 + cN x)) 4 5) (itF dByt dLen adr (cN x)) y = 0 by rw [hcd]; decide)).symm) d_L_element_28)
  · skip
    have hcd : cdEl (cdKd (cdCur ver sLen tab x) (sKind (tab * 6 + cN x)) 4 5) (itF dByt dLen adr (cN x)) y = 0 := hC
    have hP : va_P D vwCl (Wo a g sLen sKind sExt sMust rTab rFil rNum rLnk rLen rItm made pItm held dByt dLen bByt bRea bRec bItm bFld bOff bOfp kept wrt wid ent ver fAdr fTab adr tab lf oV) H := hP
    have hD : va_D A (Wo a g sLen sKind sExt sMust rTab rFil rNum rLnk rLen rItm made pItm held dByt dLen bByt bRea bRec bItm bFld bOff bOfp kept wrt wid ent ver fAdr fTab adr tab lf oV) := hD
    refine W.eq (g2 := F0 m 8 ls [.int (if (sKind (tab * 6 + cN x)) = 4 then nI (leN dByt dLen (nI (tgF dByt dLen (adr + ofF dByt dLen adr (cN x)) + 4 + cN y)) 1) else (sxL 2 (leN dByt dLen (nI (tgF dByt dLen (adr + ofF dByt dLen adr (cN x)) + 4 + 2 * cN y)) 2)).toInt32), .int (nI 0), .ref (a 27)]) rfl ?_
    refine lv_i2l hx hb d_L_element_8 rfl ?_
    refine l_last hx hb hK hP hD hS 27 19 rfl rfl (i := 0) (by omega) (by decide) d_L_element_9 (fun H locs hP hD hS => ?_)
    have hP : va_P D vwCl (Wo a g sLen sKind sExt sMust rTab rFil rNum rLnk rLen rItm made pItm held dByt dLen bByt bRea bRec bItm bFld bOff bOfp kept wrt wid ent ver fAdr fTab adr tab lf (vp_updL oV 0 ((if (sKind (tab * 6 + cN x)) = 4 then nI (leN dByt dLen (nI (tgF dByt dLen (adr + ofF dByt dLen adr (cN x)) + 4 + cN y)) 1) else (sxL 2 (leN dByt dLen (nI (tgF dByt dLen (adr + ofF dByt dLen adr (cN x)) + 4 + 2 * cN y)) 2)).toInt32).toInt64))) H := hP
    have hD : va_D A (Wo a g sLen sKind sExt sMust rTab rFil rNum rLnk rLen rItm made pItm held dByt dLen bByt bRea bRec bItm bFld bOff bOfp kept wrt wid ent ver fAdr fTab adr tab lf (vp_updL oV 0 ((if (sKind (tab * 6 + cN x)) = 4 then nI (leN dByt dLen (nI (tgF dByt dLen (adr + ofF dByt dLen adr (cN x)) + 4 + cN y)) 1) else (sxL 2 (leN dByt dLen (nI (tgF dByt dLen (adr + ofF dByt dLen adr (cN x)) + 4 + 2 * cN y)) 2)).toInt32).toInt64))) := hD
    refine lv_goto (tgt := 29) hx hb d_L_element_10 (by decide) ?_
    refine lv_iconst (v := nI 0) hx hb d_L_element_29 (by decide) ?_
    refine W.widen (k := 3) (n := 18) (Nat.le_of_ble_eq_true rfl) (Nat.le_of_ble_eq_true rfl) ?_
    exact x_ret (k_iret hx hb hr hlocks hK hP hD hS trivial (nI_congr hcd.symm) ((if_pos hcd).symm) d_L_element_30)
set_option maxHeartbeats 4000000 in
set_option maxRecDepth 100000 in
theorem w_count (l : Launch) (hl0 : l.stackTraces = false) (D : va_G) (a : Nat → Nat) (g : Nat → ClassId) (tw : Nat) (sLen sKind : Nat → Nat) (sExt : Nat → Int32) (sMust : Nat → Bool) (rTab : Nat → Nat) (rFil : Nat → Bool) (rNum : Nat → Int64) (rLnk rLen : Nat → Nat) (rItm : Nat → Int32) (made : Nat) (pItm : Nat → Int32) (held : Nat) (dByt : Nat → Nat) (dLen : Nat) (bByt : Nat → Nat) (bRea : Nat → Bool) (bRec bItm bFld bOff bOfp : Nat → Nat) (kept wrt wid ent : Nat) (ver : Bool) (fAdr fTab adr tab : Nat) (lf : Int32) (oV : Nat → Int64) (x : Int32)  : kMH l y_L_count b_L_count 4 (some .int) [(0, 9, 12, 13)] ({ frames := 7, cells := 1, slots := 6, locals := 110 }) D vwCl (WoT g) tw [.ref (a 0), .int x, .ref (a 27)] (Wo a g sLen sKind sExt sMust rTab rFil rNum rLnk rLen rItm made pItm held dByt dLen bByt bRea bRec bItm bFld bOff bOfp kept wrt wid ent ver fAdr fTab adr tab lf oV) (some (.int (nI (cdCount x)))) (if cdCount x = 0 then (Wo a g sLen sKind sExt sMust rTab rFil rNum rLnk rLen rItm made pItm held dByt dLen bByt bRea bRec bItm bFld bOff bOfp kept wrt wid ent ver fAdr fTab adr tab lf (vp_updL oV 0 ((rvCount sLen made held dLen ver tab x).toInt64))) else (Wo a g sLen sKind sExt sMust rTab rFil rNum rLnk rLen rItm made pItm held dByt dLen bByt bRea bRec bItm bFld bOff bOfp kept wrt wid ent ver fAdr fTab adr tab lf oV)) := by
  refine k_ofH (by decide) (Nat.le_of_ble_eq_true rfl) ?_
  intro p e s m below meth c A ls hx hb hr hlocks hml hex hts hown hA hP hK hD hS hZ hl
  have hl : lv_has ls 4 [(0, .ref (a 0)), (1, .int x), (2, .ref (a 27))] := hl
  refine lv_aload_n hx hb d_L_count_0 rfl (lv_at hl 2 rfl) ?_
  refine lv_iconst (v := nI 0) hx hb d_L_count_1 (by decide) ?_
  refine lv_aload_n hx hb d_L_count_2 rfl (lv_at hl 0 rfl) ?_
  refine lv_iload_n hx hb d_L_count_3 rfl (lv_at hl 1 rfl) ?_
  refine k_partVX (w2 := [(a 27, .inl (g 19, 1, .inr (.inl oV)))]) (c_count l hl0 D a g tw sLen sKind sExt sMust rTab rFil rNum rLnk rLen rItm made pItm held dByt dLen bByt bRea bRec bItm bFld bOff bOfp kept wrt wid ent ver fAdr fTab adr tab lf x ) m_F_count wd_5524e48a 0 0 rfl rfl rfl kT hx hb hml hown hts ⟨Nat.le_of_ble_eq_true rfl, Nat.le_of_ble_eq_true rfl⟩ ⟨Nat.le_of_ble_eq_true rfl, Nat.le_of_ble_eq_true rfl⟩ (kK_l hK) (kP_l hP) (kP_r hP) (kSp_of hD) hS hA hZ hl.1 rfl rfl (Nat.le_of_ble_eq_true rfl) d_L_count_4 (fun E ce q9 H locs hE hP hD hS hq9 hcv hcl => ?_) (fun H locs hC hP hD hS => ?_)
  · skip
    have hP : va_P D vwCl (Wo a g sLen sKind sExt sMust rTab rFil rNum rLnk rLen rItm made pItm held dByt dLen bByt bRea bRec bItm bFld bOff bOfp kept wrt wid ent ver fAdr fTab adr tab lf oV) H := hP
    have hD : va_D A (Wo a g sLen sKind sExt sMust rTab rFil rNum rLnk rLen rItm made pItm held dByt dLen bByt bRea bRec bItm bFld bOff bOfp kept wrt wid ent ver fAdr fTab adr tab lf oV) := hD
    rcases hE with ⟨rfl, hcd⟩
    · skip
      refine x_catch hown hq9 hcv hcl [] (⟨0, 9, 12, 13⟩ : ExceptionTableEntry) [] hex (by intro q hq; simp at hq) (by decide) (by decide) (hts _ (kT _ wd_f37328b3)) ?_
      refine lv_astore_n (lv' := [(3, .ref q9), (0, .ref (a 0)), (1, .int x), (2, .ref (a 27))]) hx hb d_L_count_12 rfl hl (by decide) rfl (fun ls hl => ?_)
      refine lv_iconst (v := nI 1) hx hb d_L_count_13 (by decide) ?_
      refine W.widen (k := 1) (n := 6) (Nat.le_of_ble_eq_true rfl) (Nat.le_of_ble_eq_true rfl) ?_
      exact x_ret (k_iret hx hb hr hlocks hK hP hD hS trivial (nI_congr hcd.symm) ((if_neg (show ¬ cdCount x = 0 by rw [hcd]; decide)).symm) d_L_count_14)
  · skip
    have hcd : cdCount x = 0 := hC
    have hP : va_P D vwCl (Wo a g sLen sKind sExt sMust rTab rFil rNum rLnk rLen rItm made pItm held dByt dLen bByt bRea bRec bItm bFld bOff bOfp kept wrt wid ent ver fAdr fTab adr tab lf oV) H := hP
    have hD : va_D A (Wo a g sLen sKind sExt sMust rTab rFil rNum rLnk rLen rItm made pItm held dByt dLen bByt bRea bRec bItm bFld bOff bOfp kept wrt wid ent ver fAdr fTab adr tab lf oV) := hD
    refine W.eq (g2 := F0 m 7 ls [.int (rvCount sLen made held dLen ver tab x), .int (nI 0), .ref (a 27)]) rfl ?_
    refine lv_i2l hx hb d_L_count_7 rfl ?_
    refine l_last hx hb hK hP hD hS 27 19 rfl rfl (i := 0) (by omega) (by decide) d_L_count_8 (fun H locs hP hD hS => ?_)
    have hP : va_P D vwCl (Wo a g sLen sKind sExt sMust rTab rFil rNum rLnk rLen rItm made pItm held dByt dLen bByt bRea bRec bItm bFld bOff bOfp kept wrt wid ent ver fAdr fTab adr tab lf (vp_updL oV 0 ((rvCount sLen made held dLen ver tab x).toInt64))) H := hP
    have hD : va_D A (Wo a g sLen sKind sExt sMust rTab rFil rNum rLnk rLen rItm made pItm held dByt dLen bByt bRea bRec bItm bFld bOff bOfp kept wrt wid ent ver fAdr fTab adr tab lf (vp_updL oV 0 ((rvCount sLen made held dLen ver tab x).toInt64))) := hD
    refine lv_goto (tgt := 15) hx hb d_L_count_9 (by decide) ?_
    refine lv_iconst (v := nI 0) hx hb d_L_count_15 (by decide) ?_
    refine W.widen (k := 1) (n := 6) (Nat.le_of_ble_eq_true rfl) (Nat.le_of_ble_eq_true rfl) ?_
    exact x_ret (k_iret hx hb hr hlocks hK hP hD hS trivial (nI_congr hcd.symm) ((if_pos hcd).symm) d_L_count_16)

theorem wd_4fbeb0bc : Cond.fieldLink R_S 9 R_S "lengths" "[I" ∈ kGW := kGW_of (List.mem_of_getElem? (i := 81) (by decide +kernel)) (by decide)
theorem wd_cb1e4a6d : Cond.fieldLink R_S 15 R_S "kinds" "[I" ∈ kGW := kGW_of (List.mem_of_getElem? (i := 82) (by decide +kernel)) (by decide)
theorem wd_a662b943 : Cond.fieldLink R_S 18 R_S "extras" "[I" ∈ kGW := kGW_of (List.mem_of_getElem? (i := 83) (by decide +kernel)) (by decide)
theorem wd_a48a7739 : Cond.fieldLink R_S 21 R_S "musts" "[Z" ∈ kGW := kGW_of (List.mem_of_getElem? (i := 84) (by decide +kernel)) (by decide)
theorem wd_f5c243b5 : Cond.fieldLink R_R 9 R_R "tables" "[I" ∈ kGW := kGW_of (List.mem_of_getElem? (i := 102) (by decide +kernel)) (by decide)
theorem wd_3615d315 : Cond.fieldLink R_R 33 R_R "made" "I" ∈ kGW := kGW_of (List.mem_of_getElem? (i := 112) (by decide +kernel)) (by decide)
theorem wd_ab5bee07 : Cond.fieldLink R_R 15 R_R "filled" "[Z" ∈ kGW := kGW_of (List.mem_of_getElem? (i := 103) (by decide +kernel)) (by decide)
theorem wd_c008ff51 : Cond.fieldLink R_R 19 R_R "numbers" "[J" ∈ kGW := kGW_of (List.mem_of_getElem? (i := 105) (by decide +kernel)) (by decide)
theorem wd_c196e0c2 : Cond.fieldLink R_R 23 R_R "links" "[I" ∈ kGW := kGW_of (List.mem_of_getElem? (i := 107) (by decide +kernel)) (by decide)
theorem wd_a7b5af6e : Cond.fieldLink R_P 9 R_P "items" "[S" ∈ kGW := kGW_of (List.mem_of_getElem? (i := 137) (by decide +kernel)) (by decide)
theorem wd_f56104f2 : Cond.fieldLink R_P 15 R_P "held" "I" ∈ kGW := kGW_of (List.mem_of_getElem? (i := 139) (by decide +kernel)) (by decide)
theorem wd_95522a61 : Cond.fieldLink R_C 7 R_C "verified" "Z" ∈ kGW := kGW_of (List.mem_of_getElem? (i := 231) (by decide +kernel)) (by decide)
theorem wd_04a9cec3 : Cond.fieldLink R_C 27 R_C "address" "I" ∈ kGW := kGW_of (List.mem_of_getElem? (i := 235) (by decide +kernel)) (by decide)
theorem wd_f2838d2f : Cond.fieldLink R_C 30 R_C "table" "I" ∈ kGW := kGW_of (List.mem_of_getElem? (i := 237) (by decide +kernel)) (by decide)
theorem wd_83dda460 : Cond.fieldLink R_C 13 R_C "firstAddress" "I" ∈ kGW := kGW_of (List.mem_of_getElem? (i := 233) (by decide +kernel)) (by decide)
theorem wd_c1bd6654 : Cond.fieldLink R_C 17 R_C "firstTable" "I" ∈ kGW := kGW_of (List.mem_of_getElem? (i := 234) (by decide +kernel)) (by decide)
theorem wd_fb878c0c : Cond.methodLink R_C 23 y_C_go ∈ kGW := kGW_of (List.mem_of_getElem? (i := 743) (by decide +kernel)) (by decide)
theorem wd_e3693826 : Cond.methodLink R_C 20 y_C_goFirst ∈ kGW := kGW_of (List.mem_of_getElem? (i := 739) (by decide +kernel)) (by decide)
theorem wd_988e707d : Cond.fieldLink R_R 26 R_R "lengths" "[I" ∈ kGW := kGW_of (List.mem_of_getElem? (i := 109) (by decide +kernel)) (by decide)
theorem wd_6f843458 : Cond.fieldLink R_R 29 R_R "items" "[S" ∈ kGW := kGW_of (List.mem_of_getElem? (i := 111) (by decide +kernel)) (by decide)
set_option maxRecDepth 20000 in
theorem wd_f635462e : Cond.code y_S_fieldsOf b_S_fieldsOf 2 (some .int) ∈ kGW := kGW_of (List.mem_of_getElem? (i := 365) (by rfl)) (by decide)
theorem wd_6c64a5de : Cond.initialized R_S ∈ kGW := kGW_of (List.mem_of_getElem? (i := 48) (by decide +kernel)) (by decide)
theorem wd_1551cc84 : Cond.instanceMethod y_S_fieldsOf ∈ kGW := kGW_of (List.mem_of_getElem? (i := 363) (by decide +kernel)) (by decide)
theorem wd_c737bf1e : Cond.selects R_S y_S_fieldsOf y_S_fieldsOf ∈ kGW := kGW_of (List.mem_of_getElem? (i := 364) (by decide +kernel)) (by decide)
set_option maxRecDepth 20000 in
theorem wd_f7045226 : Cond.code y_S_holds b_S_holds 3 (some .boolean) ∈ kGW := kGW_of (List.mem_of_getElem? (i := 424) (by rfl)) (by decide)
theorem wd_5773390c : Cond.instanceMethod y_S_holds ∈ kGW := kGW_of (List.mem_of_getElem? (i := 422) (by decide +kernel)) (by decide)
theorem wd_2561f04f : Cond.selects R_S y_S_holds y_S_holds ∈ kGW := kGW_of (List.mem_of_getElem? (i := 423) (by decide +kernel)) (by decide)
set_option maxRecDepth 20000 in
theorem wd_982aeb95 : Cond.code y_S_kindOf b_S_kindOf 3 (some .int) ∈ kGW := kGW_of (List.mem_of_getElem? (i := 443) (by rfl)) (by decide)
theorem wd_06119309 : Cond.instanceMethod y_S_kindOf ∈ kGW := kGW_of (List.mem_of_getElem? (i := 441) (by decide +kernel)) (by decide)
theorem wd_bacb136c : Cond.selects R_S y_S_kindOf y_S_kindOf ∈ kGW := kGW_of (List.mem_of_getElem? (i := 442) (by decide +kernel)) (by decide)
set_option maxRecDepth 20000 in
theorem wd_17faacb2 : Cond.code y_S_extraOf b_S_extraOf 3 (some .int) ∈ kGW := kGW_of (List.mem_of_getElem? (i := 498) (by rfl)) (by decide)
theorem wd_674288f3 : Cond.instanceMethod y_S_extraOf ∈ kGW := kGW_of (List.mem_of_getElem? (i := 496) (by decide +kernel)) (by decide)
theorem wd_62a3d3d5 : Cond.selects R_S y_S_extraOf y_S_extraOf ∈ kGW := kGW_of (List.mem_of_getElem? (i := 497) (by decide +kernel)) (by decide)
set_option maxRecDepth 20000 in
theorem wd_22b6005a : Cond.code y_S_requires b_S_requires 3 (some .boolean) ∈ kGW := kGW_of (List.mem_of_getElem? (i := 536) (by rfl)) (by decide)
theorem wd_eea9b9b9 : Cond.instanceMethod y_S_requires ∈ kGW := kGW_of (List.mem_of_getElem? (i := 534) (by decide +kernel)) (by decide)
theorem wd_e002d613 : Cond.selects R_S y_S_requires y_S_requires ∈ kGW := kGW_of (List.mem_of_getElem? (i := 535) (by decide +kernel)) (by decide)
set_option maxRecDepth 20000 in
theorem wd_35326517 : Cond.code y_S_append b_S_append 7 (some .int) ∈ kGW := kGW_of (List.mem_of_getElem? (i := 388) (by rfl)) (by decide)
theorem wd_1ec53f02 : Cond.instanceMethod y_S_append ∈ kGW := kGW_of (List.mem_of_getElem? (i := 386) (by decide +kernel)) (by decide)
theorem wd_369ad0c7 : Cond.selects R_S y_S_append y_S_append ∈ kGW := kGW_of (List.mem_of_getElem? (i := 387) (by decide +kernel)) (by decide)
set_option maxRecDepth 20000 in
theorem wd_59a193e9 : Cond.code y_R_append b_R_append 2 (some .int) ∈ kGW := kGW_of (List.mem_of_getElem? (i := 399) (by rfl)) (by decide)
theorem wd_b0720e32 : Cond.initialized R_R ∈ kGW := kGW_of (List.mem_of_getElem? (i := 49) (by decide +kernel)) (by decide)
theorem wd_73db6447 : Cond.instanceMethod y_R_append ∈ kGW := kGW_of (List.mem_of_getElem? (i := 397) (by decide +kernel)) (by decide)
theorem wd_29c1e0fd : Cond.selects R_R y_R_append y_R_append ∈ kGW := kGW_of (List.mem_of_getElem? (i := 398) (by decide +kernel)) (by decide)
set_option maxRecDepth 20000 in
theorem wd_5f6be15f : Cond.code y_R_holds b_R_holds 2 (some .boolean) ∈ kGW := kGW_of (List.mem_of_getElem? (i := 416) (by rfl)) (by decide)
theorem wd_9f2c2481 : Cond.instanceMethod y_R_holds ∈ kGW := kGW_of (List.mem_of_getElem? (i := 414) (by decide +kernel)) (by decide)
theorem wd_9a5ea124 : Cond.selects R_R y_R_holds y_R_holds ∈ kGW := kGW_of (List.mem_of_getElem? (i := 415) (by decide +kernel)) (by decide)
set_option maxRecDepth 20000 in
theorem wd_9892f0ac : Cond.code y_R_tableOf b_R_tableOf 2 (some .int) ∈ kGW := kGW_of (List.mem_of_getElem? (i := 420) (by rfl)) (by decide)
theorem wd_6be68a19 : Cond.instanceMethod y_R_tableOf ∈ kGW := kGW_of (List.mem_of_getElem? (i := 418) (by decide +kernel)) (by decide)
theorem wd_19eff144 : Cond.selects R_R y_R_tableOf y_R_tableOf ∈ kGW := kGW_of (List.mem_of_getElem? (i := 419) (by decide +kernel)) (by decide)
set_option maxRecDepth 20000 in
theorem wd_419617d1 : Cond.code y_R_keepNumber b_R_keepNumber 4 none ∈ kGW := kGW_of (List.mem_of_getElem? (i := 465) (by rfl)) (by decide)
theorem wd_3509e45e : Cond.instanceMethod y_R_keepNumber ∈ kGW := kGW_of (List.mem_of_getElem? (i := 463) (by decide +kernel)) (by decide)
theorem wd_22da9b42 : Cond.selects R_R y_R_keepNumber y_R_keepNumber ∈ kGW := kGW_of (List.mem_of_getElem? (i := 464) (by decide +kernel)) (by decide)
set_option maxRecDepth 20000 in
theorem wd_91329a03 : Cond.code y_R_keepLink b_R_keepLink 3 none ∈ kGW := kGW_of (List.mem_of_getElem? (i := 502) (by rfl)) (by decide)
theorem wd_af3299ff : Cond.instanceMethod y_R_keepLink ∈ kGW := kGW_of (List.mem_of_getElem? (i := 500) (by decide +kernel)) (by decide)
theorem wd_4b5b26f5 : Cond.selects R_R y_R_keepLink y_R_keepLink ∈ kGW := kGW_of (List.mem_of_getElem? (i := 501) (by decide +kernel)) (by decide)
set_option maxRecDepth 20000 in
theorem wd_c9b14da8 : Cond.code y_R_forget b_R_forget 3 (some .boolean) ∈ kGW := kGW_of (List.mem_of_getElem? (i := 513) (by rfl)) (by decide)
theorem wd_5b4b9001 : Cond.instanceMethod y_R_forget ∈ kGW := kGW_of (List.mem_of_getElem? (i := 511) (by decide +kernel)) (by decide)
theorem wd_29ede197 : Cond.selects R_R y_R_forget y_R_forget ∈ kGW := kGW_of (List.mem_of_getElem? (i := 512) (by decide +kernel)) (by decide)
set_option maxRecDepth 20000 in
theorem wd_2af87f42 : Cond.code y_P_append b_P_append 2 none ∈ kGW := kGW_of (List.mem_of_getElem? (i := 476) (by rfl)) (by decide)
theorem wd_032e7381 : Cond.initialized R_P ∈ kGW := kGW_of (List.mem_of_getElem? (i := 50) (by decide +kernel)) (by decide)
theorem wd_567346f5 : Cond.instanceMethod y_P_append ∈ kGW := kGW_of (List.mem_of_getElem? (i := 474) (by decide +kernel)) (by decide)
theorem wd_301c53b8 : Cond.selects R_P y_P_append y_P_append ∈ kGW := kGW_of (List.mem_of_getElem? (i := 475) (by decide +kernel)) (by decide)
set_option maxRecDepth 20000 in
theorem wd_0dcad2e9 : Cond.code y_C_leave b_C_leave 1 none ∈ kGW := kGW_of (List.mem_of_getElem? (i := 384) (by rfl)) (by decide)
theorem wd_5afdb55a : Cond.initialized R_C ∈ kGW := kGW_of (List.mem_of_getElem? (i := 54) (by decide +kernel)) (by decide)
theorem wd_0abfbd13 : Cond.instanceMethod y_C_leave ∈ kGW := kGW_of (List.mem_of_getElem? (i := 382) (by decide +kernel)) (by decide)
theorem wd_3ca6af02 : Cond.selects R_C y_C_leave y_C_leave ∈ kGW := kGW_of (List.mem_of_getElem? (i := 383) (by decide +kernel)) (by decide)
set_option maxRecDepth 20000 in
theorem wd_c0fd7242 : Cond.code y_C_go b_C_go 3 none ∈ kGW := kGW_of (List.mem_of_getElem? (i := 746) (by rfl)) (by decide)
theorem wd_b95c1f96 : Cond.instanceMethod y_C_go ∈ kGW := kGW_of (List.mem_of_getElem? (i := 744) (by decide +kernel)) (by decide)
theorem wd_9ce12b3d : Cond.selects R_C y_C_go y_C_go ∈ kGW := kGW_of (List.mem_of_getElem? (i := 745) (by decide +kernel)) (by decide)
set_option maxRecDepth 20000 in
theorem wd_cc089104 : Cond.code y_C_goFirst b_C_goFirst 1 none ∈ kGW := kGW_of (List.mem_of_getElem? (i := 742) (by rfl)) (by decide)
theorem wd_28251666 : Cond.instanceMethod y_C_goFirst ∈ kGW := kGW_of (List.mem_of_getElem? (i := 740) (by decide +kernel)) (by decide)
theorem wd_6abdf576 : Cond.selects R_C y_C_goFirst y_C_goFirst ∈ kGW := kGW_of (List.mem_of_getElem? (i := 741) (by decide +kernel)) (by decide)
set_option maxRecDepth 20000 in
theorem wd_c899e962 : Cond.code y_C_enter b_C_enter 3 none ∈ kGW := kGW_of (List.mem_of_getElem? (i := 738) (by rfl)) (by decide)
theorem wd_fd9fa14e : Cond.instanceMethod y_C_enter ∈ kGW := kGW_of (List.mem_of_getElem? (i := 736) (by decide +kernel)) (by decide)
theorem wd_0375f3c3 : Cond.selects R_C y_C_enter y_C_enter ∈ kGW := kGW_of (List.mem_of_getElem? (i := 737) (by decide +kernel)) (by decide)
set_option maxRecDepth 20000 in
theorem wd_feea5cf0 : Cond.code y_F_isTable b_F_isTable 1 (some .boolean) ∈ kGW := kGW_of (List.mem_of_getElem? (i := 290) (by rfl)) (by decide)
theorem wd_c1885a87 : Cond.initialized R_F ∈ kGW := kGW_of (List.mem_of_getElem? (i := 47) (by decide +kernel)) (by decide)
theorem wd_76ea94ab : Cond.static y_F_isTable ∈ kGW := kGW_of (List.mem_of_getElem? (i := 289) (by decide +kernel)) (by decide)
set_option maxRecDepth 20000 in
theorem wd_410dd410 : Cond.code y_F_slotOf b_F_slotOf 2 (some .int) ∈ kGW := kGW_of (List.mem_of_getElem? (i := 461) (by rfl)) (by decide)
theorem wd_040ea7b0 : Cond.static y_F_slotOf ∈ kGW := kGW_of (List.mem_of_getElem? (i := 460) (by decide +kernel)) (by decide)
set_option maxRecDepth 20000 in
theorem wd_6314fefb : Cond.code y_F_broughtIntoRange b_F_broughtIntoRange 3 (some .long) ∈ kGW := kGW_of (List.mem_of_getElem? (i := 296) (by rfl)) (by decide)
theorem wd_da79dbb2 : Cond.static y_F_broughtIntoRange ∈ kGW := kGW_of (List.mem_of_getElem? (i := 295) (by decide +kernel)) (by decide)
set_option maxRecDepth 20000 in
theorem wd_709aa1e6 : Cond.code y_S_fieldsInAll b_S_fieldsInAll 3 (some .int) ∈ kGW := kGW_of (List.mem_of_getElem? (i := 811) (by rfl)) (by decide)
theorem wd_e7399df9 : Cond.instanceMethod y_S_fieldsInAll ∈ kGW := kGW_of (List.mem_of_getElem? (i := 809) (by decide +kernel)) (by decide)
theorem wd_178cc4a6 : Cond.selects R_S y_S_fieldsInAll y_S_fieldsInAll ∈ kGW := kGW_of (List.mem_of_getElem? (i := 810) (by decide +kernel)) (by decide)
set_option maxRecDepth 20000 in
theorem wd_89aa6b28 : Cond.code y_R_keepItems b_R_keepItems 5 none ∈ kGW := kGW_of (List.mem_of_getElem? (i := 487) (by rfl)) (by decide)
theorem wd_32dc26cd : Cond.instanceMethod y_R_keepItems ∈ kGW := kGW_of (List.mem_of_getElem? (i := 485) (by decide +kernel)) (by decide)
theorem wd_1304d15f : Cond.selects R_R y_R_keepItems y_R_keepItems ∈ kGW := kGW_of (List.mem_of_getElem? (i := 486) (by decide +kernel)) (by decide)
theorem wn_8e4993d6 : Cond.fieldLinkNest R_R 37 R_P "held" "I" "FlatStore" ∈ kNW := kNW_of (List.mem_of_getElem? (i := 141) (by decide +kernel)) (by decide)
theorem wn_6e959370 : Cond.fieldLinkNest R_R 42 R_P "items" "[S" "FlatStore" ∈ kNW := kNW_of (List.mem_of_getElem? (i := 138) (by decide +kernel)) (by decide)
theorem d_S_fieldsOf_0 : decode b_S_fieldsOf 0 = .ok (.aload_n 0, 1) := by decide +kernel
theorem d_S_fieldsOf_1 : decode b_S_fieldsOf 1 = .ok (.getfield 9, 3) := by decide +kernel
theorem d_S_fieldsOf_4 : decode b_S_fieldsOf 4 = .ok (.iload_n 1, 1) := by decide +kernel
theorem d_S_fieldsOf_5 : decode b_S_fieldsOf 5 = .ok (.iaload, 1) := by decide +kernel
theorem d_S_fieldsOf_6 : decode b_S_fieldsOf 6 = .ok (.ireturn, 1) := by decide +kernel
theorem d_S_holds_0 : decode b_S_holds 0 = .ok (.iload_n 2, 1) := by decide +kernel
theorem d_S_holds_1 : decode b_S_holds 1 = .ok (.ifCond .lt 17, 3) := by decide +kernel
theorem d_S_holds_4 : decode b_S_holds 4 = .ok (.iload_n 2, 1) := by decide +kernel
theorem d_S_holds_5 : decode b_S_holds 5 = .ok (.aload_n 0, 1) := by decide +kernel
theorem d_S_holds_6 : decode b_S_holds 6 = .ok (.getfield 9, 3) := by decide +kernel
theorem d_S_holds_9 : decode b_S_holds 9 = .ok (.iload_n 1, 1) := by decide +kernel
theorem d_S_holds_10 : decode b_S_holds 10 = .ok (.iaload, 1) := by decide +kernel
theorem d_S_holds_11 : decode b_S_holds 11 = .ok (.if_icmp .ge 7, 3) := by decide +kernel
theorem d_S_holds_14 : decode b_S_holds 14 = .ok (.iconst 1, 1) := by decide +kernel
theorem d_S_holds_15 : decode b_S_holds 15 = .ok (.goto 4, 3) := by decide +kernel
theorem d_S_holds_18 : decode b_S_holds 18 = .ok (.iconst 0, 1) := by decide +kernel
theorem d_S_holds_19 : decode b_S_holds 19 = .ok (.ireturn, 1) := by decide +kernel
theorem d_S_kindOf_0 : decode b_S_kindOf 0 = .ok (.aload_n 0, 1) := by decide +kernel
theorem d_S_kindOf_1 : decode b_S_kindOf 1 = .ok (.getfield 15, 3) := by decide +kernel
theorem d_S_kindOf_4 : decode b_S_kindOf 4 = .ok (.iload_n 1, 1) := by decide +kernel
theorem d_S_kindOf_5 : decode b_S_kindOf 5 = .ok (.bipush 6, 2) := by decide +kernel
theorem d_S_kindOf_7 : decode b_S_kindOf 7 = .ok (.imul, 1) := by decide +kernel
theorem d_S_kindOf_8 : decode b_S_kindOf 8 = .ok (.iload_n 2, 1) := by decide +kernel
theorem d_S_kindOf_9 : decode b_S_kindOf 9 = .ok (.iadd, 1) := by decide +kernel
theorem d_S_kindOf_10 : decode b_S_kindOf 10 = .ok (.iaload, 1) := by decide +kernel
theorem d_S_kindOf_11 : decode b_S_kindOf 11 = .ok (.ireturn, 1) := by decide +kernel
theorem d_S_extraOf_0 : decode b_S_extraOf 0 = .ok (.aload_n 0, 1) := by decide +kernel
theorem d_S_extraOf_1 : decode b_S_extraOf 1 = .ok (.getfield 18, 3) := by decide +kernel
theorem d_S_extraOf_4 : decode b_S_extraOf 4 = .ok (.iload_n 1, 1) := by decide +kernel
theorem d_S_extraOf_5 : decode b_S_extraOf 5 = .ok (.bipush 6, 2) := by decide +kernel
theorem d_S_extraOf_7 : decode b_S_extraOf 7 = .ok (.imul, 1) := by decide +kernel
theorem d_S_extraOf_8 : decode b_S_extraOf 8 = .ok (.iload_n 2, 1) := by decide +kernel
theorem d_S_extraOf_9 : decode b_S_extraOf 9 = .ok (.iadd, 1) := by decide +kernel
theorem d_S_extraOf_10 : decode b_S_extraOf 10 = .ok (.iaload, 1) := by decide +kernel
theorem d_S_extraOf_11 : decode b_S_extraOf 11 = .ok (.ireturn, 1) := by decide +kernel
theorem d_S_requires_0 : decode b_S_requires 0 = .ok (.aload_n 0, 1) := by decide +kernel
theorem d_S_requires_1 : decode b_S_requires 1 = .ok (.getfield 21, 3) := by decide +kernel
theorem d_S_requires_4 : decode b_S_requires 4 = .ok (.iload_n 1, 1) := by decide +kernel
theorem d_S_requires_5 : decode b_S_requires 5 = .ok (.bipush 6, 2) := by decide +kernel
theorem d_S_requires_7 : decode b_S_requires 7 = .ok (.imul, 1) := by decide +kernel
theorem d_S_requires_8 : decode b_S_requires 8 = .ok (.iload_n 2, 1) := by decide +kernel
theorem d_S_requires_9 : decode b_S_requires 9 = .ok (.iadd, 1) := by decide +kernel
theorem d_S_requires_10 : decode b_S_requires 10 = .ok (.baload, 1) := by decide +kernel
theorem d_S_requires_11 : decode b_S_requires 11 = .ok (.ireturn, 1) := by decide +kernel
theorem d_S_append_0 : decode b_S_append 0 = .ok (.aload_n 0, 1) := by decide +kernel
theorem d_S_append_1 : decode b_S_append 1 = .ok (.getfield 9, 3) := by decide +kernel
theorem d_S_append_4 : decode b_S_append 4 = .ok (.iload_n 1, 1) := by decide +kernel
theorem d_S_append_5 : decode b_S_append 5 = .ok (.iaload, 1) := by decide +kernel
theorem d_S_append_6 : decode b_S_append 6 = .ok (.istore 5, 2) := by decide +kernel
theorem d_S_append_8 : decode b_S_append 8 = .ok (.iload_n 1, 1) := by decide +kernel
theorem d_S_append_9 : decode b_S_append 9 = .ok (.bipush 6, 2) := by decide +kernel
theorem d_S_append_11 : decode b_S_append 11 = .ok (.imul, 1) := by decide +kernel
theorem d_S_append_12 : decode b_S_append 12 = .ok (.iload 5, 2) := by decide +kernel
theorem d_S_append_14 : decode b_S_append 14 = .ok (.iadd, 1) := by decide +kernel
theorem d_S_append_15 : decode b_S_append 15 = .ok (.istore 6, 2) := by decide +kernel
theorem d_S_append_17 : decode b_S_append 17 = .ok (.aload_n 0, 1) := by decide +kernel
theorem d_S_append_18 : decode b_S_append 18 = .ok (.getfield 15, 3) := by decide +kernel
theorem d_S_append_21 : decode b_S_append 21 = .ok (.iload 6, 2) := by decide +kernel
theorem d_S_append_23 : decode b_S_append 23 = .ok (.iload_n 2, 1) := by decide +kernel
theorem d_S_append_24 : decode b_S_append 24 = .ok (.iastore, 1) := by decide +kernel
theorem d_S_append_25 : decode b_S_append 25 = .ok (.aload_n 0, 1) := by decide +kernel
theorem d_S_append_26 : decode b_S_append 26 = .ok (.getfield 18, 3) := by decide +kernel
theorem d_S_append_29 : decode b_S_append 29 = .ok (.iload 6, 2) := by decide +kernel
theorem d_S_append_31 : decode b_S_append 31 = .ok (.iload_n 3, 1) := by decide +kernel
theorem d_S_append_32 : decode b_S_append 32 = .ok (.iastore, 1) := by decide +kernel
theorem d_S_append_33 : decode b_S_append 33 = .ok (.aload_n 0, 1) := by decide +kernel
theorem d_S_append_34 : decode b_S_append 34 = .ok (.getfield 21, 3) := by decide +kernel
theorem d_S_append_37 : decode b_S_append 37 = .ok (.iload 6, 2) := by decide +kernel
theorem d_S_append_39 : decode b_S_append 39 = .ok (.iload 4, 2) := by decide +kernel
theorem d_S_append_41 : decode b_S_append 41 = .ok (.bastore, 1) := by decide +kernel
theorem d_S_append_42 : decode b_S_append 42 = .ok (.aload_n 0, 1) := by decide +kernel
theorem d_S_append_43 : decode b_S_append 43 = .ok (.getfield 9, 3) := by decide +kernel
theorem d_S_append_46 : decode b_S_append 46 = .ok (.iload_n 1, 1) := by decide +kernel
theorem d_S_append_47 : decode b_S_append 47 = .ok (.iload 5, 2) := by decide +kernel
theorem d_S_append_49 : decode b_S_append 49 = .ok (.iconst 1, 1) := by decide +kernel
theorem d_S_append_50 : decode b_S_append 50 = .ok (.iadd, 1) := by decide +kernel
theorem d_S_append_51 : decode b_S_append 51 = .ok (.iastore, 1) := by decide +kernel
theorem d_S_append_52 : decode b_S_append 52 = .ok (.iload 5, 2) := by decide +kernel
theorem d_S_append_54 : decode b_S_append 54 = .ok (.ireturn, 1) := by decide +kernel
theorem d_R_append_0 : decode b_R_append 0 = .ok (.aload_n 0, 1) := by decide +kernel
theorem d_R_append_1 : decode b_R_append 1 = .ok (.getfield 9, 3) := by decide +kernel
theorem d_R_append_4 : decode b_R_append 4 = .ok (.aload_n 0, 1) := by decide +kernel
theorem d_R_append_5 : decode b_R_append 5 = .ok (.getfield 33, 3) := by decide +kernel
theorem d_R_append_8 : decode b_R_append 8 = .ok (.iload_n 1, 1) := by decide +kernel
theorem d_R_append_9 : decode b_R_append 9 = .ok (.iastore, 1) := by decide +kernel
theorem d_R_append_10 : decode b_R_append 10 = .ok (.aload_n 0, 1) := by decide +kernel
theorem d_R_append_11 : decode b_R_append 11 = .ok (.dup, 1) := by decide +kernel
theorem d_R_append_12 : decode b_R_append 12 = .ok (.getfield 33, 3) := by decide +kernel
theorem d_R_append_15 : decode b_R_append 15 = .ok (.iconst 1, 1) := by decide +kernel
theorem d_R_append_16 : decode b_R_append 16 = .ok (.iadd, 1) := by decide +kernel
theorem d_R_append_17 : decode b_R_append 17 = .ok (.putfield 33, 3) := by decide +kernel
theorem d_R_append_20 : decode b_R_append 20 = .ok (.aload_n 0, 1) := by decide +kernel
theorem d_R_append_21 : decode b_R_append 21 = .ok (.getfield 33, 3) := by decide +kernel
theorem d_R_append_24 : decode b_R_append 24 = .ok (.iconst 1, 1) := by decide +kernel
theorem d_R_append_25 : decode b_R_append 25 = .ok (.isub, 1) := by decide +kernel
theorem d_R_append_26 : decode b_R_append 26 = .ok (.ireturn, 1) := by decide +kernel
theorem d_R_holds_0 : decode b_R_holds 0 = .ok (.iload_n 1, 1) := by decide +kernel
theorem d_R_holds_1 : decode b_R_holds 1 = .ok (.ifCond .lt 15, 3) := by decide +kernel
theorem d_R_holds_4 : decode b_R_holds 4 = .ok (.iload_n 1, 1) := by decide +kernel
theorem d_R_holds_5 : decode b_R_holds 5 = .ok (.aload_n 0, 1) := by decide +kernel
theorem d_R_holds_6 : decode b_R_holds 6 = .ok (.getfield 33, 3) := by decide +kernel
theorem d_R_holds_9 : decode b_R_holds 9 = .ok (.if_icmp .ge 7, 3) := by decide +kernel
theorem d_R_holds_12 : decode b_R_holds 12 = .ok (.iconst 1, 1) := by decide +kernel
theorem d_R_holds_13 : decode b_R_holds 13 = .ok (.goto 4, 3) := by decide +kernel
theorem d_R_holds_16 : decode b_R_holds 16 = .ok (.iconst 0, 1) := by decide +kernel
theorem d_R_holds_17 : decode b_R_holds 17 = .ok (.ireturn, 1) := by decide +kernel
theorem d_R_tableOf_0 : decode b_R_tableOf 0 = .ok (.aload_n 0, 1) := by decide +kernel
theorem d_R_tableOf_1 : decode b_R_tableOf 1 = .ok (.getfield 9, 3) := by decide +kernel
theorem d_R_tableOf_4 : decode b_R_tableOf 4 = .ok (.iload_n 1, 1) := by decide +kernel
theorem d_R_tableOf_5 : decode b_R_tableOf 5 = .ok (.iaload, 1) := by decide +kernel
theorem d_R_tableOf_6 : decode b_R_tableOf 6 = .ok (.ireturn, 1) := by decide +kernel
theorem d_R_keepNumber_0 : decode b_R_keepNumber 0 = .ok (.aload_n 0, 1) := by decide +kernel
theorem d_R_keepNumber_1 : decode b_R_keepNumber 1 = .ok (.getfield 15, 3) := by decide +kernel
theorem d_R_keepNumber_4 : decode b_R_keepNumber 4 = .ok (.iload_n 1, 1) := by decide +kernel
theorem d_R_keepNumber_5 : decode b_R_keepNumber 5 = .ok (.iconst 1, 1) := by decide +kernel
theorem d_R_keepNumber_6 : decode b_R_keepNumber 6 = .ok (.bastore, 1) := by decide +kernel
theorem d_R_keepNumber_7 : decode b_R_keepNumber 7 = .ok (.aload_n 0, 1) := by decide +kernel
theorem d_R_keepNumber_8 : decode b_R_keepNumber 8 = .ok (.getfield 19, 3) := by decide +kernel
theorem d_R_keepNumber_11 : decode b_R_keepNumber 11 = .ok (.iload_n 1, 1) := by decide +kernel
theorem d_R_keepNumber_12 : decode b_R_keepNumber 12 = .ok (.lload_n 2, 1) := by decide +kernel
theorem d_R_keepNumber_13 : decode b_R_keepNumber 13 = .ok (.lastore, 1) := by decide +kernel
theorem d_R_keepNumber_14 : decode b_R_keepNumber 14 = .ok (.return_, 1) := by decide +kernel
theorem d_R_keepLink_0 : decode b_R_keepLink 0 = .ok (.aload_n 0, 1) := by decide +kernel
theorem d_R_keepLink_1 : decode b_R_keepLink 1 = .ok (.getfield 15, 3) := by decide +kernel
theorem d_R_keepLink_4 : decode b_R_keepLink 4 = .ok (.iload_n 1, 1) := by decide +kernel
theorem d_R_keepLink_5 : decode b_R_keepLink 5 = .ok (.iconst 1, 1) := by decide +kernel
theorem d_R_keepLink_6 : decode b_R_keepLink 6 = .ok (.bastore, 1) := by decide +kernel
theorem d_R_keepLink_7 : decode b_R_keepLink 7 = .ok (.aload_n 0, 1) := by decide +kernel
theorem d_R_keepLink_8 : decode b_R_keepLink 8 = .ok (.getfield 23, 3) := by decide +kernel
theorem d_R_keepLink_11 : decode b_R_keepLink 11 = .ok (.iload_n 1, 1) := by decide +kernel
theorem d_R_keepLink_12 : decode b_R_keepLink 12 = .ok (.iload_n 2, 1) := by decide +kernel
theorem d_R_keepLink_13 : decode b_R_keepLink 13 = .ok (.iastore, 1) := by decide +kernel
theorem d_R_keepLink_14 : decode b_R_keepLink 14 = .ok (.return_, 1) := by decide +kernel
theorem d_R_forget_0 : decode b_R_forget 0 = .ok (.aload_n 0, 1) := by decide +kernel
theorem d_R_forget_1 : decode b_R_forget 1 = .ok (.getfield 15, 3) := by decide +kernel
theorem d_R_forget_4 : decode b_R_forget 4 = .ok (.iload_n 1, 1) := by decide +kernel
theorem d_R_forget_5 : decode b_R_forget 5 = .ok (.baload, 1) := by decide +kernel
theorem d_R_forget_6 : decode b_R_forget 6 = .ok (.istore_n 2, 1) := by decide +kernel
theorem d_R_forget_7 : decode b_R_forget 7 = .ok (.aload_n 0, 1) := by decide +kernel
theorem d_R_forget_8 : decode b_R_forget 8 = .ok (.getfield 15, 3) := by decide +kernel
theorem d_R_forget_11 : decode b_R_forget 11 = .ok (.iload_n 1, 1) := by decide +kernel
theorem d_R_forget_12 : decode b_R_forget 12 = .ok (.iconst 0, 1) := by decide +kernel
theorem d_R_forget_13 : decode b_R_forget 13 = .ok (.bastore, 1) := by decide +kernel
theorem d_R_forget_14 : decode b_R_forget 14 = .ok (.iload_n 2, 1) := by decide +kernel
theorem d_R_forget_15 : decode b_R_forget 15 = .ok (.ireturn, 1) := by decide +kernel
theorem d_P_append_0 : decode b_P_append 0 = .ok (.aload_n 0, 1) := by decide +kernel
theorem d_P_append_1 : decode b_P_append 1 = .ok (.getfield 9, 3) := by decide +kernel
theorem d_P_append_4 : decode b_P_append 4 = .ok (.aload_n 0, 1) := by decide +kernel
theorem d_P_append_5 : decode b_P_append 5 = .ok (.getfield 15, 3) := by decide +kernel
theorem d_P_append_8 : decode b_P_append 8 = .ok (.iload_n 1, 1) := by decide +kernel
theorem d_P_append_9 : decode b_P_append 9 = .ok (.sastore, 1) := by decide +kernel
theorem d_P_append_10 : decode b_P_append 10 = .ok (.aload_n 0, 1) := by decide +kernel
theorem d_P_append_11 : decode b_P_append 11 = .ok (.dup, 1) := by decide +kernel
theorem d_P_append_12 : decode b_P_append 12 = .ok (.getfield 15, 3) := by decide +kernel
theorem d_P_append_15 : decode b_P_append 15 = .ok (.iconst 1, 1) := by decide +kernel
theorem d_P_append_16 : decode b_P_append 16 = .ok (.iadd, 1) := by decide +kernel
theorem d_P_append_17 : decode b_P_append 17 = .ok (.putfield 15, 3) := by decide +kernel
theorem d_P_append_20 : decode b_P_append 20 = .ok (.return_, 1) := by decide +kernel
theorem d_C_leave_0 : decode b_C_leave 0 = .ok (.aload_n 0, 1) := by decide +kernel
theorem d_C_leave_1 : decode b_C_leave 1 = .ok (.iconst 0, 1) := by decide +kernel
theorem d_C_leave_2 : decode b_C_leave 2 = .ok (.putfield 7, 3) := by decide +kernel
theorem d_C_leave_5 : decode b_C_leave 5 = .ok (.return_, 1) := by decide +kernel
theorem d_C_go_0 : decode b_C_go 0 = .ok (.aload_n 0, 1) := by decide +kernel
theorem d_C_go_1 : decode b_C_go 1 = .ok (.iload_n 1, 1) := by decide +kernel
theorem d_C_go_2 : decode b_C_go 2 = .ok (.putfield 27, 3) := by decide +kernel
theorem d_C_go_5 : decode b_C_go 5 = .ok (.aload_n 0, 1) := by decide +kernel
theorem d_C_go_6 : decode b_C_go 6 = .ok (.iload_n 2, 1) := by decide +kernel
theorem d_C_go_7 : decode b_C_go 7 = .ok (.putfield 30, 3) := by decide +kernel
theorem d_C_go_10 : decode b_C_go 10 = .ok (.return_, 1) := by decide +kernel
theorem d_C_goFirst_0 : decode b_C_goFirst 0 = .ok (.aload_n 0, 1) := by decide +kernel
theorem d_C_goFirst_1 : decode b_C_goFirst 1 = .ok (.aload_n 0, 1) := by decide +kernel
theorem d_C_goFirst_2 : decode b_C_goFirst 2 = .ok (.getfield 13, 3) := by decide +kernel
theorem d_C_goFirst_5 : decode b_C_goFirst 5 = .ok (.aload_n 0, 1) := by decide +kernel
theorem d_C_goFirst_6 : decode b_C_goFirst 6 = .ok (.getfield 17, 3) := by decide +kernel
theorem d_C_goFirst_9 : decode b_C_goFirst 9 = .ok (.invokevirtual 23, 3) := by decide +kernel
theorem d_C_goFirst_12 : decode b_C_goFirst 12 = .ok (.return_, 1) := by decide +kernel
theorem d_C_enter_0 : decode b_C_enter 0 = .ok (.aload_n 0, 1) := by decide +kernel
theorem d_C_enter_1 : decode b_C_enter 1 = .ok (.iconst 1, 1) := by decide +kernel
theorem d_C_enter_2 : decode b_C_enter 2 = .ok (.putfield 7, 3) := by decide +kernel
theorem d_C_enter_5 : decode b_C_enter 5 = .ok (.aload_n 0, 1) := by decide +kernel
theorem d_C_enter_6 : decode b_C_enter 6 = .ok (.iload_n 1, 1) := by decide +kernel
theorem d_C_enter_7 : decode b_C_enter 7 = .ok (.putfield 13, 3) := by decide +kernel
theorem d_C_enter_10 : decode b_C_enter 10 = .ok (.aload_n 0, 1) := by decide +kernel
theorem d_C_enter_11 : decode b_C_enter 11 = .ok (.iload_n 2, 1) := by decide +kernel
theorem d_C_enter_12 : decode b_C_enter 12 = .ok (.putfield 17, 3) := by decide +kernel
theorem d_C_enter_15 : decode b_C_enter 15 = .ok (.aload_n 0, 1) := by decide +kernel
theorem d_C_enter_16 : decode b_C_enter 16 = .ok (.invokevirtual 20, 3) := by decide +kernel
theorem d_C_enter_19 : decode b_C_enter 19 = .ok (.return_, 1) := by decide +kernel
theorem d_F_isTable_0 : decode b_F_isTable 0 = .ok (.iload_n 0, 1) := by decide +kernel
theorem d_F_isTable_1 : decode b_F_isTable 1 = .ok (.ifCond .lt 12, 3) := by decide +kernel
theorem d_F_isTable_4 : decode b_F_isTable 4 = .ok (.iload_n 0, 1) := by decide +kernel
theorem d_F_isTable_5 : decode b_F_isTable 5 = .ok (.iconst 4, 1) := by decide +kernel
theorem d_F_isTable_6 : decode b_F_isTable 6 = .ok (.if_icmp .ge 7, 3) := by decide +kernel
theorem d_F_isTable_9 : decode b_F_isTable 9 = .ok (.iconst 1, 1) := by decide +kernel
theorem d_F_isTable_10 : decode b_F_isTable 10 = .ok (.goto 4, 3) := by decide +kernel
theorem d_F_isTable_13 : decode b_F_isTable 13 = .ok (.iconst 0, 1) := by decide +kernel
theorem d_F_isTable_14 : decode b_F_isTable 14 = .ok (.ireturn, 1) := by decide +kernel
theorem d_F_slotOf_0 : decode b_F_slotOf 0 = .ok (.iload_n 0, 1) := by decide +kernel
theorem d_F_slotOf_1 : decode b_F_slotOf 1 = .ok (.bipush 6, 2) := by decide +kernel
theorem d_F_slotOf_3 : decode b_F_slotOf 3 = .ok (.imul, 1) := by decide +kernel
theorem d_F_slotOf_4 : decode b_F_slotOf 4 = .ok (.iload_n 1, 1) := by decide +kernel
theorem d_F_slotOf_5 : decode b_F_slotOf 5 = .ok (.iadd, 1) := by decide +kernel
theorem d_F_slotOf_6 : decode b_F_slotOf 6 = .ok (.ireturn, 1) := by decide +kernel
theorem d_F_broughtIntoRange_0 : decode b_F_broughtIntoRange 0 = .ok (.iload_n 0, 1) := by decide +kernel
theorem d_F_broughtIntoRange_1 : decode b_F_broughtIntoRange 1 = .ok (.tableswitch 41 0 2 #[27, 32, 37], 27) := by decide +kernel
theorem d_F_broughtIntoRange_28 : decode b_F_broughtIntoRange 28 = .ok (.lload_n 1, 1) := by decide +kernel
theorem d_F_broughtIntoRange_29 : decode b_F_broughtIntoRange 29 = .ok (.l2i, 1) := by decide +kernel
theorem d_F_broughtIntoRange_30 : decode b_F_broughtIntoRange 30 = .ok (.i2b, 1) := by decide +kernel
theorem d_F_broughtIntoRange_31 : decode b_F_broughtIntoRange 31 = .ok (.i2l, 1) := by decide +kernel
theorem d_F_broughtIntoRange_32 : decode b_F_broughtIntoRange 32 = .ok (.lreturn, 1) := by decide +kernel
theorem d_F_broughtIntoRange_33 : decode b_F_broughtIntoRange 33 = .ok (.lload_n 1, 1) := by decide +kernel
theorem d_F_broughtIntoRange_34 : decode b_F_broughtIntoRange 34 = .ok (.l2i, 1) := by decide +kernel
theorem d_F_broughtIntoRange_35 : decode b_F_broughtIntoRange 35 = .ok (.i2s, 1) := by decide +kernel
theorem d_F_broughtIntoRange_36 : decode b_F_broughtIntoRange 36 = .ok (.i2l, 1) := by decide +kernel
theorem d_F_broughtIntoRange_37 : decode b_F_broughtIntoRange 37 = .ok (.lreturn, 1) := by decide +kernel
theorem d_F_broughtIntoRange_38 : decode b_F_broughtIntoRange 38 = .ok (.lload_n 1, 1) := by decide +kernel
theorem d_F_broughtIntoRange_39 : decode b_F_broughtIntoRange 39 = .ok (.l2i, 1) := by decide +kernel
theorem d_F_broughtIntoRange_40 : decode b_F_broughtIntoRange 40 = .ok (.i2l, 1) := by decide +kernel
theorem d_F_broughtIntoRange_41 : decode b_F_broughtIntoRange 41 = .ok (.lreturn, 1) := by decide +kernel
theorem d_F_broughtIntoRange_42 : decode b_F_broughtIntoRange 42 = .ok (.lload_n 1, 1) := by decide +kernel
theorem d_F_broughtIntoRange_43 : decode b_F_broughtIntoRange 43 = .ok (.lreturn, 1) := by decide +kernel
theorem d_S_fieldsInAll_0 : decode b_S_fieldsInAll 0 = .ok (.iconst 0, 1) := by decide +kernel
theorem d_S_fieldsInAll_1 : decode b_S_fieldsInAll 1 = .ok (.istore_n 1, 1) := by decide +kernel
theorem d_S_fieldsInAll_2 : decode b_S_fieldsInAll 2 = .ok (.iconst 0, 1) := by decide +kernel
theorem d_S_fieldsInAll_3 : decode b_S_fieldsInAll 3 = .ok (.istore_n 2, 1) := by decide +kernel
theorem d_S_fieldsInAll_4 : decode b_S_fieldsInAll 4 = .ok (.iload_n 2, 1) := by decide +kernel
theorem d_S_fieldsInAll_5 : decode b_S_fieldsInAll 5 = .ok (.iconst 4, 1) := by decide +kernel
theorem d_S_fieldsInAll_6 : decode b_S_fieldsInAll 6 = .ok (.if_icmp .ge 18, 3) := by decide +kernel
theorem d_S_fieldsInAll_9 : decode b_S_fieldsInAll 9 = .ok (.iload_n 1, 1) := by decide +kernel
theorem d_S_fieldsInAll_10 : decode b_S_fieldsInAll 10 = .ok (.aload_n 0, 1) := by decide +kernel
theorem d_S_fieldsInAll_11 : decode b_S_fieldsInAll 11 = .ok (.getfield 9, 3) := by decide +kernel
theorem d_S_fieldsInAll_14 : decode b_S_fieldsInAll 14 = .ok (.iload_n 2, 1) := by decide +kernel
theorem d_S_fieldsInAll_15 : decode b_S_fieldsInAll 15 = .ok (.iaload, 1) := by decide +kernel
theorem d_S_fieldsInAll_16 : decode b_S_fieldsInAll 16 = .ok (.iadd, 1) := by decide +kernel
theorem d_S_fieldsInAll_17 : decode b_S_fieldsInAll 17 = .ok (.istore_n 1, 1) := by decide +kernel
theorem d_S_fieldsInAll_18 : decode b_S_fieldsInAll 18 = .ok (.iinc 2 1, 3) := by decide +kernel
theorem d_S_fieldsInAll_21 : decode b_S_fieldsInAll 21 = .ok (.goto (-17), 3) := by decide +kernel
theorem d_S_fieldsInAll_24 : decode b_S_fieldsInAll 24 = .ok (.iload_n 1, 1) := by decide +kernel
theorem d_S_fieldsInAll_25 : decode b_S_fieldsInAll 25 = .ok (.ireturn, 1) := by decide +kernel
theorem d_R_keepItems_0 : decode b_R_keepItems 0 = .ok (.aload_n 0, 1) := by decide +kernel
theorem d_R_keepItems_1 : decode b_R_keepItems 1 = .ok (.getfield 15, 3) := by decide +kernel
theorem d_R_keepItems_4 : decode b_R_keepItems 4 = .ok (.iload_n 1, 1) := by decide +kernel
theorem d_R_keepItems_5 : decode b_R_keepItems 5 = .ok (.iconst 1, 1) := by decide +kernel
theorem d_R_keepItems_6 : decode b_R_keepItems 6 = .ok (.bastore, 1) := by decide +kernel
theorem d_R_keepItems_7 : decode b_R_keepItems 7 = .ok (.aload_n 0, 1) := by decide +kernel
theorem d_R_keepItems_8 : decode b_R_keepItems 8 = .ok (.getfield 26, 3) := by decide +kernel
theorem d_R_keepItems_11 : decode b_R_keepItems 11 = .ok (.iload_n 1, 1) := by decide +kernel
theorem d_R_keepItems_12 : decode b_R_keepItems 12 = .ok (.aload_n 2, 1) := by decide +kernel
theorem d_R_keepItems_13 : decode b_R_keepItems 13 = .ok (.getfield 37, 3) := by decide +kernel
theorem d_R_keepItems_16 : decode b_R_keepItems 16 = .ok (.iastore, 1) := by decide +kernel
theorem d_R_keepItems_17 : decode b_R_keepItems 17 = .ok (.iconst 0, 1) := by decide +kernel
theorem d_R_keepItems_18 : decode b_R_keepItems 18 = .ok (.istore 4, 2) := by decide +kernel
theorem d_R_keepItems_20 : decode b_R_keepItems 20 = .ok (.iload 4, 2) := by decide +kernel
theorem d_R_keepItems_22 : decode b_R_keepItems 22 = .ok (.aload_n 2, 1) := by decide +kernel
theorem d_R_keepItems_23 : decode b_R_keepItems 23 = .ok (.getfield 37, 3) := by decide +kernel
theorem d_R_keepItems_26 : decode b_R_keepItems 26 = .ok (.if_icmp .ge 31, 3) := by decide +kernel
theorem d_R_keepItems_29 : decode b_R_keepItems 29 = .ok (.aload_n 0, 1) := by decide +kernel
theorem d_R_keepItems_30 : decode b_R_keepItems 30 = .ok (.getfield 29, 3) := by decide +kernel
theorem d_R_keepItems_33 : decode b_R_keepItems 33 = .ok (.iload_n 1, 1) := by decide +kernel
theorem d_R_keepItems_34 : decode b_R_keepItems 34 = .ok (.bipush 12, 2) := by decide +kernel
theorem d_R_keepItems_36 : decode b_R_keepItems 36 = .ok (.imul, 1) := by decide +kernel
theorem d_R_keepItems_37 : decode b_R_keepItems 37 = .ok (.iload 4, 2) := by decide +kernel
theorem d_R_keepItems_39 : decode b_R_keepItems 39 = .ok (.iadd, 1) := by decide +kernel
theorem d_R_keepItems_40 : decode b_R_keepItems 40 = .ok (.aload_n 2, 1) := by decide +kernel
theorem d_R_keepItems_41 : decode b_R_keepItems 41 = .ok (.getfield 42, 3) := by decide +kernel
theorem d_R_keepItems_44 : decode b_R_keepItems 44 = .ok (.iload 4, 2) := by decide +kernel
theorem d_R_keepItems_46 : decode b_R_keepItems 46 = .ok (.saload, 1) := by decide +kernel
theorem d_R_keepItems_47 : decode b_R_keepItems 47 = .ok (.iload_n 3, 1) := by decide +kernel
theorem d_R_keepItems_48 : decode b_R_keepItems 48 = .ok (.iand, 1) := by decide +kernel
theorem d_R_keepItems_49 : decode b_R_keepItems 49 = .ok (.i2s, 1) := by decide +kernel
theorem d_R_keepItems_50 : decode b_R_keepItems 50 = .ok (.sastore, 1) := by decide +kernel
theorem d_R_keepItems_51 : decode b_R_keepItems 51 = .ok (.iinc 4 1, 3) := by decide +kernel
theorem d_R_keepItems_54 : decode b_R_keepItems 54 = .ok (.goto (-34), 3) := by decide +kernel
theorem d_R_keepItems_57 : decode b_R_keepItems 57 = .ok (.return_, 1) := by decide +kernel
theorem m_S_fieldsOf : kIV y_S_fieldsOf b_S_fieldsOf 2 (some .int) 1 := ⟨⟨wd_f635462e, wd_6c64a5de, ⟨by decide, by decide⟩, by decide +kernel⟩, wd_1551cc84, wd_c737bf1e⟩
theorem m_S_holds : kIV y_S_holds b_S_holds 3 (some .boolean) 2 := ⟨⟨wd_f7045226, wd_6c64a5de, ⟨by decide, by decide⟩, by decide +kernel⟩, wd_5773390c, wd_2561f04f⟩
theorem m_S_kindOf : kIV y_S_kindOf b_S_kindOf 3 (some .int) 2 := ⟨⟨wd_982aeb95, wd_6c64a5de, ⟨by decide, by decide⟩, by decide +kernel⟩, wd_06119309, wd_bacb136c⟩
theorem m_S_extraOf : kIV y_S_extraOf b_S_extraOf 3 (some .int) 2 := ⟨⟨wd_17faacb2, wd_6c64a5de, ⟨by decide, by decide⟩, by decide +kernel⟩, wd_674288f3, wd_62a3d3d5⟩
theorem m_S_requires : kIV y_S_requires b_S_requires 3 (some .boolean) 2 := ⟨⟨wd_22b6005a, wd_6c64a5de, ⟨by decide, by decide⟩, by decide +kernel⟩, wd_eea9b9b9, wd_e002d613⟩
theorem m_S_append : kIV y_S_append b_S_append 7 (some .int) 4 := ⟨⟨wd_35326517, wd_6c64a5de, ⟨by decide, by decide⟩, by decide +kernel⟩, wd_1ec53f02, wd_369ad0c7⟩
theorem m_R_append : kIV y_R_append b_R_append 2 (some .int) 1 := ⟨⟨wd_59a193e9, wd_b0720e32, ⟨by decide, by decide⟩, by decide +kernel⟩, wd_73db6447, wd_29c1e0fd⟩
theorem m_R_holds : kIV y_R_holds b_R_holds 2 (some .boolean) 1 := ⟨⟨wd_5f6be15f, wd_b0720e32, ⟨by decide, by decide⟩, by decide +kernel⟩, wd_9f2c2481, wd_9a5ea124⟩
theorem m_R_tableOf : kIV y_R_tableOf b_R_tableOf 2 (some .int) 1 := ⟨⟨wd_9892f0ac, wd_b0720e32, ⟨by decide, by decide⟩, by decide +kernel⟩, wd_6be68a19, wd_19eff144⟩
theorem m_R_keepNumber : kIV y_R_keepNumber b_R_keepNumber 4 none 2 := ⟨⟨wd_419617d1, wd_b0720e32, ⟨by decide, by decide⟩, by decide +kernel⟩, wd_3509e45e, wd_22da9b42⟩
theorem m_R_keepLink : kIV y_R_keepLink b_R_keepLink 3 none 2 := ⟨⟨wd_91329a03, wd_b0720e32, ⟨by decide, by decide⟩, by decide +kernel⟩, wd_af3299ff, wd_4b5b26f5⟩
theorem m_R_forget : kIV y_R_forget b_R_forget 3 (some .boolean) 1 := ⟨⟨wd_c9b14da8, wd_b0720e32, ⟨by decide, by decide⟩, by decide +kernel⟩, wd_5b4b9001, wd_29ede197⟩
theorem m_P_append : kIV y_P_append b_P_append 2 none 1 := ⟨⟨wd_2af87f42, wd_032e7381, ⟨by decide, by decide⟩, by decide +kernel⟩, wd_567346f5, wd_301c53b8⟩
theorem m_C_leave : kIV y_C_leave b_C_leave 1 none 0 := ⟨⟨wd_0dcad2e9, wd_5afdb55a, ⟨by decide, by decide⟩, by decide +kernel⟩, wd_0abfbd13, wd_3ca6af02⟩
theorem m_C_go : kIV y_C_go b_C_go 3 none 2 := ⟨⟨wd_c0fd7242, wd_5afdb55a, ⟨by decide, by decide⟩, by decide +kernel⟩, wd_b95c1f96, wd_9ce12b3d⟩
theorem m_C_goFirst : kIV y_C_goFirst b_C_goFirst 1 none 0 := ⟨⟨wd_cc089104, wd_5afdb55a, ⟨by decide, by decide⟩, by decide +kernel⟩, wd_28251666, wd_6abdf576⟩
theorem m_C_enter : kIV y_C_enter b_C_enter 3 none 2 := ⟨⟨wd_c899e962, wd_5afdb55a, ⟨by decide, by decide⟩, by decide +kernel⟩, wd_fd9fa14e, wd_0375f3c3⟩
theorem m_F_isTable : kIS y_F_isTable b_F_isTable 1 (some .boolean) 1 := ⟨⟨wd_feea5cf0, wd_c1885a87, ⟨by decide, by decide⟩, by decide +kernel⟩, wd_76ea94ab⟩
theorem m_F_slotOf : kIS y_F_slotOf b_F_slotOf 2 (some .int) 2 := ⟨⟨wd_410dd410, wd_c1885a87, ⟨by decide, by decide⟩, by decide +kernel⟩, wd_040ea7b0⟩
theorem m_F_broughtIntoRange : kIS y_F_broughtIntoRange b_F_broughtIntoRange 3 (some .long) 2 := ⟨⟨wd_6314fefb, wd_c1885a87, ⟨by decide, by decide⟩, by decide +kernel⟩, wd_da79dbb2⟩
theorem m_S_fieldsInAll : kIV y_S_fieldsInAll b_S_fieldsInAll 3 (some .int) 0 := ⟨⟨wd_709aa1e6, wd_6c64a5de, ⟨by decide, by decide⟩, by decide +kernel⟩, wd_e7399df9, wd_178cc4a6⟩
theorem m_R_keepItems : kIV y_R_keepItems b_R_keepItems 5 none 3 := ⟨⟨wd_89aa6b28, wd_b0720e32, ⟨by decide, by decide⟩, by decide +kernel⟩, wd_32dc26cd, wd_1304d15f⟩
set_option maxHeartbeats 4000000 in
set_option maxRecDepth 100000 in
theorem c_Schema_fieldsOf (l : Launch) (D : va_G) (a : Nat → Nat) (g : Nat → ClassId) (tw : Nat) (sLen sKind : Nat → Nat) (sExt : Nat → Int32) (sMust : Nat → Bool) (rTab : Nat → Nat) (rFil : Nat → Bool) (rNum : Nat → Int64) (rLnk rLen : Nat → Nat) (rItm : Nat → Int32) (made : Nat) (pItm : Nat → Int32) (held : Nat) (dByt : Nat → Nat) (dLen : Nat) (bByt : Nat → Nat) (bRea : Nat → Bool) (bRec bItm bFld bOff bOfp : Nat → Nat) (kept wrt wid ent : Nat) (ver : Bool) (fAdr fTab adr tab : Nat) (lf : Int32) (t : Nat)  (ht : t < 4) : kM l y_S_fieldsOf b_S_fieldsOf 2 (some .int) ({ frames := 0, cells := 0, slots := 0, locals := 0 }) D vwCl (WdT g) tw [.ref (a 1), .int (nI t)] (Wd a g sLen sKind sExt sMust rTab rFil rNum rLnk rLen rItm made pItm held dByt dLen bByt bRea bRec bItm bFld bOff bOfp kept wrt wid ent ver fAdr fTab adr tab lf) (some (.int (nI (sLen t)))) (Wd a g sLen sKind sExt sMust rTab rFil rNum rLnk rLen rItm made pItm held dByt dLen bByt bRea bRec bItm bFld bOff bOfp kept wrt wid ent ver fAdr fTab adr tab lf) := by
  refine k_of (by decide) (Nat.le_of_ble_eq_true rfl) ?_
  intro p e s m below meth c A ls hx hb hr hlocks hml hts hown hin0 hA hP hK hD hS hZ hl
  have hl : lv_has ls 2 [(0, .ref (a 1)), (1, .int (nI t))] := hl
  refine lv_aload_n hx hb d_S_fieldsOf_0 rfl (lv_at hl 0 rfl) ?_
  refine va_get (D := D) (ci := 1) (C := R_S) (T := T_S) (N := 4) hx hb hts (fun w h => kT w (i_S w h)) hown hK hP 1 rfl rfl 0 (by decide) (hts _ (kT _ wd_4fbeb0bc)) (fun _ h9 => h9) rfl d_S_fieldsOf_1 ?_
  refine lv_iload_n hx hb d_S_fieldsOf_4 rfl (lv_at hl 1 rfl) ?_
  refine n_iald hx hb hK hP 8 0 rfl rfl (i := t) (by omega) (by decide) d_S_fieldsOf_5 ?_
  exact k_iret hx hb hr hlocks hK hP hD hS (trivial) (rfl) (rfl) d_S_fieldsOf_6
set_option maxHeartbeats 4000000 in
set_option maxRecDepth 100000 in
theorem c_Schema_holds (l : Launch) (D : va_G) (a : Nat → Nat) (g : Nat → ClassId) (tw : Nat) (sLen sKind : Nat → Nat) (sExt : Nat → Int32) (sMust : Nat → Bool) (rTab : Nat → Nat) (rFil : Nat → Bool) (rNum : Nat → Int64) (rLnk rLen : Nat → Nat) (rItm : Nat → Int32) (made : Nat) (pItm : Nat → Int32) (held : Nat) (dByt : Nat → Nat) (dLen : Nat) (bByt : Nat → Nat) (bRea : Nat → Bool) (bRec bItm bFld bOff bOfp : Nat → Nat) (kept wrt wid ent : Nat) (ver : Bool) (fAdr fTab adr tab : Nat) (lf : Int32) (t : Nat) (x : Int32)  (ht : t < 4) : kM l y_S_holds b_S_holds 3 (some .boolean) ({ frames := 0, cells := 0, slots := 0, locals := 0 }) D vwCl (WdT g) tw [.ref (a 1), .int (nI t), .int x] (Wd a g sLen sKind sExt sMust rTab rFil rNum rLnk rLen rItm made pItm held dByt dLen bByt bRea bRec bItm bFld bOff bOfp kept wrt wid ent ver fAdr fTab adr tab lf) (some (.int (bI (hasF (sLen t) x)))) (Wd a g sLen sKind sExt sMust rTab rFil rNum rLnk rLen rItm made pItm held dByt dLen bByt bRea bRec bItm bFld bOff bOfp kept wrt wid ent ver fAdr fTab adr tab lf) := by
  refine k_of (by decide) (Nat.le_of_ble_eq_true rfl) ?_
  intro p e s m below meth c A ls hx hb hr hlocks hml hts hown hin0 hA hP hK hD hS hZ hl
  have hl : lv_has ls 3 [(0, .ref (a 1)), (1, .int (nI t)), (2, .int x)] := hl
  refine lv_iload_n hx hb d_S_holds_0 rfl (lv_at hl 2 rfl) ?_
  refine lv_if_lt (tgt := 18) hx hb d_S_holds_1 (by decide) (fun c_1 => ?_) (fun c_1 => ?_)
  · skip
    refine lv_iconst (v := nI 0) hx hb d_S_holds_18 (by decide) ?_
    exact k_zret hx hb hr hlocks hK hP hD hS (trivial) (by rw [nI_bI0]; congr 1; simp [hasF, c_1]) (rfl) (bI_nar _) d_S_holds_19
  · skip
    refine lv_iload_n hx hb d_S_holds_4 rfl (lv_at hl 2 rfl) ?_
    refine lv_aload_n hx hb d_S_holds_5 rfl (lv_at hl 0 rfl) ?_
    refine va_get (D := D) (ci := 1) (C := R_S) (T := T_S) (N := 4) hx hb hts (fun w h => kT w (i_S w h)) hown hK hP 1 rfl rfl 0 (by decide) (hts _ (kT _ wd_4fbeb0bc)) (fun _ h9 => h9) rfl d_S_holds_6 ?_
    refine lv_iload_n hx hb d_S_holds_9 rfl (lv_at hl 1 rfl) ?_
    refine n_iald hx hb hK hP 8 0 rfl rfl (i := t) (by omega) (by decide) d_S_holds_10 ?_
    refine lv_icmp_ge (tgt := 18) hx hb d_S_holds_11 (by decide) (fun c_11 => ?_) (fun c_11 => ?_)
    · skip
      refine lv_iconst (v := nI 0) hx hb d_S_holds_18 (by decide) ?_
      exact k_zret hx hb hr hlocks hK hP hD hS (trivial) (by rw [nI_bI0]; congr 1; simp [hasF, c_1, c_11]) (rfl) (bI_nar _) d_S_holds_19
    · skip
      refine lv_iconst (v := nI 1) hx hb d_S_holds_14 (by decide) ?_
      refine lv_goto (tgt := 19) hx hb d_S_holds_15 (by decide) ?_
      exact k_zret hx hb hr hlocks hK hP hD hS (trivial) (by rw [nI_bI1]; congr 1; simp [hasF, c_1, c_11]) (rfl) (bI_nar _) d_S_holds_19
set_option maxHeartbeats 4000000 in
set_option maxRecDepth 100000 in
theorem c_Schema_kindOf (l : Launch) (D : va_G) (a : Nat → Nat) (g : Nat → ClassId) (tw : Nat) (sLen sKind : Nat → Nat) (sExt : Nat → Int32) (sMust : Nat → Bool) (rTab : Nat → Nat) (rFil : Nat → Bool) (rNum : Nat → Int64) (rLnk rLen : Nat → Nat) (rItm : Nat → Int32) (made : Nat) (pItm : Nat → Int32) (held : Nat) (dByt : Nat → Nat) (dLen : Nat) (bByt : Nat → Nat) (bRea : Nat → Bool) (bRec bItm bFld bOff bOfp : Nat → Nat) (kept wrt wid ent : Nat) (ver : Bool) (fAdr fTab adr tab : Nat) (lf : Int32) (t : Nat) (f : Nat)  (ht : t < 4) (hf : f < 6) : kM l y_S_kindOf b_S_kindOf 3 (some .int) ({ frames := 0, cells := 0, slots := 0, locals := 0 }) D vwCl (WdT g) tw [.ref (a 1), .int (nI t), .int (nI f)] (Wd a g sLen sKind sExt sMust rTab rFil rNum rLnk rLen rItm made pItm held dByt dLen bByt bRea bRec bItm bFld bOff bOfp kept wrt wid ent ver fAdr fTab adr tab lf) (some (.int (nI (sKind (t * 6 + f))))) (Wd a g sLen sKind sExt sMust rTab rFil rNum rLnk rLen rItm made pItm held dByt dLen bByt bRea bRec bItm bFld bOff bOfp kept wrt wid ent ver fAdr fTab adr tab lf) := by
  refine k_of (by decide) (Nat.le_of_ble_eq_true rfl) ?_
  intro p e s m below meth c A ls hx hb hr hlocks hml hts hown hin0 hA hP hK hD hS hZ hl
  have hl : lv_has ls 3 [(0, .ref (a 1)), (1, .int (nI t)), (2, .int (nI f))] := hl
  refine lv_aload_n hx hb d_S_kindOf_0 rfl (lv_at hl 0 rfl) ?_
  refine va_get (D := D) (ci := 1) (C := R_S) (T := T_S) (N := 4) hx hb hts (fun w h => kT w (i_S w h)) hown hK hP 1 rfl rfl 1 (by decide) (hts _ (kT _ wd_cb1e4a6d)) (fun _ h9 => h9) rfl d_S_kindOf_1 ?_
  refine lv_iload_n hx hb d_S_kindOf_4 rfl (lv_at hl 1 rfl) ?_
  refine lv_bipush (v := nI 6) hx hb d_S_kindOf_5 (by decide) ?_
  refine lv_imul hx hb d_S_kindOf_7 ?_
  refine lv_eqi (pk_mul _ _) ?_
  refine lv_iload_n hx hb d_S_kindOf_8 rfl (lv_at hl 2 rfl) ?_
  refine lv_iadd hx hb d_S_kindOf_9 ?_
  refine lv_eqi (nI_add _ _) ?_
  refine n_iald hx hb hK hP 9 1 rfl rfl (i := ((t * 6) + f)) (by omega) (by decide) d_S_kindOf_10 ?_
  exact k_iret hx hb hr hlocks hK hP hD hS (trivial) (rfl) (rfl) d_S_kindOf_11
set_option maxHeartbeats 4000000 in
set_option maxRecDepth 100000 in
theorem c_Schema_extraOf (l : Launch) (D : va_G) (a : Nat → Nat) (g : Nat → ClassId) (tw : Nat) (sLen sKind : Nat → Nat) (sExt : Nat → Int32) (sMust : Nat → Bool) (rTab : Nat → Nat) (rFil : Nat → Bool) (rNum : Nat → Int64) (rLnk rLen : Nat → Nat) (rItm : Nat → Int32) (made : Nat) (pItm : Nat → Int32) (held : Nat) (dByt : Nat → Nat) (dLen : Nat) (bByt : Nat → Nat) (bRea : Nat → Bool) (bRec bItm bFld bOff bOfp : Nat → Nat) (kept wrt wid ent : Nat) (ver : Bool) (fAdr fTab adr tab : Nat) (lf : Int32) (t : Nat) (f : Nat)  (ht : t < 4) (hf : f < 6) : kM l y_S_extraOf b_S_extraOf 3 (some .int) ({ frames := 0, cells := 0, slots := 0, locals := 0 }) D vwCl (WdT g) tw [.ref (a 1), .int (nI t), .int (nI f)] (Wd a g sLen sKind sExt sMust rTab rFil rNum rLnk rLen rItm made pItm held dByt dLen bByt bRea bRec bItm bFld bOff bOfp kept wrt wid ent ver fAdr fTab adr tab lf) (some (.int (sExt (t * 6 + f)))) (Wd a g sLen sKind sExt sMust rTab rFil rNum rLnk rLen rItm made pItm held dByt dLen bByt bRea bRec bItm bFld bOff bOfp kept wrt wid ent ver fAdr fTab adr tab lf) := by
  refine k_of (by decide) (Nat.le_of_ble_eq_true rfl) ?_
  intro p e s m below meth c A ls hx hb hr hlocks hml hts hown hin0 hA hP hK hD hS hZ hl
  have hl : lv_has ls 3 [(0, .ref (a 1)), (1, .int (nI t)), (2, .int (nI f))] := hl
  refine lv_aload_n hx hb d_S_extraOf_0 rfl (lv_at hl 0 rfl) ?_
  refine va_get (D := D) (ci := 1) (C := R_S) (T := T_S) (N := 4) hx hb hts (fun w h => kT w (i_S w h)) hown hK hP 1 rfl rfl 2 (by decide) (hts _ (kT _ wd_a662b943)) (fun _ h9 => h9) rfl d_S_extraOf_1 ?_
  refine lv_iload_n hx hb d_S_extraOf_4 rfl (lv_at hl 1 rfl) ?_
  refine lv_bipush (v := nI 6) hx hb d_S_extraOf_5 (by decide) ?_
  refine lv_imul hx hb d_S_extraOf_7 ?_
  refine lv_eqi (pk_mul _ _) ?_
  refine lv_iload_n hx hb d_S_extraOf_8 rfl (lv_at hl 2 rfl) ?_
  refine lv_iadd hx hb d_S_extraOf_9 ?_
  refine lv_eqi (nI_add _ _) ?_
  refine r_iald hx hb hK hP 10 2 rfl rfl (i := ((t * 6) + f)) (by omega) (by decide) d_S_extraOf_10 ?_
  exact k_iret hx hb hr hlocks hK hP hD hS (trivial) (rfl) (rfl) d_S_extraOf_11
set_option maxHeartbeats 4000000 in
set_option maxRecDepth 100000 in
theorem c_Schema_requires (l : Launch) (D : va_G) (a : Nat → Nat) (g : Nat → ClassId) (tw : Nat) (sLen sKind : Nat → Nat) (sExt : Nat → Int32) (sMust : Nat → Bool) (rTab : Nat → Nat) (rFil : Nat → Bool) (rNum : Nat → Int64) (rLnk rLen : Nat → Nat) (rItm : Nat → Int32) (made : Nat) (pItm : Nat → Int32) (held : Nat) (dByt : Nat → Nat) (dLen : Nat) (bByt : Nat → Nat) (bRea : Nat → Bool) (bRec bItm bFld bOff bOfp : Nat → Nat) (kept wrt wid ent : Nat) (ver : Bool) (fAdr fTab adr tab : Nat) (lf : Int32) (t : Nat) (f : Nat)  (ht : t < 4) (hf : f < 6) : kM l y_S_requires b_S_requires 3 (some .boolean) ({ frames := 0, cells := 0, slots := 0, locals := 0 }) D vwCl (WdT g) tw [.ref (a 1), .int (nI t), .int (nI f)] (Wd a g sLen sKind sExt sMust rTab rFil rNum rLnk rLen rItm made pItm held dByt dLen bByt bRea bRec bItm bFld bOff bOfp kept wrt wid ent ver fAdr fTab adr tab lf) (some (.int (bI (sMust (t * 6 + f))))) (Wd a g sLen sKind sExt sMust rTab rFil rNum rLnk rLen rItm made pItm held dByt dLen bByt bRea bRec bItm bFld bOff bOfp kept wrt wid ent ver fAdr fTab adr tab lf) := by
  refine k_of (by decide) (Nat.le_of_ble_eq_true rfl) ?_
  intro p e s m below meth c A ls hx hb hr hlocks hml hts hown hin0 hA hP hK hD hS hZ hl
  have hl : lv_has ls 3 [(0, .ref (a 1)), (1, .int (nI t)), (2, .int (nI f))] := hl
  refine lv_aload_n hx hb d_S_requires_0 rfl (lv_at hl 0 rfl) ?_
  refine va_get (D := D) (ci := 1) (C := R_S) (T := T_S) (N := 4) hx hb hts (fun w h => kT w (i_S w h)) hown hK hP 1 rfl rfl 3 (by decide) (hts _ (kT _ wd_a48a7739)) (fun _ h9 => h9) rfl d_S_requires_1 ?_
  refine lv_iload_n hx hb d_S_requires_4 rfl (lv_at hl 1 rfl) ?_
  refine lv_bipush (v := nI 6) hx hb d_S_requires_5 (by decide) ?_
  refine lv_imul hx hb d_S_requires_7 ?_
  refine lv_eqi (pk_mul _ _) ?_
  refine lv_iload_n hx hb d_S_requires_8 rfl (lv_at hl 2 rfl) ?_
  refine lv_iadd hx hb d_S_requires_9 ?_
  refine lv_eqi (nI_add _ _) ?_
  refine z_zald hx hb hK hP 11 3 rfl rfl (i := ((t * 6) + f)) (by omega) (by decide) d_S_requires_10 ?_
  exact k_zret hx hb hr hlocks hK hP hD hS (trivial) (rfl) (rfl) (bI_nar _) d_S_requires_11
set_option maxHeartbeats 4000000 in
set_option maxRecDepth 100000 in
theorem c_Schema_append (l : Launch) (D : va_G) (a : Nat → Nat) (g : Nat → ClassId) (tw : Nat) (sLen sKind : Nat → Nat) (sExt : Nat → Int32) (sMust : Nat → Bool) (rTab : Nat → Nat) (rFil : Nat → Bool) (rNum : Nat → Int64) (rLnk rLen : Nat → Nat) (rItm : Nat → Int32) (made : Nat) (pItm : Nat → Int32) (held : Nat) (dByt : Nat → Nat) (dLen : Nat) (bByt : Nat → Nat) (bRea : Nat → Bool) (bRec bItm bFld bOff bOfp : Nat → Nat) (kept wrt wid ent : Nat) (ver : Bool) (fAdr fTab adr tab : Nat) (lf : Int32) (t : Nat) (k : Nat) (x : Int32) (b : Bool)  (ht : t < 4) (hs : sLen t < 6) : kM l y_S_append b_S_append 7 (some .int) ({ frames := 0, cells := 0, slots := 0, locals := 0 }) D vwCl (WdT g) tw [.ref (a 1), .int (nI t), .int (nI k), .int x, .int (bI b)] (Wd a g sLen sKind sExt sMust rTab rFil rNum rLnk rLen rItm made pItm held dByt dLen bByt bRea bRec bItm bFld bOff bOfp kept wrt wid ent ver fAdr fTab adr tab lf) (some (.int (nI (sLen t)))) (Wd a g (va_up sLen t (sLen t + 1)) (va_up sKind (t * 6 + sLen t) k) (upd sExt (t * 6 + sLen t) x) (va_up sMust (t * 6 + sLen t) b) rTab rFil rNum rLnk rLen rItm made pItm held dByt dLen bByt bRea bRec bItm bFld bOff bOfp kept wrt wid ent ver fAdr fTab adr tab lf) := by
  refine k_of (by decide) (Nat.le_of_ble_eq_true rfl) ?_
  intro p e s m below meth c A ls hx hb hr hlocks hml hts hown hin0 hA hP hK hD hS hZ hl
  have hl : lv_has ls 7 [(0, .ref (a 1)), (1, .int (nI t)), (2, .int (nI k)), (3, .int x), (4, .int (bI b))] := hl
  refine lv_aload_n hx hb d_S_append_0 rfl (lv_at hl 0 rfl) ?_
  refine va_get (D := D) (ci := 1) (C := R_S) (T := T_S) (N := 4) hx hb hts (fun w h => kT w (i_S w h)) hown hK hP 1 rfl rfl 0 (by decide) (hts _ (kT _ wd_4fbeb0bc)) (fun _ h9 => h9) rfl d_S_append_1 ?_
  refine lv_iload_n hx hb d_S_append_4 rfl (lv_at hl 1 rfl) ?_
  refine n_iald hx hb hK hP 8 0 rfl rfl (i := t) (by omega) (by decide) d_S_append_5 ?_
  refine lv_istore (lv' := [(5, .int (nI (sLen t))), (0, .ref (a 1)), (1, .int (nI t)), (2, .int (nI k)), (3, .int x), (4, .int (bI b))]) hx hb d_S_append_6 hl (by decide) rfl (fun ls hl => ?_)
  refine lv_iload_n hx hb d_S_append_8 rfl (lv_at hl 2 rfl) ?_
  refine lv_bipush (v := nI 6) hx hb d_S_append_9 (by decide) ?_
  refine lv_imul hx hb d_S_append_11 ?_
  refine lv_eqi (pk_mul _ _) ?_
  refine lv_iload hx hb d_S_append_12 (lv_at hl 0 rfl) ?_
  refine lv_iadd hx hb d_S_append_14 ?_
  refine lv_eqi (nI_add _ _) ?_
  refine lv_istore (lv' := [(6, .int (nI ((t * 6) + (sLen t)))), (5, .int (nI (sLen t))), (0, .ref (a 1)), (1, .int (nI t)), (2, .int (nI k)), (3, .int x), (4, .int (bI b))]) hx hb d_S_append_15 hl (by decide) rfl (fun ls hl => ?_)
  refine lv_aload_n hx hb d_S_append_17 rfl (lv_at hl 2 rfl) ?_
  refine va_get (D := D) (ci := 1) (C := R_S) (T := T_S) (N := 4) hx hb hts (fun w h => kT w (i_S w h)) hown hK hP 1 rfl rfl 1 (by decide) (hts _ (kT _ wd_cb1e4a6d)) (fun _ h9 => h9) rfl d_S_append_18 ?_
  refine lv_iload hx hb d_S_append_21 (lv_at hl 0 rfl) ?_
  refine lv_iload_n hx hb d_S_append_23 rfl (lv_at hl 4 rfl) ?_
  refine n_iast hx hb hK hP hD hS 9 1 rfl rfl (i := ((t * 6) + (sLen t))) (by omega) (by decide) d_S_append_24 (fun H locs hP hD hS => ?_)
  have hP : va_P D vwCl (Wd a g sLen (va_up sKind ((t * 6) + (sLen t)) k) sExt sMust rTab rFil rNum rLnk rLen rItm made pItm held dByt dLen bByt bRea bRec bItm bFld bOff bOfp kept wrt wid ent ver fAdr fTab adr tab lf) H := hP
  have hD : va_D A (Wd a g sLen (va_up sKind ((t * 6) + (sLen t)) k) sExt sMust rTab rFil rNum rLnk rLen rItm made pItm held dByt dLen bByt bRea bRec bItm bFld bOff bOfp kept wrt wid ent ver fAdr fTab adr tab lf) := hD
  refine lv_aload_n hx hb d_S_append_25 rfl (lv_at hl 2 rfl) ?_
  refine va_get (D := D) (ci := 1) (C := R_S) (T := T_S) (N := 4) hx hb hts (fun w h => kT w (i_S w h)) hown hK hP 1 rfl rfl 2 (by decide) (hts _ (kT _ wd_a662b943)) (fun _ h9 => h9) rfl d_S_append_26 ?_
  refine lv_iload hx hb d_S_append_29 (lv_at hl 0 rfl) ?_
  refine lv_iload_n hx hb d_S_append_31 rfl (lv_at hl 5 rfl) ?_
  refine r_iast hx hb hK hP hD hS 10 2 rfl rfl (i := ((t * 6) + (sLen t))) (by omega) (by decide) d_S_append_32 (fun H locs hP hD hS => ?_)
  have hP : va_P D vwCl (Wd a g sLen (va_up sKind ((t * 6) + (sLen t)) k) (upd sExt ((t * 6) + (sLen t)) x) sMust rTab rFil rNum rLnk rLen rItm made pItm held dByt dLen bByt bRea bRec bItm bFld bOff bOfp kept wrt wid ent ver fAdr fTab adr tab lf) H := hP
  have hD : va_D A (Wd a g sLen (va_up sKind ((t * 6) + (sLen t)) k) (upd sExt ((t * 6) + (sLen t)) x) sMust rTab rFil rNum rLnk rLen rItm made pItm held dByt dLen bByt bRea bRec bItm bFld bOff bOfp kept wrt wid ent ver fAdr fTab adr tab lf) := hD
  refine lv_aload_n hx hb d_S_append_33 rfl (lv_at hl 2 rfl) ?_
  refine va_get (D := D) (ci := 1) (C := R_S) (T := T_S) (N := 4) hx hb hts (fun w h => kT w (i_S w h)) hown hK hP 1 rfl rfl 3 (by decide) (hts _ (kT _ wd_a48a7739)) (fun _ h9 => h9) rfl d_S_append_34 ?_
  refine lv_iload hx hb d_S_append_37 (lv_at hl 0 rfl) ?_
  refine lv_iload hx hb d_S_append_39 (lv_at hl 6 rfl) ?_
  refine z_zast hx hb hK hP hD hS 11 3 rfl rfl (i := ((t * 6) + (sLen t))) (by omega) (by decide) d_S_append_41 (fun H locs hP hD hS => ?_)
  have hP : va_P D vwCl (Wd a g sLen (va_up sKind ((t * 6) + (sLen t)) k) (upd sExt ((t * 6) + (sLen t)) x) (va_up sMust ((t * 6) + (sLen t)) b) rTab rFil rNum rLnk rLen rItm made pItm held dByt dLen bByt bRea bRec bItm bFld bOff bOfp kept wrt wid ent ver fAdr fTab adr tab lf) H := hP
  have hD : va_D A (Wd a g sLen (va_up sKind ((t * 6) + (sLen t)) k) (upd sExt ((t * 6) + (sLen t)) x) (va_up sMust ((t * 6) + (sLen t)) b) rTab rFil rNum rLnk rLen rItm made pItm held dByt dLen bByt bRea bRec bItm bFld bOff bOfp kept wrt wid ent ver fAdr fTab adr tab lf) := hD
  refine lv_aload_n hx hb d_S_append_42 rfl (lv_at hl 2 rfl) ?_
  refine va_get (D := D) (ci := 1) (C := R_S) (T := T_S) (N := 4) hx hb hts (fun w h => kT w (i_S w h)) hown hK hP 1 rfl rfl 0 (by decide) (hts _ (kT _ wd_4fbeb0bc)) (fun _ h9 => h9) rfl d_S_append_43 ?_
  refine lv_iload_n hx hb d_S_append_46 rfl (lv_at hl 3 rfl) ?_
  refine lv_iload hx hb d_S_append_47 (lv_at hl 1 rfl) ?_
  refine lv_iconst (v := nI 1) hx hb d_S_append_49 (by decide) ?_
  refine lv_iadd hx hb d_S_append_50 ?_
  refine lv_eqi (nI_add _ _) ?_
  refine n_iast hx hb hK hP hD hS 8 0 rfl rfl (i := t) (by omega) (by decide) d_S_append_51 (fun H locs hP hD hS => ?_)
  have hP : va_P D vwCl (Wd a g (va_up sLen t ((sLen t) + 1)) (va_up sKind ((t * 6) + (sLen t)) k) (upd sExt ((t * 6) + (sLen t)) x) (va_up sMust ((t * 6) + (sLen t)) b) rTab rFil rNum rLnk rLen rItm made pItm held dByt dLen bByt bRea bRec bItm bFld bOff bOfp kept wrt wid ent ver fAdr fTab adr tab lf) H := hP
  have hD : va_D A (Wd a g (va_up sLen t ((sLen t) + 1)) (va_up sKind ((t * 6) + (sLen t)) k) (upd sExt ((t * 6) + (sLen t)) x) (va_up sMust ((t * 6) + (sLen t)) b) rTab rFil rNum rLnk rLen rItm made pItm held dByt dLen bByt bRea bRec bItm bFld bOff bOfp kept wrt wid ent ver fAdr fTab adr tab lf) := hD
  refine lv_iload hx hb d_S_append_52 (lv_at hl 1 rfl) ?_
  exact k_iret hx hb hr hlocks hK hP hD hS (trivial) (rfl) (rfl) d_S_append_54
set_option maxHeartbeats 4000000 in
set_option maxRecDepth 100000 in
theorem c_Records_append (l : Launch) (D : va_G) (a : Nat → Nat) (g : Nat → ClassId) (tw : Nat) (sLen sKind : Nat → Nat) (sExt : Nat → Int32) (sMust : Nat → Bool) (rTab : Nat → Nat) (rFil : Nat → Bool) (rNum : Nat → Int64) (rLnk rLen : Nat → Nat) (rItm : Nat → Int32) (made : Nat) (pItm : Nat → Int32) (held : Nat) (dByt : Nat → Nat) (dLen : Nat) (bByt : Nat → Nat) (bRea : Nat → Bool) (bRec bItm bFld bOff bOfp : Nat → Nat) (kept wrt wid ent : Nat) (ver : Bool) (fAdr fTab adr tab : Nat) (lf : Int32) (t : Nat)  (hm : made < 16) : kM l y_R_append b_R_append 2 (some .int) ({ frames := 0, cells := 0, slots := 0, locals := 0 }) D vwCl (WdT g) tw [.ref (a 2), .int (nI t)] (Wd a g sLen sKind sExt sMust rTab rFil rNum rLnk rLen rItm made pItm held dByt dLen bByt bRea bRec bItm bFld bOff bOfp kept wrt wid ent ver fAdr fTab adr tab lf) (some (.int (nI made))) (Wd a g sLen sKind sExt sMust (va_up rTab made t) rFil rNum rLnk rLen rItm (made + 1) pItm held dByt dLen bByt bRea bRec bItm bFld bOff bOfp kept wrt wid ent ver fAdr fTab adr tab lf) := by
  refine k_of (by decide) (Nat.le_of_ble_eq_true rfl) ?_
  intro p e s m below meth c A ls hx hb hr hlocks hml hts hown hin0 hA hP hK hD hS hZ hl
  have hl : lv_has ls 2 [(0, .ref (a 2)), (1, .int (nI t))] := hl
  refine lv_aload_n hx hb d_R_append_0 rfl (lv_at hl 0 rfl) ?_
  refine va_get (D := D) (ci := 2) (C := R_R) (T := T_R) (N := 7) hx hb hts (fun w h => kT w (i_R w h)) hown hK hP 2 rfl rfl 0 (by decide) (hts _ (kT _ wd_f5c243b5)) (fun _ h9 => h9) rfl d_R_append_1 ?_
  refine lv_aload_n hx hb d_R_append_4 rfl (lv_at hl 0 rfl) ?_
  refine va_get (D := D) (ci := 2) (C := R_R) (T := T_R) (N := 7) hx hb hts (fun w h => kT w (i_R w h)) hown hK hP 2 rfl rfl 6 (by decide) (hts _ (kT _ wd_3615d315)) (fun _ h9 => h9) rfl d_R_append_5 ?_
  refine lv_iload_n hx hb d_R_append_8 rfl (lv_at hl 1 rfl) ?_
  refine n_iast hx hb hK hP hD hS 12 4 rfl rfl (i := made) (by omega) (by decide) d_R_append_9 (fun H locs hP hD hS => ?_)
  have hP : va_P D vwCl (Wd a g sLen sKind sExt sMust (va_up rTab made t) rFil rNum rLnk rLen rItm made pItm held dByt dLen bByt bRea bRec bItm bFld bOff bOfp kept wrt wid ent ver fAdr fTab adr tab lf) H := hP
  have hD : va_D A (Wd a g sLen sKind sExt sMust (va_up rTab made t) rFil rNum rLnk rLen rItm made pItm held dByt dLen bByt bRea bRec bItm bFld bOff bOfp kept wrt wid ent ver fAdr fTab adr tab lf) := hD
  refine lv_aload_n hx hb d_R_append_10 rfl (lv_at hl 0 rfl) ?_
  refine lv_dup hx hb d_R_append_11 rfl ?_
  refine va_get (D := D) (ci := 2) (C := R_R) (T := T_R) (N := 7) hx hb hts (fun w h => kT w (i_R w h)) hown hK hP 2 rfl rfl 6 (by decide) (hts _ (kT _ wd_3615d315)) (fun _ h9 => h9) rfl d_R_append_12 ?_
  refine lv_iconst (v := nI 1) hx hb d_R_append_15 (by decide) ?_
  refine lv_iadd hx hb d_R_append_16 ?_
  refine lv_eqi (nI_add _ _) ?_
  refine va_put (D := D) (ci := 2) (ty := .int) (C := R_R) (T := T_R) (N := 7) hx hb hts (fun w h => kT w (i_R w h)) ty_R tyk_R nm_R hown hK hP hD hS 2 rfl rfl 6 (by decide) (hts _ (kT _ wd_3615d315)) (fun _ h9 => h9) rfl (by decide +kernel) rfl rfl (Nat.le_of_ble_eq_true rfl) d_R_append_17 (fun H locs hP hD hS => ?_)
  have hP : va_P D vwCl (Wd a g sLen sKind sExt sMust (va_up rTab made t) rFil rNum rLnk rLen rItm (made + 1) pItm held dByt dLen bByt bRea bRec bItm bFld bOff bOfp kept wrt wid ent ver fAdr fTab adr tab lf) H := hP
  have hD : va_D A (Wd a g sLen sKind sExt sMust (va_up rTab made t) rFil rNum rLnk rLen rItm (made + 1) pItm held dByt dLen bByt bRea bRec bItm bFld bOff bOfp kept wrt wid ent ver fAdr fTab adr tab lf) := hD
  refine lv_aload_n hx hb d_R_append_20 rfl (lv_at hl 0 rfl) ?_
  refine va_get (D := D) (ci := 2) (C := R_R) (T := T_R) (N := 7) hx hb hts (fun w h => kT w (i_R w h)) hown hK hP 2 rfl rfl 6 (by decide) (hts _ (kT _ wd_3615d315)) (fun _ h9 => h9) rfl d_R_append_21 ?_
  refine lv_iconst (v := nI 1) hx hb d_R_append_24 (by decide) ?_
  refine lv_isub hx hb d_R_append_25 ?_
  refine lv_eqi (pk_sub (by omega)) ?_
  exact k_iret hx hb hr hlocks hK hP hD hS (trivial) (by rw [Nat.add_sub_cancel]) (rfl) d_R_append_26
set_option maxHeartbeats 4000000 in
set_option maxRecDepth 100000 in
theorem c_Records_holds (l : Launch) (D : va_G) (a : Nat → Nat) (g : Nat → ClassId) (tw : Nat) (sLen sKind : Nat → Nat) (sExt : Nat → Int32) (sMust : Nat → Bool) (rTab : Nat → Nat) (rFil : Nat → Bool) (rNum : Nat → Int64) (rLnk rLen : Nat → Nat) (rItm : Nat → Int32) (made : Nat) (pItm : Nat → Int32) (held : Nat) (dByt : Nat → Nat) (dLen : Nat) (bByt : Nat → Nat) (bRea : Nat → Bool) (bRec bItm bFld bOff bOfp : Nat → Nat) (kept wrt wid ent : Nat) (ver : Bool) (fAdr fTab adr tab : Nat) (lf : Int32) (x : Int32)   : kM l y_R_holds b_R_holds 2 (some .boolean) ({ frames := 0, cells := 0, slots := 0, locals := 0 }) D vwCl (WdT g) tw [.ref (a 2), .int x] (Wd a g sLen sKind sExt sMust rTab rFil rNum rLnk rLen rItm made pItm held dByt dLen bByt bRea bRec bItm bFld bOff bOfp kept wrt wid ent ver fAdr fTab adr tab lf) (some (.int (bI (hasF made x)))) (Wd a g sLen sKind sExt sMust rTab rFil rNum rLnk rLen rItm made pItm held dByt dLen bByt bRea bRec bItm bFld bOff bOfp kept wrt wid ent ver fAdr fTab adr tab lf) := by
  refine k_of (by decide) (Nat.le_of_ble_eq_true rfl) ?_
  intro p e s m below meth c A ls hx hb hr hlocks hml hts hown hin0 hA hP hK hD hS hZ hl
  have hl : lv_has ls 2 [(0, .ref (a 2)), (1, .int x)] := hl
  refine lv_iload_n hx hb d_R_holds_0 rfl (lv_at hl 1 rfl) ?_
  refine lv_if_lt (tgt := 16) hx hb d_R_holds_1 (by decide) (fun c_1 => ?_) (fun c_1 => ?_)
  · skip
    refine lv_iconst (v := nI 0) hx hb d_R_holds_16 (by decide) ?_
    exact k_zret hx hb hr hlocks hK hP hD hS (trivial) (by rw [nI_bI0]; congr 1; simp [hasF, c_1]) (rfl) (bI_nar _) d_R_holds_17
  · skip
    refine lv_iload_n hx hb d_R_holds_4 rfl (lv_at hl 1 rfl) ?_
    refine lv_aload_n hx hb d_R_holds_5 rfl (lv_at hl 0 rfl) ?_
    refine va_get (D := D) (ci := 2) (C := R_R) (T := T_R) (N := 7) hx hb hts (fun w h => kT w (i_R w h)) hown hK hP 2 rfl rfl 6 (by decide) (hts _ (kT _ wd_3615d315)) (fun _ h9 => h9) rfl d_R_holds_6 ?_
    refine lv_icmp_ge (tgt := 16) hx hb d_R_holds_9 (by decide) (fun c_9 => ?_) (fun c_9 => ?_)
    · skip
      refine lv_iconst (v := nI 0) hx hb d_R_holds_16 (by decide) ?_
      exact k_zret hx hb hr hlocks hK hP hD hS (trivial) (by rw [nI_bI0]; congr 1; simp [hasF, c_1, c_9]) (rfl) (bI_nar _) d_R_holds_17
    · skip
      refine lv_iconst (v := nI 1) hx hb d_R_holds_12 (by decide) ?_
      refine lv_goto (tgt := 17) hx hb d_R_holds_13 (by decide) ?_
      exact k_zret hx hb hr hlocks hK hP hD hS (trivial) (by rw [nI_bI1]; congr 1; simp [hasF, c_1, c_9]) (rfl) (bI_nar _) d_R_holds_17
set_option maxHeartbeats 4000000 in
set_option maxRecDepth 100000 in
theorem c_Records_tableOf (l : Launch) (D : va_G) (a : Nat → Nat) (g : Nat → ClassId) (tw : Nat) (sLen sKind : Nat → Nat) (sExt : Nat → Int32) (sMust : Nat → Bool) (rTab : Nat → Nat) (rFil : Nat → Bool) (rNum : Nat → Int64) (rLnk rLen : Nat → Nat) (rItm : Nat → Int32) (made : Nat) (pItm : Nat → Int32) (held : Nat) (dByt : Nat → Nat) (dLen : Nat) (bByt : Nat → Nat) (bRea : Nat → Bool) (bRec bItm bFld bOff bOfp : Nat → Nat) (kept wrt wid ent : Nat) (ver : Bool) (fAdr fTab adr tab : Nat) (lf : Int32) (r : Nat)  (hr : r < 16) : kM l y_R_tableOf b_R_tableOf 2 (some .int) ({ frames := 0, cells := 0, slots := 0, locals := 0 }) D vwCl (WdT g) tw [.ref (a 2), .int (nI r)] (Wd a g sLen sKind sExt sMust rTab rFil rNum rLnk rLen rItm made pItm held dByt dLen bByt bRea bRec bItm bFld bOff bOfp kept wrt wid ent ver fAdr fTab adr tab lf) (some (.int (nI (rTab r)))) (Wd a g sLen sKind sExt sMust rTab rFil rNum rLnk rLen rItm made pItm held dByt dLen bByt bRea bRec bItm bFld bOff bOfp kept wrt wid ent ver fAdr fTab adr tab lf) := by
  refine k_of (by decide) (Nat.le_of_ble_eq_true rfl) ?_
  intro p e s m below meth c A ls hx hb hr hlocks hml hts hown hin0 hA hP hK hD hS hZ hl
  have hl : lv_has ls 2 [(0, .ref (a 2)), (1, .int (nI r))] := hl
  refine lv_aload_n hx hb d_R_tableOf_0 rfl (lv_at hl 0 rfl) ?_
  refine va_get (D := D) (ci := 2) (C := R_R) (T := T_R) (N := 7) hx hb hts (fun w h => kT w (i_R w h)) hown hK hP 2 rfl rfl 0 (by decide) (hts _ (kT _ wd_f5c243b5)) (fun _ h9 => h9) rfl d_R_tableOf_1 ?_
  refine lv_iload_n hx hb d_R_tableOf_4 rfl (lv_at hl 1 rfl) ?_
  refine n_iald hx hb hK hP 12 4 rfl rfl (i := r) (by omega) (by decide) d_R_tableOf_5 ?_
  exact k_iret hx hb hr hlocks hK hP hD hS (trivial) (rfl) (rfl) d_R_tableOf_6
set_option maxHeartbeats 4000000 in
set_option maxRecDepth 100000 in
theorem c_Records_keepNumber (l : Launch) (D : va_G) (a : Nat → Nat) (g : Nat → ClassId) (tw : Nat) (sLen sKind : Nat → Nat) (sExt : Nat → Int32) (sMust : Nat → Bool) (rTab : Nat → Nat) (rFil : Nat → Bool) (rNum : Nat → Int64) (rLnk rLen : Nat → Nat) (rItm : Nat → Int32) (made : Nat) (pItm : Nat → Int32) (held : Nat) (dByt : Nat → Nat) (dLen : Nat) (bByt : Nat → Nat) (bRea : Nat → Bool) (bRec bItm bFld bOff bOfp : Nat → Nat) (kept wrt wid ent : Nat) (ver : Bool) (fAdr fTab adr tab : Nat) (lf : Int32) (sl : Nat) (v : Int64)  (hs : sl < 96) : kM l y_R_keepNumber b_R_keepNumber 4 none ({ frames := 0, cells := 0, slots := 0, locals := 0 }) D vwCl (WdT g) tw [.ref (a 2), .int (nI sl), .long v] (Wd a g sLen sKind sExt sMust rTab rFil rNum rLnk rLen rItm made pItm held dByt dLen bByt bRea bRec bItm bFld bOff bOfp kept wrt wid ent ver fAdr fTab adr tab lf) none (Wd a g sLen sKind sExt sMust rTab (va_up rFil sl true) (vp_updL rNum sl v) rLnk rLen rItm made pItm held dByt dLen bByt bRea bRec bItm bFld bOff bOfp kept wrt wid ent ver fAdr fTab adr tab lf) := by
  refine k_of (by decide) (Nat.le_of_ble_eq_true rfl) ?_
  intro p e s m below meth c A ls hx hb hr hlocks hml hts hown hin0 hA hP hK hD hS hZ hl
  have hl : lv_has ls 4 [(0, .ref (a 2)), (1, .int (nI sl)), (2, .long v)] := hl
  refine lv_aload_n hx hb d_R_keepNumber_0 rfl (lv_at hl 0 rfl) ?_
  refine va_get (D := D) (ci := 2) (C := R_R) (T := T_R) (N := 7) hx hb hts (fun w h => kT w (i_R w h)) hown hK hP 2 rfl rfl 1 (by decide) (hts _ (kT _ wd_ab5bee07)) (fun _ h9 => h9) rfl d_R_keepNumber_1 ?_
  refine lv_iload_n hx hb d_R_keepNumber_4 rfl (lv_at hl 1 rfl) ?_
  refine lv_iconst (v := nI 1) hx hb d_R_keepNumber_5 (by decide) ?_
  refine lv_eqi (show nI 1 = bI true by decide) ?_
  refine z_zast hx hb hK hP hD hS 13 5 rfl rfl (i := sl) (by omega) (by decide) d_R_keepNumber_6 (fun H locs hP hD hS => ?_)
  have hP : va_P D vwCl (Wd a g sLen sKind sExt sMust rTab (va_up rFil sl true) rNum rLnk rLen rItm made pItm held dByt dLen bByt bRea bRec bItm bFld bOff bOfp kept wrt wid ent ver fAdr fTab adr tab lf) H := hP
  have hD : va_D A (Wd a g sLen sKind sExt sMust rTab (va_up rFil sl true) rNum rLnk rLen rItm made pItm held dByt dLen bByt bRea bRec bItm bFld bOff bOfp kept wrt wid ent ver fAdr fTab adr tab lf) := hD
  refine lv_aload_n hx hb d_R_keepNumber_7 rfl (lv_at hl 0 rfl) ?_
  refine va_get (D := D) (ci := 2) (C := R_R) (T := T_R) (N := 7) hx hb hts (fun w h => kT w (i_R w h)) hown hK hP 2 rfl rfl 2 (by decide) (hts _ (kT _ wd_c008ff51)) (fun _ h9 => h9) rfl d_R_keepNumber_8 ?_
  refine lv_iload_n hx hb d_R_keepNumber_11 rfl (lv_at hl 1 rfl) ?_
  refine lv_lload_n hx hb d_R_keepNumber_12 rfl (lv_at hl 2 rfl) ?_
  refine l_last hx hb hK hP hD hS 14 6 rfl rfl (i := sl) (by omega) (by decide) d_R_keepNumber_13 (fun H locs hP hD hS => ?_)
  have hP : va_P D vwCl (Wd a g sLen sKind sExt sMust rTab (va_up rFil sl true) (vp_updL rNum sl v) rLnk rLen rItm made pItm held dByt dLen bByt bRea bRec bItm bFld bOff bOfp kept wrt wid ent ver fAdr fTab adr tab lf) H := hP
  have hD : va_D A (Wd a g sLen sKind sExt sMust rTab (va_up rFil sl true) (vp_updL rNum sl v) rLnk rLen rItm made pItm held dByt dLen bByt bRea bRec bItm bFld bOff bOfp kept wrt wid ent ver fAdr fTab adr tab lf) := hD
  exact k_vret hx hb hr hlocks hK hP hD hS (trivial) (rfl) d_R_keepNumber_14
set_option maxHeartbeats 4000000 in
set_option maxRecDepth 100000 in
theorem c_Records_keepLink (l : Launch) (D : va_G) (a : Nat → Nat) (g : Nat → ClassId) (tw : Nat) (sLen sKind : Nat → Nat) (sExt : Nat → Int32) (sMust : Nat → Bool) (rTab : Nat → Nat) (rFil : Nat → Bool) (rNum : Nat → Int64) (rLnk rLen : Nat → Nat) (rItm : Nat → Int32) (made : Nat) (pItm : Nat → Int32) (held : Nat) (dByt : Nat → Nat) (dLen : Nat) (bByt : Nat → Nat) (bRea : Nat → Bool) (bRec bItm bFld bOff bOfp : Nat → Nat) (kept wrt wid ent : Nat) (ver : Bool) (fAdr fTab adr tab : Nat) (lf : Int32) (sl : Nat) (o : Nat)  (hs : sl < 96) : kM l y_R_keepLink b_R_keepLink 3 none ({ frames := 0, cells := 0, slots := 0, locals := 0 }) D vwCl (WdT g) tw [.ref (a 2), .int (nI sl), .int (nI o)] (Wd a g sLen sKind sExt sMust rTab rFil rNum rLnk rLen rItm made pItm held dByt dLen bByt bRea bRec bItm bFld bOff bOfp kept wrt wid ent ver fAdr fTab adr tab lf) none (Wd a g sLen sKind sExt sMust rTab (va_up rFil sl true) rNum (va_up rLnk sl o) rLen rItm made pItm held dByt dLen bByt bRea bRec bItm bFld bOff bOfp kept wrt wid ent ver fAdr fTab adr tab lf) := by
  refine k_of (by decide) (Nat.le_of_ble_eq_true rfl) ?_
  intro p e s m below meth c A ls hx hb hr hlocks hml hts hown hin0 hA hP hK hD hS hZ hl
  have hl : lv_has ls 3 [(0, .ref (a 2)), (1, .int (nI sl)), (2, .int (nI o))] := hl
  refine lv_aload_n hx hb d_R_keepLink_0 rfl (lv_at hl 0 rfl) ?_
  refine va_get (D := D) (ci := 2) (C := R_R) (T := T_R) (N := 7) hx hb hts (fun w h => kT w (i_R w h)) hown hK hP 2 rfl rfl 1 (by decide) (hts _ (kT _ wd_ab5bee07)) (fun _ h9 => h9) rfl d_R_keepLink_1 ?_
  refine lv_iload_n hx hb d_R_keepLink_4 rfl (lv_at hl 1 rfl) ?_
  refine lv_iconst (v := nI 1) hx hb d_R_keepLink_5 (by decide) ?_
  refine lv_eqi (show nI 1 = bI true by decide) ?_
  refine z_zast hx hb hK hP hD hS 13 5 rfl rfl (i := sl) (by omega) (by decide) d_R_keepLink_6 (fun H locs hP hD hS => ?_)
  have hP : va_P D vwCl (Wd a g sLen sKind sExt sMust rTab (va_up rFil sl true) rNum rLnk rLen rItm made pItm held dByt dLen bByt bRea bRec bItm bFld bOff bOfp kept wrt wid ent ver fAdr fTab adr tab lf) H := hP
  have hD : va_D A (Wd a g sLen sKind sExt sMust rTab (va_up rFil sl true) rNum rLnk rLen rItm made pItm held dByt dLen bByt bRea bRec bItm bFld bOff bOfp kept wrt wid ent ver fAdr fTab adr tab lf) := hD
  refine lv_aload_n hx hb d_R_keepLink_7 rfl (lv_at hl 0 rfl) ?_
  refine va_get (D := D) (ci := 2) (C := R_R) (T := T_R) (N := 7) hx hb hts (fun w h => kT w (i_R w h)) hown hK hP 2 rfl rfl 3 (by decide) (hts _ (kT _ wd_c196e0c2)) (fun _ h9 => h9) rfl d_R_keepLink_8 ?_
  refine lv_iload_n hx hb d_R_keepLink_11 rfl (lv_at hl 1 rfl) ?_
  refine lv_iload_n hx hb d_R_keepLink_12 rfl (lv_at hl 2 rfl) ?_
  refine n_iast hx hb hK hP hD hS 15 7 rfl rfl (i := sl) (by omega) (by decide) d_R_keepLink_13 (fun H locs hP hD hS => ?_)
  have hP : va_P D vwCl (Wd a g sLen sKind sExt sMust rTab (va_up rFil sl true) rNum (va_up rLnk sl o) rLen rItm made pItm held dByt dLen bByt bRea bRec bItm bFld bOff bOfp kept wrt wid ent ver fAdr fTab adr tab lf) H := hP
  have hD : va_D A (Wd a g sLen sKind sExt sMust rTab (va_up rFil sl true) rNum (va_up rLnk sl o) rLen rItm made pItm held dByt dLen bByt bRea bRec bItm bFld bOff bOfp kept wrt wid ent ver fAdr fTab adr tab lf) := hD
  exact k_vret hx hb hr hlocks hK hP hD hS (trivial) (rfl) d_R_keepLink_14
set_option maxHeartbeats 4000000 in
set_option maxRecDepth 100000 in
theorem c_Records_forget (l : Launch) (D : va_G) (a : Nat → Nat) (g : Nat → ClassId) (tw : Nat) (sLen sKind : Nat → Nat) (sExt : Nat → Int32) (sMust : Nat → Bool) (rTab : Nat → Nat) (rFil : Nat → Bool) (rNum : Nat → Int64) (rLnk rLen : Nat → Nat) (rItm : Nat → Int32) (made : Nat) (pItm : Nat → Int32) (held : Nat) (dByt : Nat → Nat) (dLen : Nat) (bByt : Nat → Nat) (bRea : Nat → Bool) (bRec bItm bFld bOff bOfp : Nat → Nat) (kept wrt wid ent : Nat) (ver : Bool) (fAdr fTab adr tab : Nat) (lf : Int32) (sl : Nat)  (hs : sl < 96) : kM l y_R_forget b_R_forget 3 (some .boolean) ({ frames := 0, cells := 0, slots := 0, locals := 0 }) D vwCl (WdT g) tw [.ref (a 2), .int (nI sl)] (Wd a g sLen sKind sExt sMust rTab rFil rNum rLnk rLen rItm made pItm held dByt dLen bByt bRea bRec bItm bFld bOff bOfp kept wrt wid ent ver fAdr fTab adr tab lf) (some (.int (bI (rFil sl)))) (Wd a g sLen sKind sExt sMust rTab (va_up rFil sl false) rNum rLnk rLen rItm made pItm held dByt dLen bByt bRea bRec bItm bFld bOff bOfp kept wrt wid ent ver fAdr fTab adr tab lf) := by
  refine k_of (by decide) (Nat.le_of_ble_eq_true rfl) ?_
  intro p e s m below meth c A ls hx hb hr hlocks hml hts hown hin0 hA hP hK hD hS hZ hl
  have hl : lv_has ls 3 [(0, .ref (a 2)), (1, .int (nI sl))] := hl
  refine lv_aload_n hx hb d_R_forget_0 rfl (lv_at hl 0 rfl) ?_
  refine va_get (D := D) (ci := 2) (C := R_R) (T := T_R) (N := 7) hx hb hts (fun w h => kT w (i_R w h)) hown hK hP 2 rfl rfl 1 (by decide) (hts _ (kT _ wd_ab5bee07)) (fun _ h9 => h9) rfl d_R_forget_1 ?_
  refine lv_iload_n hx hb d_R_forget_4 rfl (lv_at hl 1 rfl) ?_
  refine z_zald hx hb hK hP 13 5 rfl rfl (i := sl) (by omega) (by decide) d_R_forget_5 ?_
  refine lv_istore_n (lv' := [(2, .int (bI (rFil sl))), (0, .ref (a 2)), (1, .int (nI sl))]) hx hb d_R_forget_6 rfl hl (by decide) rfl (fun ls hl => ?_)
  refine lv_aload_n hx hb d_R_forget_7 rfl (lv_at hl 1 rfl) ?_
  refine va_get (D := D) (ci := 2) (C := R_R) (T := T_R) (N := 7) hx hb hts (fun w h => kT w (i_R w h)) hown hK hP 2 rfl rfl 1 (by decide) (hts _ (kT _ wd_ab5bee07)) (fun _ h9 => h9) rfl d_R_forget_8 ?_
  refine lv_iload_n hx hb d_R_forget_11 rfl (lv_at hl 2 rfl) ?_
  refine lv_iconst (v := nI 0) hx hb d_R_forget_12 (by decide) ?_
  refine lv_eqi (show nI 0 = bI false by decide) ?_
  refine z_zast hx hb hK hP hD hS 13 5 rfl rfl (i := sl) (by omega) (by decide) d_R_forget_13 (fun H locs hP hD hS => ?_)
  have hP : va_P D vwCl (Wd a g sLen sKind sExt sMust rTab (va_up rFil sl false) rNum rLnk rLen rItm made pItm held dByt dLen bByt bRea bRec bItm bFld bOff bOfp kept wrt wid ent ver fAdr fTab adr tab lf) H := hP
  have hD : va_D A (Wd a g sLen sKind sExt sMust rTab (va_up rFil sl false) rNum rLnk rLen rItm made pItm held dByt dLen bByt bRea bRec bItm bFld bOff bOfp kept wrt wid ent ver fAdr fTab adr tab lf) := hD
  refine lv_iload_n hx hb d_R_forget_14 rfl (lv_at hl 0 rfl) ?_
  exact k_zret hx hb hr hlocks hK hP hD hS (trivial) (rfl) (rfl) (bI_nar _) d_R_forget_15
set_option maxHeartbeats 4000000 in
set_option maxRecDepth 100000 in
theorem c_Pending_append (l : Launch) (D : va_G) (a : Nat → Nat) (g : Nat → ClassId) (tw : Nat) (sLen sKind : Nat → Nat) (sExt : Nat → Int32) (sMust : Nat → Bool) (rTab : Nat → Nat) (rFil : Nat → Bool) (rNum : Nat → Int64) (rLnk rLen : Nat → Nat) (rItm : Nat → Int32) (made : Nat) (pItm : Nat → Int32) (held : Nat) (dByt : Nat → Nat) (dLen : Nat) (bByt : Nat → Nat) (bRea : Nat → Bool) (bRec bItm bFld bOff bOfp : Nat → Nat) (kept wrt wid ent : Nat) (ver : Bool) (fAdr fTab adr tab : Nat) (lf : Int32) (x : Int32)  (hx0 : vp_nar .short x = x) (hh : held < 12) : kM l y_P_append b_P_append 2 none ({ frames := 0, cells := 0, slots := 0, locals := 0 }) D vwCl (WdT g) tw [.ref (a 3), .int x] (Wd a g sLen sKind sExt sMust rTab rFil rNum rLnk rLen rItm made pItm held dByt dLen bByt bRea bRec bItm bFld bOff bOfp kept wrt wid ent ver fAdr fTab adr tab lf) none (Wd a g sLen sKind sExt sMust rTab rFil rNum rLnk rLen rItm made (upd pItm held x) (held + 1) dByt dLen bByt bRea bRec bItm bFld bOff bOfp kept wrt wid ent ver fAdr fTab adr tab lf) := by
  refine k_of (by decide) (Nat.le_of_ble_eq_true rfl) ?_
  intro p e s m below meth c A ls hx hb hr hlocks hml hts hown hin0 hA hP hK hD hS hZ hl
  have hl : lv_has ls 2 [(0, .ref (a 3)), (1, .int x)] := hl
  refine lv_aload_n hx hb d_P_append_0 rfl (lv_at hl 0 rfl) ?_
  refine va_get (D := D) (ci := 3) (C := R_P) (T := T_P) (N := 2) hx hb hts (fun w h => kT w (i_P w h)) hown hK hP 3 rfl rfl 0 (by decide) (hts _ (kT _ wd_a7b5af6e)) (fun _ h9 => h9) rfl d_P_append_1 ?_
  refine lv_aload_n hx hb d_P_append_4 rfl (lv_at hl 0 rfl) ?_
  refine va_get (D := D) (ci := 3) (C := R_P) (T := T_P) (N := 2) hx hb hts (fun w h => kT w (i_P w h)) hown hK hP 3 rfl rfl 1 (by decide) (hts _ (kT _ wd_f56104f2)) (fun _ h9 => h9) rfl d_P_append_5 ?_
  refine lv_iload_n hx hb d_P_append_8 rfl (lv_at hl 1 rfl) ?_
  refine s_sast hx hb hK hP hD hS 18 10 rfl rfl (i := held) hx0 (by omega) (by decide) d_P_append_9 (fun H locs hP hD hS => ?_)
  have hP : va_P D vwCl (Wd a g sLen sKind sExt sMust rTab rFil rNum rLnk rLen rItm made (upd pItm held x) held dByt dLen bByt bRea bRec bItm bFld bOff bOfp kept wrt wid ent ver fAdr fTab adr tab lf) H := hP
  have hD : va_D A (Wd a g sLen sKind sExt sMust rTab rFil rNum rLnk rLen rItm made (upd pItm held x) held dByt dLen bByt bRea bRec bItm bFld bOff bOfp kept wrt wid ent ver fAdr fTab adr tab lf) := hD
  refine lv_aload_n hx hb d_P_append_10 rfl (lv_at hl 0 rfl) ?_
  refine lv_dup hx hb d_P_append_11 rfl ?_
  refine va_get (D := D) (ci := 3) (C := R_P) (T := T_P) (N := 2) hx hb hts (fun w h => kT w (i_P w h)) hown hK hP 3 rfl rfl 1 (by decide) (hts _ (kT _ wd_f56104f2)) (fun _ h9 => h9) rfl d_P_append_12 ?_
  refine lv_iconst (v := nI 1) hx hb d_P_append_15 (by decide) ?_
  refine lv_iadd hx hb d_P_append_16 ?_
  refine lv_eqi (nI_add _ _) ?_
  refine va_put (D := D) (ci := 3) (ty := .int) (C := R_P) (T := T_P) (N := 2) hx hb hts (fun w h => kT w (i_P w h)) ty_P tyk_P nm_P hown hK hP hD hS 3 rfl rfl 1 (by decide) (hts _ (kT _ wd_f56104f2)) (fun _ h9 => h9) rfl (by decide +kernel) rfl rfl (Nat.le_of_ble_eq_true rfl) d_P_append_17 (fun H locs hP hD hS => ?_)
  have hP : va_P D vwCl (Wd a g sLen sKind sExt sMust rTab rFil rNum rLnk rLen rItm made (upd pItm held x) (held + 1) dByt dLen bByt bRea bRec bItm bFld bOff bOfp kept wrt wid ent ver fAdr fTab adr tab lf) H := hP
  have hD : va_D A (Wd a g sLen sKind sExt sMust rTab rFil rNum rLnk rLen rItm made (upd pItm held x) (held + 1) dByt dLen bByt bRea bRec bItm bFld bOff bOfp kept wrt wid ent ver fAdr fTab adr tab lf) := hD
  exact k_vret hx hb hr hlocks hK hP hD hS (trivial) (rfl) d_P_append_20
set_option maxHeartbeats 4000000 in
set_option maxRecDepth 100000 in
theorem c_Cursor_leave (l : Launch) (D : va_G) (a : Nat → Nat) (g : Nat → ClassId) (tw : Nat) (sLen sKind : Nat → Nat) (sExt : Nat → Int32) (sMust : Nat → Bool) (rTab : Nat → Nat) (rFil : Nat → Bool) (rNum : Nat → Int64) (rLnk rLen : Nat → Nat) (rItm : Nat → Int32) (made : Nat) (pItm : Nat → Int32) (held : Nat) (dByt : Nat → Nat) (dLen : Nat) (bByt : Nat → Nat) (bRea : Nat → Bool) (bRec bItm bFld bOff bOfp : Nat → Nat) (kept wrt wid ent : Nat) (ver : Bool) (fAdr fTab adr tab : Nat) (lf : Int32)    : kM l y_C_leave b_C_leave 1 none ({ frames := 0, cells := 0, slots := 0, locals := 0 }) D vwCl (WdT g) tw [.ref (a 7)] (Wd a g sLen sKind sExt sMust rTab rFil rNum rLnk rLen rItm made pItm held dByt dLen bByt bRea bRec bItm bFld bOff bOfp kept wrt wid ent ver fAdr fTab adr tab lf) none (Wd a g sLen sKind sExt sMust rTab rFil rNum rLnk rLen rItm made pItm held dByt dLen bByt bRea bRec bItm bFld bOff bOfp kept wrt wid ent false fAdr fTab adr tab lf) := by
  refine k_of (by decide) (Nat.le_of_ble_eq_true rfl) ?_
  intro p e s m below meth c A ls hx hb hr hlocks hml hts hown hin0 hA hP hK hD hS hZ hl
  have hl : lv_has ls 1 [(0, .ref (a 7))] := hl
  refine lv_aload_n hx hb d_C_leave_0 rfl (lv_at hl 0 rfl) ?_
  refine lv_iconst (v := nI 0) hx hb d_C_leave_1 (by decide) ?_
  refine lv_eqi (show nI 0 = bI false by decide) ?_
  refine va_put (D := D) (ci := 7) (ty := .boolean) (C := R_C) (T := T_C) (N := 5) hx hb hts (fun w h => kT w (i_C w h)) ty_C tyk_C nm_C hown hK hP hD hS 7 rfl rfl 0 (by decide) (hts _ (kT _ wd_95522a61)) (fun _ h9 => h9) rfl (by decide +kernel) (bI_nar _) (bI_fits _) (Nat.le_of_ble_eq_true rfl) d_C_leave_2 (fun H locs hP hD hS => ?_)
  have hP : va_P D vwCl (Wd a g sLen sKind sExt sMust rTab rFil rNum rLnk rLen rItm made pItm held dByt dLen bByt bRea bRec bItm bFld bOff bOfp kept wrt wid ent false fAdr fTab adr tab lf) H := hP
  have hD : va_D A (Wd a g sLen sKind sExt sMust rTab rFil rNum rLnk rLen rItm made pItm held dByt dLen bByt bRea bRec bItm bFld bOff bOfp kept wrt wid ent false fAdr fTab adr tab lf) := hD
  exact k_vret hx hb hr hlocks hK hP hD hS (trivial) (rfl) d_C_leave_5
set_option maxHeartbeats 4000000 in
set_option maxRecDepth 100000 in
theorem c_Cursor_go (l : Launch) (D : va_G) (a : Nat → Nat) (g : Nat → ClassId) (tw : Nat) (sLen sKind : Nat → Nat) (sExt : Nat → Int32) (sMust : Nat → Bool) (rTab : Nat → Nat) (rFil : Nat → Bool) (rNum : Nat → Int64) (rLnk rLen : Nat → Nat) (rItm : Nat → Int32) (made : Nat) (pItm : Nat → Int32) (held : Nat) (dByt : Nat → Nat) (dLen : Nat) (bByt : Nat → Nat) (bRea : Nat → Bool) (bRec bItm bFld bOff bOfp : Nat → Nat) (kept wrt wid ent : Nat) (ver : Bool) (fAdr fTab adr tab : Nat) (lf : Int32) (x : Nat) (y : Nat)   : kM l y_C_go b_C_go 3 none ({ frames := 0, cells := 0, slots := 0, locals := 0 }) D vwCl (WdT g) tw [.ref (a 7), .int (nI x), .int (nI y)] (Wd a g sLen sKind sExt sMust rTab rFil rNum rLnk rLen rItm made pItm held dByt dLen bByt bRea bRec bItm bFld bOff bOfp kept wrt wid ent ver fAdr fTab adr tab lf) none (Wd a g sLen sKind sExt sMust rTab rFil rNum rLnk rLen rItm made pItm held dByt dLen bByt bRea bRec bItm bFld bOff bOfp kept wrt wid ent ver fAdr fTab x y lf) := by
  refine k_of (by decide) (Nat.le_of_ble_eq_true rfl) ?_
  intro p e s m below meth c A ls hx hb hr hlocks hml hts hown hin0 hA hP hK hD hS hZ hl
  have hl : lv_has ls 3 [(0, .ref (a 7)), (1, .int (nI x)), (2, .int (nI y))] := hl
  refine lv_aload_n hx hb d_C_go_0 rfl (lv_at hl 0 rfl) ?_
  refine lv_iload_n hx hb d_C_go_1 rfl (lv_at hl 1 rfl) ?_
  refine va_put (D := D) (ci := 7) (ty := .int) (C := R_C) (T := T_C) (N := 5) hx hb hts (fun w h => kT w (i_C w h)) ty_C tyk_C nm_C hown hK hP hD hS 7 rfl rfl 3 (by decide) (hts _ (kT _ wd_04a9cec3)) (fun _ h9 => h9) rfl (by decide +kernel) rfl rfl (Nat.le_of_ble_eq_true rfl) d_C_go_2 (fun H locs hP hD hS => ?_)
  have hP : va_P D vwCl (Wd a g sLen sKind sExt sMust rTab rFil rNum rLnk rLen rItm made pItm held dByt dLen bByt bRea bRec bItm bFld bOff bOfp kept wrt wid ent ver fAdr fTab x tab lf) H := hP
  have hD : va_D A (Wd a g sLen sKind sExt sMust rTab rFil rNum rLnk rLen rItm made pItm held dByt dLen bByt bRea bRec bItm bFld bOff bOfp kept wrt wid ent ver fAdr fTab x tab lf) := hD
  refine lv_aload_n hx hb d_C_go_5 rfl (lv_at hl 0 rfl) ?_
  refine lv_iload_n hx hb d_C_go_6 rfl (lv_at hl 2 rfl) ?_
  refine va_put (D := D) (ci := 7) (ty := .int) (C := R_C) (T := T_C) (N := 5) hx hb hts (fun w h => kT w (i_C w h)) ty_C tyk_C nm_C hown hK hP hD hS 7 rfl rfl 4 (by decide) (hts _ (kT _ wd_f2838d2f)) (fun _ h9 => h9) rfl (by decide +kernel) rfl rfl (Nat.le_of_ble_eq_true rfl) d_C_go_7 (fun H locs hP hD hS => ?_)
  have hP : va_P D vwCl (Wd a g sLen sKind sExt sMust rTab rFil rNum rLnk rLen rItm made pItm held dByt dLen bByt bRea bRec bItm bFld bOff bOfp kept wrt wid ent ver fAdr fTab x y lf) H := hP
  have hD : va_D A (Wd a g sLen sKind sExt sMust rTab rFil rNum rLnk rLen rItm made pItm held dByt dLen bByt bRea bRec bItm bFld bOff bOfp kept wrt wid ent ver fAdr fTab x y lf) := hD
  exact k_vret hx hb hr hlocks hK hP hD hS (trivial) (rfl) d_C_go_10
set_option maxHeartbeats 4000000 in
set_option maxRecDepth 100000 in
theorem c_Cursor_goFirst (l : Launch) (D : va_G) (a : Nat → Nat) (g : Nat → ClassId) (tw : Nat) (sLen sKind : Nat → Nat) (sExt : Nat → Int32) (sMust : Nat → Bool) (rTab : Nat → Nat) (rFil : Nat → Bool) (rNum : Nat → Int64) (rLnk rLen : Nat → Nat) (rItm : Nat → Int32) (made : Nat) (pItm : Nat → Int32) (held : Nat) (dByt : Nat → Nat) (dLen : Nat) (bByt : Nat → Nat) (bRea : Nat → Bool) (bRec bItm bFld bOff bOfp : Nat → Nat) (kept wrt wid ent : Nat) (ver : Bool) (fAdr fTab adr tab : Nat) (lf : Int32)    : kM l y_C_goFirst b_C_goFirst 1 none ({ frames := 1, cells := 0, slots := 0, locals := 22 }) D vwCl (WdT g) tw [.ref (a 7)] (Wd a g sLen sKind sExt sMust rTab rFil rNum rLnk rLen rItm made pItm held dByt dLen bByt bRea bRec bItm bFld bOff bOfp kept wrt wid ent ver fAdr fTab adr tab lf) none (Wd a g sLen sKind sExt sMust rTab rFil rNum rLnk rLen rItm made pItm held dByt dLen bByt bRea bRec bItm bFld bOff bOfp kept wrt wid ent ver fAdr fTab fAdr fTab lf) := by
  refine k_of (by decide) (Nat.le_of_ble_eq_true rfl) ?_
  intro p e s m below meth c A ls hx hb hr hlocks hml hts hown hin0 hA hP hK hD hS hZ hl
  have hl : lv_has ls 1 [(0, .ref (a 7))] := hl
  refine lv_aload_n hx hb d_C_goFirst_0 rfl (lv_at hl 0 rfl) ?_
  refine lv_aload_n hx hb d_C_goFirst_1 rfl (lv_at hl 0 rfl) ?_
  refine va_get (D := D) (ci := 7) (C := R_C) (T := T_C) (N := 5) hx hb hts (fun w h => kT w (i_C w h)) hown hK hP 7 rfl rfl 1 (by decide) (hts _ (kT _ wd_83dda460)) (fun _ h9 => h9) rfl d_C_goFirst_2 ?_
  refine lv_aload_n hx hb d_C_goFirst_5 rfl (lv_at hl 0 rfl) ?_
  refine va_get (D := D) (ci := 7) (C := R_C) (T := T_C) (N := 5) hx hb hts (fun w h => kT w (i_C w h)) hown hK hP 7 rfl rfl 2 (by decide) (hts _ (kT _ wd_c1bd6654)) (fun _ h9 => h9) rfl d_C_goFirst_6 ?_
  refine k_callV (c_Cursor_go l D a g tw sLen sKind sExt sMust rTab rFil rNum rLnk rLen rItm made pItm held dByt dLen bByt bRea bRec bItm bFld bOff bOfp kept wrt wid ent ver fAdr fTab adr tab lf fAdr fTab  ) m_C_go wd_fb878c0c 7 7 rfl rfl rfl kT hx hb hml hown hts ⟨Nat.le_of_ble_eq_true rfl, Nat.le_of_ble_eq_true rfl⟩ ⟨Nat.le_of_ble_eq_true rfl, Nat.le_of_ble_eq_true rfl⟩ hK hP hD hS hA hZ hl.1 rfl rfl (Nat.le_of_ble_eq_true rfl) d_C_goFirst_9 (fun H locs hP hD hS => ?_)
  have hP : va_P D vwCl (Wd a g sLen sKind sExt sMust rTab rFil rNum rLnk rLen rItm made pItm held dByt dLen bByt bRea bRec bItm bFld bOff bOfp kept wrt wid ent ver fAdr fTab fAdr fTab lf) H := hP
  have hD : va_D A (Wd a g sLen sKind sExt sMust rTab rFil rNum rLnk rLen rItm made pItm held dByt dLen bByt bRea bRec bItm bFld bOff bOfp kept wrt wid ent ver fAdr fTab fAdr fTab lf) := hD
  refine W.eq (g2 := F0 m 12 ls []) rfl ?_
  exact k_vret hx hb hr hlocks hK hP hD hS (trivial) (rfl) d_C_goFirst_12
set_option maxHeartbeats 4000000 in
set_option maxRecDepth 100000 in
theorem c_Cursor_enter (l : Launch) (D : va_G) (a : Nat → Nat) (g : Nat → ClassId) (tw : Nat) (sLen sKind : Nat → Nat) (sExt : Nat → Int32) (sMust : Nat → Bool) (rTab : Nat → Nat) (rFil : Nat → Bool) (rNum : Nat → Int64) (rLnk rLen : Nat → Nat) (rItm : Nat → Int32) (made : Nat) (pItm : Nat → Int32) (held : Nat) (dByt : Nat → Nat) (dLen : Nat) (bByt : Nat → Nat) (bRea : Nat → Bool) (bRec bItm bFld bOff bOfp : Nat → Nat) (kept wrt wid ent : Nat) (ver : Bool) (fAdr fTab adr tab : Nat) (lf : Int32) (x : Nat) (y : Nat)   : kM l y_C_enter b_C_enter 3 none ({ frames := 2, cells := 0, slots := 0, locals := 42 }) D vwCl (WdT g) tw [.ref (a 7), .int (nI x), .int (nI y)] (Wd a g sLen sKind sExt sMust rTab rFil rNum rLnk rLen rItm made pItm held dByt dLen bByt bRea bRec bItm bFld bOff bOfp kept wrt wid ent ver fAdr fTab adr tab lf) none (Wd a g sLen sKind sExt sMust rTab rFil rNum rLnk rLen rItm made pItm held dByt dLen bByt bRea bRec bItm bFld bOff bOfp kept wrt wid ent true x y x y lf) := by
  refine k_of (by decide) (Nat.le_of_ble_eq_true rfl) ?_
  intro p e s m below meth c A ls hx hb hr hlocks hml hts hown hin0 hA hP hK hD hS hZ hl
  have hl : lv_has ls 3 [(0, .ref (a 7)), (1, .int (nI x)), (2, .int (nI y))] := hl
  refine lv_aload_n hx hb d_C_enter_0 rfl (lv_at hl 0 rfl) ?_
  refine lv_iconst (v := nI 1) hx hb d_C_enter_1 (by decide) ?_
  refine lv_eqi (show nI 1 = bI true by decide) ?_
  refine va_put (D := D) (ci := 7) (ty := .boolean) (C := R_C) (T := T_C) (N := 5) hx hb hts (fun w h => kT w (i_C w h)) ty_C tyk_C nm_C hown hK hP hD hS 7 rfl rfl 0 (by decide) (hts _ (kT _ wd_95522a61)) (fun _ h9 => h9) rfl (by decide +kernel) (bI_nar _) (bI_fits _) (Nat.le_of_ble_eq_true rfl) d_C_enter_2 (fun H locs hP hD hS => ?_)
  have hP : va_P D vwCl (Wd a g sLen sKind sExt sMust rTab rFil rNum rLnk rLen rItm made pItm held dByt dLen bByt bRea bRec bItm bFld bOff bOfp kept wrt wid ent true fAdr fTab adr tab lf) H := hP
  have hD : va_D A (Wd a g sLen sKind sExt sMust rTab rFil rNum rLnk rLen rItm made pItm held dByt dLen bByt bRea bRec bItm bFld bOff bOfp kept wrt wid ent true fAdr fTab adr tab lf) := hD
  refine lv_aload_n hx hb d_C_enter_5 rfl (lv_at hl 0 rfl) ?_
  refine lv_iload_n hx hb d_C_enter_6 rfl (lv_at hl 1 rfl) ?_
  refine va_put (D := D) (ci := 7) (ty := .int) (C := R_C) (T := T_C) (N := 5) hx hb hts (fun w h => kT w (i_C w h)) ty_C tyk_C nm_C hown hK hP hD hS 7 rfl rfl 1 (by decide) (hts _ (kT _ wd_83dda460)) (fun _ h9 => h9) rfl (by decide +kernel) rfl rfl (Nat.le_of_ble_eq_true rfl) d_C_enter_7 (fun H locs hP hD hS => ?_)
  have hP : va_P D vwCl (Wd a g sLen sKind sExt sMust rTab rFil rNum rLnk rLen rItm made pItm held dByt dLen bByt bRea bRec bItm bFld bOff bOfp kept wrt wid ent true x fTab adr tab lf) H := hP
  have hD : va_D A (Wd a g sLen sKind sExt sMust rTab rFil rNum rLnk rLen rItm made pItm held dByt dLen bByt bRea bRec bItm bFld bOff bOfp kept wrt wid ent true x fTab adr tab lf) := hD
  refine lv_aload_n hx hb d_C_enter_10 rfl (lv_at hl 0 rfl) ?_
  refine lv_iload_n hx hb d_C_enter_11 rfl (lv_at hl 2 rfl) ?_
  refine va_put (D := D) (ci := 7) (ty := .int) (C := R_C) (T := T_C) (N := 5) hx hb hts (fun w h => kT w (i_C w h)) ty_C tyk_C nm_C hown hK hP hD hS 7 rfl rfl 2 (by decide) (hts _ (kT _ wd_c1bd6654)) (fun _ h9 => h9) rfl (by decide +kernel) rfl rfl (Nat.le_of_ble_eq_true rfl) d_C_enter_12 (fun H locs hP hD hS => ?_)
  have hP : va_P D vwCl (Wd a g sLen sKind sExt sMust rTab rFil rNum rLnk rLen rItm made pItm held dByt dLen bByt bRea bRec bItm bFld bOff bOfp kept wrt wid ent true x y adr tab lf) H := hP
  have hD : va_D A (Wd a g sLen sKind sExt sMust rTab rFil rNum rLnk rLen rItm made pItm held dByt dLen bByt bRea bRec bItm bFld bOff bOfp kept wrt wid ent true x y adr tab lf) := hD
  refine lv_aload_n hx hb d_C_enter_15 rfl (lv_at hl 0 rfl) ?_
  refine k_callV (c_Cursor_goFirst l D a g tw sLen sKind sExt sMust rTab rFil rNum rLnk rLen rItm made pItm held dByt dLen bByt bRea bRec bItm bFld bOff bOfp kept wrt wid ent true x y adr tab lf   ) m_C_goFirst wd_e3693826 7 7 rfl rfl rfl kT hx hb hml hown hts ⟨Nat.le_of_ble_eq_true rfl, Nat.le_of_ble_eq_true rfl⟩ ⟨Nat.le_of_ble_eq_true rfl, Nat.le_of_ble_eq_true rfl⟩ hK hP hD hS hA hZ hl.1 rfl rfl (Nat.le_of_ble_eq_true rfl) d_C_enter_16 (fun H locs hP hD hS => ?_)
  have hP : va_P D vwCl (Wd a g sLen sKind sExt sMust rTab rFil rNum rLnk rLen rItm made pItm held dByt dLen bByt bRea bRec bItm bFld bOff bOfp kept wrt wid ent true x y x y lf) H := hP
  have hD : va_D A (Wd a g sLen sKind sExt sMust rTab rFil rNum rLnk rLen rItm made pItm held dByt dLen bByt bRea bRec bItm bFld bOff bOfp kept wrt wid ent true x y x y lf) := hD
  refine W.eq (g2 := F0 m 19 ls []) rfl ?_
  exact k_vret hx hb hr hlocks hK hP hD hS (trivial) (rfl) d_C_enter_19
set_option maxHeartbeats 4000000 in
set_option maxRecDepth 100000 in
theorem c_isTable (l : Launch) (D : va_G) (a : Nat → Nat) (g : Nat → ClassId) (tw : Nat) (sLen sKind : Nat → Nat) (sExt : Nat → Int32) (sMust : Nat → Bool) (rTab : Nat → Nat) (rFil : Nat → Bool) (rNum : Nat → Int64) (rLnk rLen : Nat → Nat) (rItm : Nat → Int32) (made : Nat) (pItm : Nat → Int32) (held : Nat) (dByt : Nat → Nat) (dLen : Nat) (bByt : Nat → Nat) (bRea : Nat → Bool) (bRec bItm bFld bOff bOfp : Nat → Nat) (kept wrt wid ent : Nat) (ver : Bool) (fAdr fTab adr tab : Nat) (lf : Int32) (x : Int32)   : kM l y_F_isTable b_F_isTable 1 (some .boolean) ({ frames := 0, cells := 0, slots := 0, locals := 0 }) D vwCl (WdT g) tw [.int x] (Wd a g sLen sKind sExt sMust rTab rFil rNum rLnk rLen rItm made pItm held dByt dLen bByt bRea bRec bItm bFld bOff bOfp kept wrt wid ent ver fAdr fTab adr tab lf) (some (.int (bI (okT x)))) (Wd a g sLen sKind sExt sMust rTab rFil rNum rLnk rLen rItm made pItm held dByt dLen bByt bRea bRec bItm bFld bOff bOfp kept wrt wid ent ver fAdr fTab adr tab lf) := by
  refine k_of (by decide) (Nat.le_of_ble_eq_true rfl) ?_
  intro p e s m below meth c A ls hx hb hr hlocks hml hts hown hin0 hA hP hK hD hS hZ hl
  have hl : lv_has ls 1 [(0, .int x)] := hl
  refine lv_iload_n hx hb d_F_isTable_0 rfl (lv_at hl 0 rfl) ?_
  refine lv_if_lt (tgt := 13) hx hb d_F_isTable_1 (by decide) (fun c_1 => ?_) (fun c_1 => ?_)
  · skip
    refine lv_iconst (v := nI 0) hx hb d_F_isTable_13 (by decide) ?_
    exact k_zret hx hb hr hlocks hK hP hD hS (trivial) (by rw [nI_bI0]; congr 1; simp [okT, c_1]) (rfl) (bI_nar _) d_F_isTable_14
  · skip
    refine lv_iload_n hx hb d_F_isTable_4 rfl (lv_at hl 0 rfl) ?_
    refine lv_iconst (v := nI 4) hx hb d_F_isTable_5 (by decide) ?_
    refine lv_icmp_ge (tgt := 13) hx hb d_F_isTable_6 (by decide) (fun c_6 => ?_) (fun c_6 => ?_)
    · skip
      refine lv_iconst (v := nI 0) hx hb d_F_isTable_13 (by decide) ?_
      exact k_zret hx hb hr hlocks hK hP hD hS (trivial) (by rw [nI_bI0]; congr 1; simp [okT, c_1, c_6]) (rfl) (bI_nar _) d_F_isTable_14
    · skip
      refine lv_iconst (v := nI 1) hx hb d_F_isTable_9 (by decide) ?_
      refine lv_goto (tgt := 14) hx hb d_F_isTable_10 (by decide) ?_
      exact k_zret hx hb hr hlocks hK hP hD hS (trivial) (by rw [nI_bI1]; congr 1; simp [okT, c_1, c_6]) (rfl) (bI_nar _) d_F_isTable_14
set_option maxHeartbeats 4000000 in
set_option maxRecDepth 100000 in
theorem c_slotOf (l : Launch) (D : va_G) (a : Nat → Nat) (g : Nat → ClassId) (tw : Nat) (sLen sKind : Nat → Nat) (sExt : Nat → Int32) (sMust : Nat → Bool) (rTab : Nat → Nat) (rFil : Nat → Bool) (rNum : Nat → Int64) (rLnk rLen : Nat → Nat) (rItm : Nat → Int32) (made : Nat) (pItm : Nat → Int32) (held : Nat) (dByt : Nat → Nat) (dLen : Nat) (bByt : Nat → Nat) (bRea : Nat → Bool) (bRec bItm bFld bOff bOfp : Nat → Nat) (kept wrt wid ent : Nat) (ver : Bool) (fAdr fTab adr tab : Nat) (lf : Int32) (r : Nat) (f : Nat)   : kM l y_F_slotOf b_F_slotOf 2 (some .int) ({ frames := 0, cells := 0, slots := 0, locals := 0 }) D vwCl (WdT g) tw [.int (nI r), .int (nI f)] (Wd a g sLen sKind sExt sMust rTab rFil rNum rLnk rLen rItm made pItm held dByt dLen bByt bRea bRec bItm bFld bOff bOfp kept wrt wid ent ver fAdr fTab adr tab lf) (some (.int (nI (r * 6 + f)))) (Wd a g sLen sKind sExt sMust rTab rFil rNum rLnk rLen rItm made pItm held dByt dLen bByt bRea bRec bItm bFld bOff bOfp kept wrt wid ent ver fAdr fTab adr tab lf) := by
  refine k_of (by decide) (Nat.le_of_ble_eq_true rfl) ?_
  intro p e s m below meth c A ls hx hb hr hlocks hml hts hown hin0 hA hP hK hD hS hZ hl
  have hl : lv_has ls 2 [(0, .int (nI r)), (1, .int (nI f))] := hl
  refine lv_iload_n hx hb d_F_slotOf_0 rfl (lv_at hl 0 rfl) ?_
  refine lv_bipush (v := nI 6) hx hb d_F_slotOf_1 (by decide) ?_
  refine lv_imul hx hb d_F_slotOf_3 ?_
  refine lv_eqi (pk_mul _ _) ?_
  refine lv_iload_n hx hb d_F_slotOf_4 rfl (lv_at hl 1 rfl) ?_
  refine lv_iadd hx hb d_F_slotOf_5 ?_
  refine lv_eqi (nI_add _ _) ?_
  exact k_iret hx hb hr hlocks hK hP hD hS (trivial) (rfl) (rfl) d_F_slotOf_6
set_option maxHeartbeats 4000000 in
set_option maxRecDepth 100000 in
theorem c_brought (l : Launch) (D : va_G) (a : Nat → Nat) (g : Nat → ClassId) (tw : Nat) (sLen sKind : Nat → Nat) (sExt : Nat → Int32) (sMust : Nat → Bool) (rTab : Nat → Nat) (rFil : Nat → Bool) (rNum : Nat → Int64) (rLnk rLen : Nat → Nat) (rItm : Nat → Int32) (made : Nat) (pItm : Nat → Int32) (held : Nat) (dByt : Nat → Nat) (dLen : Nat) (bByt : Nat → Nat) (bRea : Nat → Bool) (bRec bItm bFld bOff bOfp : Nat → Nat) (kept wrt wid ent : Nat) (ver : Bool) (fAdr fTab adr tab : Nat) (lf : Int32) (k : Nat) (v : Int64)  (hk : k < 7) : kM l y_F_broughtIntoRange b_F_broughtIntoRange 3 (some .long) ({ frames := 0, cells := 0, slots := 0, locals := 0 }) D vwCl (WdT g) tw [.int (nI k), .long v] (Wd a g sLen sKind sExt sMust rTab rFil rNum rLnk rLen rItm made pItm held dByt dLen bByt bRea bRec bItm bFld bOff bOfp kept wrt wid ent ver fAdr fTab adr tab lf) (some (.long (brI k v))) (Wd a g sLen sKind sExt sMust rTab rFil rNum rLnk rLen rItm made pItm held dByt dLen bByt bRea bRec bItm bFld bOff bOfp kept wrt wid ent ver fAdr fTab adr tab lf) := by
  refine k_of (by decide) (Nat.le_of_ble_eq_true rfl) ?_
  intro p e s m below meth c A ls hx hb hr hlocks hml hts hown hin0 hA hP hK hD hS hZ hl
  have hl : lv_has ls 3 [(0, .int (nI k)), (1, .long v)] := hl
  refine lv_iload_n hx hb d_F_broughtIntoRange_0 rfl (lv_at hl 0 rfl) ?_
  by_cases s_1_0 : k = 0
  · skip
    refine lv_eqi (y := nI 0) (by rw [s_1_0]) ?_
    refine lv_tableIn (off := 27) (tgt := 28) hx hb d_F_broughtIntoRange_1 (by decide) (by decide) (by decide) (by decide) ?_
    refine lv_lload_n hx hb d_F_broughtIntoRange_28 rfl (lv_at hl 1 rfl) ?_
    refine lv_l2i hx hb d_F_broughtIntoRange_29 rfl ?_
    refine lv_i2b hx hb d_F_broughtIntoRange_30 rfl ?_
    refine lv_i2l hx hb d_F_broughtIntoRange_31 rfl ?_
    exact k_lret hx hb hr hlocks hK hP hD hS (trivial) (by simp [brI, s_1_0]) (rfl) d_F_broughtIntoRange_32
  by_cases s_1_1 : k = 1
  · skip
    refine lv_eqi (y := nI 1) (by rw [s_1_1]) ?_
    refine lv_tableIn (off := 32) (tgt := 33) hx hb d_F_broughtIntoRange_1 (by decide) (by decide) (by decide) (by decide) ?_
    refine lv_lload_n hx hb d_F_broughtIntoRange_33 rfl (lv_at hl 1 rfl) ?_
    refine lv_l2i hx hb d_F_broughtIntoRange_34 rfl ?_
    refine lv_i2s hx hb d_F_broughtIntoRange_35 rfl ?_
    refine lv_i2l hx hb d_F_broughtIntoRange_36 rfl ?_
    exact k_lret hx hb hr hlocks hK hP hD hS (trivial) (by simp [brI, s_1_0, s_1_1]) (rfl) d_F_broughtIntoRange_37
  by_cases s_1_2 : k = 2
  · skip
    refine lv_eqi (y := nI 2) (by rw [s_1_2]) ?_
    refine lv_tableIn (off := 37) (tgt := 38) hx hb d_F_broughtIntoRange_1 (by decide) (by decide) (by decide) (by decide) ?_
    refine lv_lload_n hx hb d_F_broughtIntoRange_38 rfl (lv_at hl 1 rfl) ?_
    refine lv_l2i hx hb d_F_broughtIntoRange_39 rfl ?_
    refine lv_i2l hx hb d_F_broughtIntoRange_40 rfl ?_
    exact k_lret hx hb hr hlocks hK hP hD hS (trivial) (by simp [brI, s_1_0, s_1_1, s_1_2]) (rfl) d_F_broughtIntoRange_41
  refine lv_tableOut (tgt := 42) hx hb d_F_broughtIntoRange_1 (by rw [nI_toInt (by omega)]; omega) (by decide) ?_
  refine lv_lload_n hx hb d_F_broughtIntoRange_42 rfl (lv_at hl 1 rfl) ?_
  exact k_lret hx hb hr hlocks hK hP hD hS (trivial) (by simp [brI, s_1_0, s_1_1, s_1_2]) (rfl) d_F_broughtIntoRange_43
set_option maxHeartbeats 4000000 in
set_option maxRecDepth 100000 in
theorem c_Schema_fieldsInAll (l : Launch) (D : va_G) (a : Nat → Nat) (g : Nat → ClassId) (tw : Nat) (sLen sKind : Nat → Nat) (sExt : Nat → Int32) (sMust : Nat → Bool) (rTab : Nat → Nat) (rFil : Nat → Bool) (rNum : Nat → Int64) (rLnk rLen : Nat → Nat) (rItm : Nat → Int32) (made : Nat) (pItm : Nat → Int32) (held : Nat) (dByt : Nat → Nat) (dLen : Nat) (bByt : Nat → Nat) (bRea : Nat → Bool) (bRec bItm bFld bOff bOfp : Nat → Nat) (kept wrt wid ent : Nat) (ver : Bool) (fAdr fTab adr tab : Nat) (lf : Int32)    : kM l y_S_fieldsInAll b_S_fieldsInAll 3 (some .int) ({ frames := 0, cells := 0, slots := 0, locals := 0 }) D vwCl (WdT g) tw [.ref (a 1)] (Wd a g sLen sKind sExt sMust rTab rFil rNum rLnk rLen rItm made pItm held dByt dLen bByt bRea bRec bItm bFld bOff bOfp kept wrt wid ent ver fAdr fTab adr tab lf) (some (.int (nI (sLen 0 + sLen 1 + sLen 2 + sLen 3)))) (Wd a g sLen sKind sExt sMust rTab rFil rNum rLnk rLen rItm made pItm held dByt dLen bByt bRea bRec bItm bFld bOff bOfp kept wrt wid ent ver fAdr fTab adr tab lf) := by
  refine k_of (by decide) (Nat.le_of_ble_eq_true rfl) ?_
  intro p e s m below meth c A ls hx hb hr hlocks hml hts hown hin0 hA hP hK hD hS hZ hl
  have hl : lv_has ls 3 [(0, .ref (a 1))] := hl
  refine lv_iconst (v := nI 0) hx hb d_S_fieldsInAll_0 (by decide) ?_
  refine lv_istore_n (lv' := [(1, .int (nI 0)), (0, .ref (a 1))]) hx hb d_S_fieldsInAll_1 rfl hl (by decide) rfl (fun ls hl => ?_)
  refine lv_iconst (v := nI 0) hx hb d_S_fieldsInAll_2 (by decide) ?_
  refine lv_istore_n (lv' := [(2, .int (nI 0)), (1, .int (nI 0)), (0, .ref (a 1))]) hx hb d_S_fieldsInAll_3 rfl hl (by decide) rfl (fun ls hl => ?_)
  refine lv_iload_n hx hb d_S_fieldsInAll_4 rfl (lv_at hl 0 rfl) ?_
  refine lv_iconst (v := nI 4) hx hb d_S_fieldsInAll_5 (by decide) ?_
  refine lv_icmp_ge (tgt := 24) hx hb d_S_fieldsInAll_6 (by decide) (fun c_6 => absurd c_6 (by decide)) (fun _ => ?_)
  refine lv_iload_n hx hb d_S_fieldsInAll_9 rfl (lv_at hl 1 rfl) ?_
  refine lv_aload_n hx hb d_S_fieldsInAll_10 rfl (lv_at hl 2 rfl) ?_
  refine va_get (D := D) (ci := 1) (C := R_S) (T := T_S) (N := 4) hx hb hts (fun w h => kT w (i_S w h)) hown hK hP 1 rfl rfl 0 (by decide) (hts _ (kT _ wd_4fbeb0bc)) (fun _ h9 => h9) rfl d_S_fieldsInAll_11 ?_
  refine lv_iload_n hx hb d_S_fieldsInAll_14 rfl (lv_at hl 0 rfl) ?_
  refine n_iald hx hb hK hP 8 0 rfl rfl (i := 0) (by omega) (by decide) d_S_fieldsInAll_15 ?_
  refine lv_iadd hx hb d_S_fieldsInAll_16 ?_
  refine lv_eqi (nI_add _ _) ?_
  refine lv_istore_n (lv' := [(1, .int (nI (0 + (sLen 0)))), (2, .int (nI 0)), (0, .ref (a 1))]) hx hb d_S_fieldsInAll_17 rfl hl (by decide) rfl (fun ls hl => ?_)
  refine lv_iinc (v := nI 1) (lv' := [(2, .int (nI 1)), (1, .int (nI (0 + (sLen 0)))), (0, .ref (a 1))]) hx hb d_S_fieldsInAll_18 hl (k := 1) rfl (by decide) (by decide) rfl (fun ls hl => ?_)
  refine lv_goto (tgt := 4) hx hb d_S_fieldsInAll_21 (by decide) ?_
  refine lv_iload_n hx hb d_S_fieldsInAll_4 rfl (lv_at hl 0 rfl) ?_
  refine lv_iconst (v := nI 4) hx hb d_S_fieldsInAll_5 (by decide) ?_
  refine lv_icmp_ge (tgt := 24) hx hb d_S_fieldsInAll_6 (by decide) (fun c_6 => absurd c_6 (by decide)) (fun _ => ?_)
  refine lv_iload_n hx hb d_S_fieldsInAll_9 rfl (lv_at hl 1 rfl) ?_
  refine lv_aload_n hx hb d_S_fieldsInAll_10 rfl (lv_at hl 2 rfl) ?_
  refine va_get (D := D) (ci := 1) (C := R_S) (T := T_S) (N := 4) hx hb hts (fun w h => kT w (i_S w h)) hown hK hP 1 rfl rfl 0 (by decide) (hts _ (kT _ wd_4fbeb0bc)) (fun _ h9 => h9) rfl d_S_fieldsInAll_11 ?_
  refine lv_iload_n hx hb d_S_fieldsInAll_14 rfl (lv_at hl 0 rfl) ?_
  refine n_iald hx hb hK hP 8 0 rfl rfl (i := 1) (by omega) (by decide) d_S_fieldsInAll_15 ?_
  refine lv_iadd hx hb d_S_fieldsInAll_16 ?_
  refine lv_eqi (nI_add _ _) ?_
  refine lv_istore_n (lv' := [(1, .int (nI ((0 + (sLen 0)) + (sLen 1)))), (2, .int (nI 1)), (0, .ref (a 1))]) hx hb d_S_fieldsInAll_17 rfl hl (by decide) rfl (fun ls hl => ?_)
  refine lv_iinc (v := nI 2) (lv' := [(2, .int (nI 2)), (1, .int (nI ((0 + (sLen 0)) + (sLen 1)))), (0, .ref (a 1))]) hx hb d_S_fieldsInAll_18 hl (k := 1) rfl (by decide) (by decide) rfl (fun ls hl => ?_)
  refine lv_goto (tgt := 4) hx hb d_S_fieldsInAll_21 (by decide) ?_
  refine lv_iload_n hx hb d_S_fieldsInAll_4 rfl (lv_at hl 0 rfl) ?_
  refine lv_iconst (v := nI 4) hx hb d_S_fieldsInAll_5 (by decide) ?_
  refine lv_icmp_ge (tgt := 24) hx hb d_S_fieldsInAll_6 (by decide) (fun c_6 => absurd c_6 (by decide)) (fun _ => ?_)
  refine lv_iload_n hx hb d_S_fieldsInAll_9 rfl (lv_at hl 1 rfl) ?_
  refine lv_aload_n hx hb d_S_fieldsInAll_10 rfl (lv_at hl 2 rfl) ?_
  refine va_get (D := D) (ci := 1) (C := R_S) (T := T_S) (N := 4) hx hb hts (fun w h => kT w (i_S w h)) hown hK hP 1 rfl rfl 0 (by decide) (hts _ (kT _ wd_4fbeb0bc)) (fun _ h9 => h9) rfl d_S_fieldsInAll_11 ?_
  refine lv_iload_n hx hb d_S_fieldsInAll_14 rfl (lv_at hl 0 rfl) ?_
  refine n_iald hx hb hK hP 8 0 rfl rfl (i := 2) (by omega) (by decide) d_S_fieldsInAll_15 ?_
  refine lv_iadd hx hb d_S_fieldsInAll_16 ?_
  refine lv_eqi (nI_add _ _) ?_
  refine lv_istore_n (lv' := [(1, .int (nI (((0 + (sLen 0)) + (sLen 1)) + (sLen 2)))), (2, .int (nI 2)), (0, .ref (a 1))]) hx hb d_S_fieldsInAll_17 rfl hl (by decide) rfl (fun ls hl => ?_)
  refine lv_iinc (v := nI 3) (lv' := [(2, .int (nI 3)), (1, .int (nI (((0 + (sLen 0)) + (sLen 1)) + (sLen 2)))), (0, .ref (a 1))]) hx hb d_S_fieldsInAll_18 hl (k := 1) rfl (by decide) (by decide) rfl (fun ls hl => ?_)
  refine lv_goto (tgt := 4) hx hb d_S_fieldsInAll_21 (by decide) ?_
  refine lv_iload_n hx hb d_S_fieldsInAll_4 rfl (lv_at hl 0 rfl) ?_
  refine lv_iconst (v := nI 4) hx hb d_S_fieldsInAll_5 (by decide) ?_
  refine lv_icmp_ge (tgt := 24) hx hb d_S_fieldsInAll_6 (by decide) (fun c_6 => absurd c_6 (by decide)) (fun _ => ?_)
  refine lv_iload_n hx hb d_S_fieldsInAll_9 rfl (lv_at hl 1 rfl) ?_
  refine lv_aload_n hx hb d_S_fieldsInAll_10 rfl (lv_at hl 2 rfl) ?_
  refine va_get (D := D) (ci := 1) (C := R_S) (T := T_S) (N := 4) hx hb hts (fun w h => kT w (i_S w h)) hown hK hP 1 rfl rfl 0 (by decide) (hts _ (kT _ wd_4fbeb0bc)) (fun _ h9 => h9) rfl d_S_fieldsInAll_11 ?_
  refine lv_iload_n hx hb d_S_fieldsInAll_14 rfl (lv_at hl 0 rfl) ?_
  refine n_iald hx hb hK hP 8 0 rfl rfl (i := 3) (by omega) (by decide) d_S_fieldsInAll_15 ?_
  refine lv_iadd hx hb d_S_fieldsInAll_16 ?_
  refine lv_eqi (nI_add _ _) ?_
  refine lv_istore_n (lv' := [(1, .int (nI ((((0 + (sLen 0)) + (sLen 1)) + (sLen 2)) + (sLen 3)))), (2, .int (nI 3)), (0, .ref (a 1))]) hx hb d_S_fieldsInAll_17 rfl hl (by decide) rfl (fun ls hl => ?_)
  refine lv_iinc (v := nI 4) (lv' := [(2, .int (nI 4)), (1, .int (nI ((((0 + (sLen 0)) + (sLen 1)) + (sLen 2)) + (sLen 3)))), (0, .ref (a 1))]) hx hb d_S_fieldsInAll_18 hl (k := 1) rfl (by decide) (by decide) rfl (fun ls hl => ?_)
  refine lv_goto (tgt := 4) hx hb d_S_fieldsInAll_21 (by decide) ?_
  refine lv_iload_n hx hb d_S_fieldsInAll_4 rfl (lv_at hl 0 rfl) ?_
  refine lv_iconst (v := nI 4) hx hb d_S_fieldsInAll_5 (by decide) ?_
  refine lv_icmp_ge (tgt := 24) hx hb d_S_fieldsInAll_6 (by decide) (fun _ => ?_) (fun c_6 => absurd (by decide) c_6)
  refine lv_iload_n hx hb d_S_fieldsInAll_24 rfl (lv_at hl 1 rfl) ?_
  exact k_iret hx hb hr hlocks hK hP hD hS (trivial) (by congr 1; omega) (rfl) d_S_fieldsInAll_25
set_option maxHeartbeats 4000000 in
set_option maxRecDepth 100000 in
theorem c_Records_keepItems (l : Launch) (D : va_G) (a : Nat → Nat) (g : Nat → ClassId) (tw : Nat) (sLen sKind : Nat → Nat) (sExt : Nat → Int32) (sMust : Nat → Bool) (rTab : Nat → Nat) (rFil : Nat → Bool) (rNum : Nat → Int64) (rLnk rLen : Nat → Nat) (rItm : Nat → Int32) (made : Nat) (pItm : Nat → Int32) (held : Nat) (dByt : Nat → Nat) (dLen : Nat) (bByt : Nat → Nat) (bRea : Nat → Bool) (bRec bItm bFld bOff bOfp : Nat → Nat) (kept wrt wid ent : Nat) (ver : Bool) (fAdr fTab adr tab : Nat) (lf : Int32) (sl : Nat) (k : Int32)  (hs : sl < 96) (hh : held ≤ 12) : kM l y_R_keepItems b_R_keepItems 5 none ({ frames := 0, cells := 0, slots := 0, locals := 0 }) D vwCl (WdT g) tw [.ref (a 2), .int (nI sl), .ref (a 3), .int k] (Wd a g sLen sKind sExt sMust rTab rFil rNum rLnk rLen rItm made pItm held dByt dLen bByt bRea bRec bItm bFld bOff bOfp kept wrt wid ent ver fAdr fTab adr tab lf) none (Wd a g sLen sKind sExt sMust rTab (va_up rFil sl true) rNum rLnk (va_up rLen sl held) (cpI rItm pItm k (sl * 12) held) made pItm held dByt dLen bByt bRea bRec bItm bFld bOff bOfp kept wrt wid ent ver fAdr fTab adr tab lf) := by
  refine k_of (by decide) (Nat.le_of_ble_eq_true rfl) ?_
  intro p e s m below meth c A ls hx hb hr hlocks hml hts hown hin0 hA hP hK hD hS hZ hl
  have hl : lv_has ls 5 [(0, .ref (a 2)), (1, .int (nI sl)), (2, .ref (a 3)), (3, .int k)] := hl
  refine lv_aload_n hx hb d_R_keepItems_0 rfl (lv_at hl 0 rfl) ?_
  refine va_get (D := D) (ci := 2) (C := R_R) (T := T_R) (N := 7) hx hb hts (fun w h => kT w (i_R w h)) hown hK hP 2 rfl rfl 1 (by decide) (hts _ (kT _ wd_ab5bee07)) (fun _ h9 => h9) rfl d_R_keepItems_1 ?_
  refine lv_iload_n hx hb d_R_keepItems_4 rfl (lv_at hl 1 rfl) ?_
  refine lv_iconst (v := nI 1) hx hb d_R_keepItems_5 (by decide) ?_
  refine lv_eqi (show nI 1 = bI true by decide) ?_
  refine z_zast hx hb hK hP hD hS 13 5 rfl rfl (i := sl) (by omega) (by decide) d_R_keepItems_6 (fun H locs hP hD hS => ?_)
  have hP : va_P D vwCl (Wd a g sLen sKind sExt sMust rTab (va_up rFil sl true) rNum rLnk rLen rItm made pItm held dByt dLen bByt bRea bRec bItm bFld bOff bOfp kept wrt wid ent ver fAdr fTab adr tab lf) H := hP
  have hD : va_D A (Wd a g sLen sKind sExt sMust rTab (va_up rFil sl true) rNum rLnk rLen rItm made pItm held dByt dLen bByt bRea bRec bItm bFld bOff bOfp kept wrt wid ent ver fAdr fTab adr tab lf) := hD
  refine lv_aload_n hx hb d_R_keepItems_7 rfl (lv_at hl 0 rfl) ?_
  refine va_get (D := D) (ci := 2) (C := R_R) (T := T_R) (N := 7) hx hb hts (fun w h => kT w (i_R w h)) hown hK hP 2 rfl rfl 4 (by decide) (hts _ (kT _ wd_988e707d)) (fun _ h9 => h9) rfl d_R_keepItems_8 ?_
  refine lv_iload_n hx hb d_R_keepItems_11 rfl (lv_at hl 1 rfl) ?_
  refine lv_aload_n hx hb d_R_keepItems_12 rfl (lv_at hl 2 rfl) ?_
  refine va_getN (D := D) (ci := 3) (C := R_P) (T := T_P) (N := 2) hx hb hts (fun w h => kT w (i_P w h)) hown hK hP 3 rfl rfl 1 (by decide) (va_Nw.use rfl (hZ.2.2.1 _ wn_8e4993d6)) (fun _ h9 => h9) rfl d_R_keepItems_13 ?_
  refine n_iast hx hb hK hP hD hS 16 8 rfl rfl (i := sl) (by omega) (by decide) d_R_keepItems_16 (fun H locs hP hD hS => ?_)
  have hP : va_P D vwCl (Wd a g sLen sKind sExt sMust rTab (va_up rFil sl true) rNum rLnk (va_up rLen sl held) rItm made pItm held dByt dLen bByt bRea bRec bItm bFld bOff bOfp kept wrt wid ent ver fAdr fTab adr tab lf) H := hP
  have hD : va_D A (Wd a g sLen sKind sExt sMust rTab (va_up rFil sl true) rNum rLnk (va_up rLen sl held) rItm made pItm held dByt dLen bByt bRea bRec bItm bFld bOff bOfp kept wrt wid ent ver fAdr fTab adr tab lf) := hD
  refine lv_iconst (v := nI 0) hx hb d_R_keepItems_17 (by decide) ?_
  refine lv_istore (lv' := [(4, .int (nI 0)), (0, .ref (a 2)), (1, .int (nI sl)), (2, .ref (a 3)), (3, .int k)]) hx hb d_R_keepItems_18 hl (by decide) rfl (fun ls hl => ?_)
  have hP : va_P D vwCl (Wd a g sLen sKind sExt sMust rTab (va_up rFil sl true) rNum rLnk (va_up rLen sl held) (cpI rItm pItm k (sl * 12) 0) made pItm held dByt dLen bByt bRea bRec bItm bFld bOff bOfp kept wrt wid ent ver fAdr fTab adr tab lf) _ := hP
  have hD : va_D A (Wd a g sLen sKind sExt sMust rTab (va_up rFil sl true) rNum rLnk (va_up rLen sl held) (cpI rItm pItm k (sl * 12) 0) made pItm held dByt dLen bByt bRea bRec bItm bFld bOff bOfp kept wrt wid ent ver fAdr fTab adr tab lf) := hD
  have L_20 : ∀ (n : Nat) (i : Nat), (i ≤ held) → held - i < n → ∀ (H : Heap) (locs : List Loc) (ls : Array Slot), va_P D vwCl (Wd a g sLen sKind sExt sMust rTab (va_up rFil sl true) rNum rLnk (va_up rLen sl held) (cpI rItm pItm k (sl * 12) i) made pItm held dByt dLen bByt bRea bRec bItm bFld bOff bOfp kept wrt wid ent ver fAdr fTab adr tab lf) H → va_D A (Wd a g sLen sKind sExt sMust rTab (va_up rFil sl true) rNum rLnk (va_up rLen sl held) (cpI rItm pItm k (sl * 12) i) made pItm held dByt dLen bByt bRea bRec bItm bFld bOff bOfp kept wrt wid ent ver fAdr fTab adr tab lf) → va_S A s.heap H locs → lv_has ls 5 [(4, .int (nI i)), (0, .ref (a 2)), (1, .int (nI sl)), (2, .ref (a 3)), (3, .int k)] → W p l e ({ frames := 0, cells := 0, slots := 0, locals := 0 }) s m ([.ref (a 2), .int (nI sl), .ref (a 3), .int k] : List Value).toArray below meth c H locs 0 0 (MQ below (kQ D vwCl (WdT g) A True none (Wd a g sLen sKind sExt sMust rTab (va_up rFil sl true) rNum rLnk (va_up rLen sl held) (cpI rItm pItm k (sl * 12) held) made pItm held dByt dLen bByt bRea bRec bItm bFld bOff bOfp kept wrt wid ent ver fAdr fTab adr tab lf)) ([.ref (a 2), .int (nI sl), .ref (a 3), .int k] : List Value).toArray s 0 0 A) (F0 m 20 ls []) := by
    intro n
    induction n with
    | zero => intro i hi hm; exact absurd hm (Nat.not_lt_zero _)
    | succ n ih_20 =>
      intro i hi hm_20 H locs ls hP hD hS hl
      refine lv_iload hx hb d_R_keepItems_20 (lv_at hl 0 rfl) ?_
      refine lv_aload_n hx hb d_R_keepItems_22 rfl (lv_at hl 3 rfl) ?_
      refine va_getN (D := D) (ci := 3) (C := R_P) (T := T_P) (N := 2) hx hb hts (fun w h => kT w (i_P w h)) hown hK hP 3 rfl rfl 1 (by decide) (va_Nw.use rfl (hZ.2.2.1 _ wn_8e4993d6)) (fun _ h9 => h9) rfl d_R_keepItems_23 ?_
      refine lv_icmp_ge (tgt := 57) hx hb d_R_keepItems_26 (by decide) (fun c_26 => ?_) (fun c_26 => ?_)
      · skip
        have c_26 := (nI_leI (by omega) (by omega)).mp c_26
        exact k_vret hx hb hr hlocks hK hP hD hS (trivial) (by rw [show i = held by omega]) d_R_keepItems_57
      · skip
        have c_26 := mt (nI_leI (by omega) (by omega)).mpr c_26
        refine lv_aload_n hx hb d_R_keepItems_29 rfl (lv_at hl 1 rfl) ?_
        refine va_get (D := D) (ci := 2) (C := R_R) (T := T_R) (N := 7) hx hb hts (fun w h => kT w (i_R w h)) hown hK hP 2 rfl rfl 5 (by decide) (hts _ (kT _ wd_6f843458)) (fun _ h9 => h9) rfl d_R_keepItems_30 ?_
        refine lv_iload_n hx hb d_R_keepItems_33 rfl (lv_at hl 2 rfl) ?_
        refine lv_bipush (v := nI 12) hx hb d_R_keepItems_34 (by decide) ?_
        refine lv_imul hx hb d_R_keepItems_36 ?_
        refine lv_eqi (pk_mul _ _) ?_
        refine lv_iload hx hb d_R_keepItems_37 (lv_at hl 0 rfl) ?_
        refine lv_iadd hx hb d_R_keepItems_39 ?_
        refine lv_eqi (nI_add _ _) ?_
        refine lv_aload_n hx hb d_R_keepItems_40 rfl (lv_at hl 3 rfl) ?_
        refine va_getN (D := D) (ci := 3) (C := R_P) (T := T_P) (N := 2) hx hb hts (fun w h => kT w (i_P w h)) hown hK hP 3 rfl rfl 0 (by decide) (va_Nw.use rfl (hZ.2.2.1 _ wn_6e959370)) (fun _ h9 => h9) rfl d_R_keepItems_41 ?_
        refine lv_iload hx hb d_R_keepItems_44 (lv_at hl 0 rfl) ?_
        refine s_sald hx hb hK hP 18 10 rfl rfl (i := i) (by omega) (by decide) d_R_keepItems_46 ?_
        refine lv_iload_n hx hb d_R_keepItems_47 rfl (lv_at hl 4 rfl) ?_
        refine lv_iand hx hb d_R_keepItems_48 ?_
        refine lv_i2s hx hb d_R_keepItems_49 rfl ?_
        refine s_sast hx hb hK hP hD hS 17 9 rfl rfl (i := ((sl * 12) + i)) (pk_vs _) (by omega) (by decide) d_R_keepItems_50 (fun H locs hP hD hS => ?_)
        have hP : va_P D vwCl (Wd a g sLen sKind sExt sMust rTab (va_up rFil sl true) rNum rLnk (va_up rLen sl held) (upd (cpI rItm pItm k (sl * 12) i) ((sl * 12) + i) (((pItm i) &&& k).toInt16.toInt32)) made pItm held dByt dLen bByt bRea bRec bItm bFld bOff bOfp kept wrt wid ent ver fAdr fTab adr tab lf) H := hP
        have hD : va_D A (Wd a g sLen sKind sExt sMust rTab (va_up rFil sl true) rNum rLnk (va_up rLen sl held) (upd (cpI rItm pItm k (sl * 12) i) ((sl * 12) + i) (((pItm i) &&& k).toInt16.toInt32)) made pItm held dByt dLen bByt bRea bRec bItm bFld bOff bOfp kept wrt wid ent ver fAdr fTab adr tab lf) := hD
        refine lv_iinc (v := nI (i + 1)) (lv' := [(4, .int (nI (i + 1))), (0, .ref (a 2)), (1, .int (nI sl)), (2, .ref (a 3)), (3, .int k)]) hx hb d_R_keepItems_51 hl (k := 0) rfl (nI_1 _) (by decide) rfl (fun ls hl => ?_)
        refine lv_goto (tgt := 20) hx hb d_R_keepItems_54 (by decide) ?_
        have hP : va_P D vwCl (Wd a g sLen sKind sExt sMust rTab (va_up rFil sl true) rNum rLnk (va_up rLen sl held) (cpI rItm pItm k (sl * 12) (i + 1)) made pItm held dByt dLen bByt bRea bRec bItm bFld bOff bOfp kept wrt wid ent ver fAdr fTab adr tab lf) H := hP
        have hD : va_D A (Wd a g sLen sKind sExt sMust rTab (va_up rFil sl true) rNum rLnk (va_up rLen sl held) (cpI rItm pItm k (sl * 12) (i + 1)) made pItm held dByt dLen bByt bRea bRec bItm bFld bOff bOfp kept wrt wid ent ver fAdr fTab adr tab lf) := hD
        exact ih_20 (i + 1) (by omega) (by omega) _ _ _ hP hD hS (lv_sub hl [0, 1, 2, 3, 4] rfl)
  exact L_20 ((held - 0) + 1) 0 (by omega) (by omega) _ _ _ hP hD hS (lv_sub hl [0, 1, 2, 3, 4] rfl)

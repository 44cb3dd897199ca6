theorem wd_68debb88 : Cond.methodLink R_B 75 y_A_fillB ∈ kGW := kGW_of (List.mem_of_getElem? (i := 542) (by decide +kernel)) (by decide)
theorem wd_00460b66 : Cond.methodLink R_B 81 y_A_fillI ∈ kGW := kGW_of (List.mem_of_getElem? (i := 545) (by decide +kernel)) (by decide)
theorem wd_1ff46e1b : Cond.methodLink R_D 15 arraycopyName ∈ kGW := kGW_of (List.mem_of_getElem? (i := 629) (by decide +kernel)) (by decide)
theorem wd_a648c8f7 : Cond.native arraycopyName ∈ kGW := kGW_of (List.mem_of_getElem? (i := 631) (by decide +kernel)) (by decide)
theorem wd_410d49e2 : Cond.static arraycopyName ∈ kGW := kGW_of (List.mem_of_getElem? (i := 630) (by decide +kernel)) (by decide)
theorem wd_4260ffab : Cond.initialized "java/lang/System" ∈ kGW := kGW_of (List.mem_of_getElem? (i := 66) (by decide +kernel)) (by decide)
theorem wd_7ed87276 : Cond.fieldLink R_F 42 R_F "builder" "LFlatStore$Builder;" ∈ kGW := kGW_of (List.mem_of_getElem? (i := 254) (by decide +kernel)) (by decide)
theorem wd_919920a1 : Cond.methodLink R_F 143 y_B_isWhole ∈ kGW := kGW_of (List.mem_of_getElem? (i := 522) (by decide +kernel)) (by decide)
theorem wd_17895479 : Cond.methodLink R_F 146 y_B_assemble ∈ kGW := kGW_of (List.mem_of_getElem? (i := 538) (by decide +kernel)) (by decide)
theorem wd_1ec097e5 : Cond.methodLink R_F 159 y_D_takeEnd ∈ kGW := kGW_of (List.mem_of_getElem? (i := 625) (by decide +kernel)) (by decide)
set_option maxRecDepth 20000 in
theorem wd_4172235e : Cond.code y_B_assemble b_B_assemble 2 (some .boolean) ∈ kGW := kGW_of (List.mem_of_getElem? (i := 541) (by rfl)) (by decide)
theorem wd_a636a962 : Cond.instanceMethod y_B_assemble ∈ kGW := kGW_of (List.mem_of_getElem? (i := 539) (by decide +kernel)) (by decide)
theorem wd_ec5d69a3 : Cond.selects R_B y_B_assemble y_B_assemble ∈ kGW := kGW_of (List.mem_of_getElem? (i := 540) (by decide +kernel)) (by decide)
set_option maxRecDepth 20000 in
theorem wd_6544f839 : Cond.code y_D_takeEnd b_D_takeEnd 3 none ∈ kGW := kGW_of (List.mem_of_getElem? (i := 628) (by rfl)) (by decide)
theorem wd_01098414 : Cond.instanceMethod y_D_takeEnd ∈ kGW := kGW_of (List.mem_of_getElem? (i := 626) (by decide +kernel)) (by decide)
theorem wd_29fc106c : Cond.selects R_D y_D_takeEnd y_D_takeEnd ∈ kGW := kGW_of (List.mem_of_getElem? (i := 627) (by decide +kernel)) (by decide)
set_option maxRecDepth 20000 in
theorem wd_0c59d784 : Cond.code y_F_build b_F_build 2 (some .int) ∈ kGW := kGW_of (List.mem_of_getElem? (i := 521) (by rfl)) (by decide)
theorem wd_e97ebb6e : Cond.instanceMethod y_F_build ∈ kGW := kGW_of (List.mem_of_getElem? (i := 519) (by decide +kernel)) (by decide)
theorem wd_6967fb01 : Cond.selects R_F y_F_build y_F_build ∈ kGW := kGW_of (List.mem_of_getElem? (i := 520) (by decide +kernel)) (by decide)
theorem wn_e12ed6bb : Cond.fieldLinkNest R_F 152 R_B "bytes" "[B" "FlatStore" ∈ kNW := kNW_of (List.mem_of_getElem? (i := 172) (by decide +kernel)) (by decide)
theorem wn_6c396b5d : Cond.fieldLinkNest R_F 156 R_B "written" "I" "FlatStore" ∈ kNW := kNW_of (List.mem_of_getElem? (i := 181) (by decide +kernel)) (by decide)
theorem d_B_assemble_0 : decode b_B_assemble 0 = .ok (.aload_n 0, 1) := by decide +kernel
theorem d_B_assemble_1 : decode b_B_assemble 1 = .ok (.getfield 9, 3) := by decide +kernel
theorem d_B_assemble_4 : decode b_B_assemble 4 = .ok (.iconst 0, 1) := by decide +kernel
theorem d_B_assemble_5 : decode b_B_assemble 5 = .ok (.invokestatic 75, 3) := by decide +kernel
theorem d_B_assemble_8 : decode b_B_assemble 8 = .ok (.aload_n 0, 1) := by decide +kernel
theorem d_B_assemble_9 : decode b_B_assemble 9 = .ok (.getfield 19, 3) := by decide +kernel
theorem d_B_assemble_12 : decode b_B_assemble 12 = .ok (.iconst 0, 1) := by decide +kernel
theorem d_B_assemble_13 : decode b_B_assemble 13 = .ok (.invokestatic 81, 3) := by decide +kernel
theorem d_B_assemble_16 : decode b_B_assemble 16 = .ok (.aload_n 0, 1) := by decide +kernel
theorem d_B_assemble_17 : decode b_B_assemble 17 = .ok (.iconst 0, 1) := by decide +kernel
theorem d_B_assemble_18 : decode b_B_assemble 18 = .ok (.putfield 84, 3) := by decide +kernel
theorem d_B_assemble_21 : decode b_B_assemble 21 = .ok (.aload_n 0, 1) := by decide +kernel
theorem d_B_assemble_22 : decode b_B_assemble 22 = .ok (.iconst 0, 1) := by decide +kernel
theorem d_B_assemble_23 : decode b_B_assemble 23 = .ok (.putfield 88, 3) := by decide +kernel
theorem d_B_assemble_26 : decode b_B_assemble 26 = .ok (.aload_n 0, 1) := by decide +kernel
theorem d_B_assemble_27 : decode b_B_assemble 27 = .ok (.iconst 4, 1) := by decide +kernel
theorem d_B_assemble_28 : decode b_B_assemble 28 = .ok (.putfield 91, 3) := by decide +kernel
theorem d_B_assemble_31 : decode b_B_assemble 31 = .ok (.aload_n 0, 1) := by decide +kernel
theorem d_B_assemble_32 : decode b_B_assemble 32 = .ok (.iload_n 1, 1) := by decide +kernel
theorem d_B_assemble_33 : decode b_B_assemble 33 = .ok (.iconst 1, 1) := by decide +kernel
theorem d_B_assemble_34 : decode b_B_assemble 34 = .ok (.invokevirtual 94, 3) := by decide +kernel
theorem d_B_assemble_37 : decode b_B_assemble 37 = .ok (.aload_n 0, 1) := by decide +kernel
theorem d_B_assemble_38 : decode b_B_assemble 38 = .ok (.aload_n 0, 1) := by decide +kernel
theorem d_B_assemble_39 : decode b_B_assemble 39 = .ok (.getfield 91, 3) := by decide +kernel
theorem d_B_assemble_42 : decode b_B_assemble 42 = .ok (.iconst 4, 1) := by decide +kernel
theorem d_B_assemble_43 : decode b_B_assemble 43 = .ok (.invokevirtual 98, 3) := by decide +kernel
theorem d_B_assemble_46 : decode b_B_assemble 46 = .ok (.aload_n 0, 1) := by decide +kernel
theorem d_B_assemble_47 : decode b_B_assemble 47 = .ok (.aload_n 0, 1) := by decide +kernel
theorem d_B_assemble_48 : decode b_B_assemble 48 = .ok (.getfield 88, 3) := by decide +kernel
theorem d_B_assemble_51 : decode b_B_assemble 51 = .ok (.iconst 4, 1) := by decide +kernel
theorem d_B_assemble_52 : decode b_B_assemble 52 = .ok (.iadd, 1) := by decide +kernel
theorem d_B_assemble_53 : decode b_B_assemble 53 = .ok (.aload_n 0, 1) := by decide +kernel
theorem d_B_assemble_54 : decode b_B_assemble 54 = .ok (.getfield 19, 3) := by decide +kernel
theorem d_B_assemble_57 : decode b_B_assemble 57 = .ok (.iload_n 1, 1) := by decide +kernel
theorem d_B_assemble_58 : decode b_B_assemble 58 = .ok (.iaload, 1) := by decide +kernel
theorem d_B_assemble_59 : decode b_B_assemble 59 = .ok (.isub, 1) := by decide +kernel
theorem d_B_assemble_60 : decode b_B_assemble 60 = .ok (.i2l, 1) := by decide +kernel
theorem d_B_assemble_61 : decode b_B_assemble 61 = .ok (.iconst 4, 1) := by decide +kernel
theorem d_B_assemble_62 : decode b_B_assemble 62 = .ok (.invokevirtual 101, 3) := by decide +kernel
theorem d_B_assemble_65 : decode b_B_assemble 65 = .ok (.aload_n 0, 1) := by decide +kernel
theorem d_B_assemble_66 : decode b_B_assemble 66 = .ok (.getfield 88, 3) := by decide +kernel
theorem d_B_assemble_69 : decode b_B_assemble 69 = .ok (.sipush 240, 3) := by decide +kernel
theorem d_B_assemble_72 : decode b_B_assemble 72 = .ok (.if_icmp .gt 7, 3) := by decide +kernel
theorem d_B_assemble_75 : decode b_B_assemble 75 = .ok (.iconst 1, 1) := by decide +kernel
theorem d_B_assemble_76 : decode b_B_assemble 76 = .ok (.goto 4, 3) := by decide +kernel
theorem d_B_assemble_79 : decode b_B_assemble 79 = .ok (.iconst 0, 1) := by decide +kernel
theorem d_B_assemble_80 : decode b_B_assemble 80 = .ok (.ireturn, 1) := by decide +kernel
theorem d_D_takeEnd_0 : decode b_D_takeEnd 0 = .ok (.aload_n 1, 1) := by decide +kernel
theorem d_D_takeEnd_1 : decode b_D_takeEnd 1 = .ok (.sipush 240, 3) := by decide +kernel
theorem d_D_takeEnd_4 : decode b_D_takeEnd 4 = .ok (.iload_n 2, 1) := by decide +kernel
theorem d_D_takeEnd_5 : decode b_D_takeEnd 5 = .ok (.isub, 1) := by decide +kernel
theorem d_D_takeEnd_6 : decode b_D_takeEnd 6 = .ok (.aload_n 0, 1) := by decide +kernel
theorem d_D_takeEnd_7 : decode b_D_takeEnd 7 = .ok (.getfield 9, 3) := by decide +kernel
theorem d_D_takeEnd_10 : decode b_D_takeEnd 10 = .ok (.iconst 0, 1) := by decide +kernel
theorem d_D_takeEnd_11 : decode b_D_takeEnd 11 = .ok (.iload_n 2, 1) := by decide +kernel
theorem d_D_takeEnd_12 : decode b_D_takeEnd 12 = .ok (.invokestatic 15, 3) := by decide +kernel
theorem d_D_takeEnd_15 : decode b_D_takeEnd 15 = .ok (.aload_n 0, 1) := by decide +kernel
theorem d_D_takeEnd_16 : decode b_D_takeEnd 16 = .ok (.iload_n 2, 1) := by decide +kernel
theorem d_D_takeEnd_17 : decode b_D_takeEnd 17 = .ok (.putfield 21, 3) := by decide +kernel
theorem d_D_takeEnd_20 : decode b_D_takeEnd 20 = .ok (.return_, 1) := by decide +kernel
theorem d_F_build_0 : decode b_F_build 0 = .ok (.aload_n 0, 1) := by decide +kernel
theorem d_F_build_1 : decode b_F_build 1 = .ok (.getfield 19, 3) := by decide +kernel
theorem d_F_build_4 : decode b_F_build 4 = .ok (.iload_n 1, 1) := by decide +kernel
theorem d_F_build_5 : decode b_F_build 5 = .ok (.invokevirtual 124, 3) := by decide +kernel
theorem d_F_build_8 : decode b_F_build 8 = .ok (.ifCond .ne 11, 3) := by decide +kernel
theorem d_F_build_11 : decode b_F_build 11 = .ok (.new 127, 3) := by decide +kernel
theorem d_F_build_14 : decode b_F_build 14 = .ok (.dup, 1) := by decide +kernel
theorem d_F_build_15 : decode b_F_build 15 = .ok (.invokespecial 129, 3) := by decide +kernel
theorem d_F_build_18 : decode b_F_build 18 = .ok (.athrow, 1) := by decide +kernel
theorem d_F_build_19 : decode b_F_build 19 = .ok (.aload_n 0, 1) := by decide +kernel
theorem d_F_build_20 : decode b_F_build 20 = .ok (.getfield 42, 3) := by decide +kernel
theorem d_F_build_23 : decode b_F_build 23 = .ok (.iload_n 1, 1) := by decide +kernel
theorem d_F_build_24 : decode b_F_build 24 = .ok (.invokevirtual 143, 3) := by decide +kernel
theorem d_F_build_27 : decode b_F_build 27 = .ok (.ifCond .ne 11, 3) := by decide +kernel
theorem d_F_build_30 : decode b_F_build 30 = .ok (.new 81, 3) := by decide +kernel
theorem d_F_build_33 : decode b_F_build 33 = .ok (.dup, 1) := by decide +kernel
theorem d_F_build_34 : decode b_F_build 34 = .ok (.invokespecial 83, 3) := by decide +kernel
theorem d_F_build_37 : decode b_F_build 37 = .ok (.athrow, 1) := by decide +kernel
theorem d_F_build_38 : decode b_F_build 38 = .ok (.aload_n 0, 1) := by decide +kernel
theorem d_F_build_39 : decode b_F_build 39 = .ok (.getfield 42, 3) := by decide +kernel
theorem d_F_build_42 : decode b_F_build 42 = .ok (.iload_n 1, 1) := by decide +kernel
theorem d_F_build_43 : decode b_F_build 43 = .ok (.invokevirtual 146, 3) := by decide +kernel
theorem d_F_build_46 : decode b_F_build 46 = .ok (.ifCond .ne 11, 3) := by decide +kernel
theorem d_F_build_49 : decode b_F_build 49 = .ok (.new 149, 3) := by decide +kernel
theorem d_F_build_52 : decode b_F_build 52 = .ok (.dup, 1) := by decide +kernel
theorem d_F_build_53 : decode b_F_build 53 = .ok (.invokespecial 151, 3) := by decide +kernel
theorem d_F_build_56 : decode b_F_build 56 = .ok (.athrow, 1) := by decide +kernel
theorem d_F_build_57 : decode b_F_build 57 = .ok (.aload_n 0, 1) := by decide +kernel
theorem d_F_build_58 : decode b_F_build 58 = .ok (.getfield 58, 3) := by decide +kernel
theorem d_F_build_61 : decode b_F_build 61 = .ok (.invokevirtual 84, 3) := by decide +kernel
theorem d_F_build_64 : decode b_F_build 64 = .ok (.aload_n 0, 1) := by decide +kernel
theorem d_F_build_65 : decode b_F_build 65 = .ok (.getfield 33, 3) := by decide +kernel
theorem d_F_build_68 : decode b_F_build 68 = .ok (.aload_n 0, 1) := by decide +kernel
theorem d_F_build_69 : decode b_F_build 69 = .ok (.getfield 42, 3) := by decide +kernel
theorem d_F_build_72 : decode b_F_build 72 = .ok (.getfield 152, 3) := by decide +kernel
theorem d_F_build_75 : decode b_F_build 75 = .ok (.aload_n 0, 1) := by decide +kernel
theorem d_F_build_76 : decode b_F_build 76 = .ok (.getfield 42, 3) := by decide +kernel
theorem d_F_build_79 : decode b_F_build 79 = .ok (.getfield 156, 3) := by decide +kernel
theorem d_F_build_82 : decode b_F_build 82 = .ok (.invokevirtual 159, 3) := by decide +kernel
theorem d_F_build_85 : decode b_F_build 85 = .ok (.aload_n 0, 1) := by decide +kernel
theorem d_F_build_86 : decode b_F_build 86 = .ok (.getfield 33, 3) := by decide +kernel
theorem d_F_build_89 : decode b_F_build 89 = .ok (.getfield 163, 3) := by decide +kernel
theorem d_F_build_92 : decode b_F_build 92 = .ok (.ireturn, 1) := by decide +kernel
theorem m_B_assemble : kIV y_B_assemble b_B_assemble 2 (some .boolean) 1 := ⟨⟨wd_4172235e, wd_5ef1b69f, ⟨by decide, by decide⟩, by decide +kernel⟩, wd_a636a962, wd_ec5d69a3⟩
theorem m_D_takeEnd : kIV y_D_takeEnd b_D_takeEnd 3 none 2 := ⟨⟨wd_6544f839, wd_13e0721a, ⟨by decide, by decide⟩, by decide +kernel⟩, wd_01098414, wd_29fc106c⟩
theorem m_F_build : kIV y_F_build b_F_build 2 (some .int) 1 := ⟨⟨wd_0c59d784, wd_c1885a87, ⟨by decide, by decide⟩, by decide +kernel⟩, wd_e97ebb6e, wd_6967fb01⟩
set_option maxHeartbeats 4000000 in
set_option maxRecDepth 100000 in
theorem c_B_assemble (l : Launch) (D : va_G) (a : Nat → Nat) (g : Nat → ClassId) (tw : Nat) (sLen sKind : Nat → Nat) (sExt : Nat → Int32) (sMust : Nat → Bool) (rTab : Nat → Nat) (rFil : Nat → Bool) (rNum : Nat → Int64) (rLnk rLen : Nat → Nat) (rItm : Nat → Int32) (made : Nat) (pItm : Nat → Int32) (held : Nat) (dByt : Nat → Nat) (dLen : Nat) (bByt : Nat → Nat) (bRea : Nat → Bool) (bRec bItm bFld bOff bOfp : Nat → Nat) (kept wrt wid ent : Nat) (ver : Bool) (fAdr fTab adr tab : Nat) (lf : Int32) (fs : Nat)  (hf : fs < 16) (hq : SOK (SR.mk sLen sKind sExt sMust rTab rFil rNum rLnk rLen rItm)) (hO : ∀ j, bOff j < 100000 ∧ bRec j < 100000) : kM l y_B_assemble b_B_assemble 2 (some .boolean) ({ frames := 53, cells := 0, slots := 0, locals := 1184 }) D vwCl (WdT g) tw [.ref (a 5), .int (nI fs)] (Wd a g sLen sKind sExt sMust rTab rFil rNum rLnk rLen rItm made pItm held dByt dLen bByt bRea bRec bItm bFld bOff bOfp kept wrt wid ent ver fAdr fTab adr tab lf) (some (.int (bI (decide ((asP (SR.mk sLen sKind sExt sMust rTab rFil rNum rLnk rLen rItm) fs (BS.mk bByt bRec bItm bFld bOff bOfp kept wrt wid)).wrt ≤ 240))))) (Wd a g sLen sKind sExt sMust rTab rFil rNum rLnk rLen rItm made pItm held dByt dLen ((asP (SR.mk sLen sKind sExt sMust rTab rFil rNum rLnk rLen rItm) fs (BS.mk bByt bRec bItm bFld bOff bOfp kept wrt wid)).byt) bRea ((asP (SR.mk sLen sKind sExt sMust rTab rFil rNum rLnk rLen rItm) fs (BS.mk bByt bRec bItm bFld bOff bOfp kept wrt wid)).rcp) ((asP (SR.mk sLen sKind sExt sMust rTab rFil rNum rLnk rLen rItm) fs (BS.mk bByt bRec bItm bFld bOff bOfp kept wrt wid)).itm) ((asP (SR.mk sLen sKind sExt sMust rTab rFil rNum rLnk rLen rItm) fs (BS.mk bByt bRec bItm bFld bOff bOfp kept wrt wid)).fld) ((asP (SR.mk sLen sKind sExt sMust rTab rFil rNum rLnk rLen rItm) fs (BS.mk bByt bRec bItm bFld bOff bOfp kept wrt wid)).off) ((asP (SR.mk sLen sKind sExt sMust rTab rFil rNum rLnk rLen rItm) fs (BS.mk bByt bRec bItm bFld bOff bOfp kept wrt wid)).ofp) ((asP (SR.mk sLen sKind sExt sMust rTab rFil rNum rLnk rLen rItm) fs (BS.mk bByt bRec bItm bFld bOff bOfp kept wrt wid)).kept) ((asP (SR.mk sLen sKind sExt sMust rTab rFil rNum rLnk rLen rItm) fs (BS.mk bByt bRec bItm bFld bOff bOfp kept wrt wid)).wrt) ((asP (SR.mk sLen sKind sExt sMust rTab rFil rNum rLnk rLen rItm) fs (BS.mk bByt bRec bItm bFld bOff bOfp kept wrt wid)).wid) ent ver fAdr fTab adr tab lf) := by
  refine k_of (by decide) (Nat.le_of_ble_eq_true rfl) ?_
  intro p e s m below meth c A ls hx hb hr hlocks hml hts hown hin0 hA hP hK hD hS hZ hl
  have hl : lv_has ls 2 [(0, .ref (a 5)), (1, .int (nI fs))] := hl
  refine lv_aload_n hx hb d_B_assemble_0 rfl (lv_at hl 0 rfl) ?_
  refine va_get (D := D) (ci := 5) (C := R_B) (T := T_B) (N := 12) hx hb hts (fun w h => kT w (i_B w h)) hown hK hP 5 rfl rfl 2 (by decide) (hts _ (kT _ wd_9a8b7db0)) (fun _ h9 => h9) rfl d_B_assemble_1 ?_
  refine lv_iconst (v := nI 0) hx hb d_B_assemble_4 (by decide) ?_
  refine k_callS (c_A_fillB l D a g tw sLen sKind sExt sMust rTab rFil rNum rLnk rLen rItm made pItm held dByt dLen bByt bRea bRec bItm bFld bOff bOfp kept wrt wid ent ver fAdr fTab adr tab lf   ) m_A_fillB wd_68debb88 kT hx hb hml hown hts ⟨Nat.le_of_ble_eq_true rfl, Nat.le_of_ble_eq_true rfl⟩ ⟨Nat.le_of_ble_eq_true rfl, Nat.le_of_ble_eq_true rfl⟩ hK hP hD hS hA hZ hl.1 rfl rfl (Nat.le_of_ble_eq_true rfl) d_B_assemble_5 (fun H locs hP hD hS => ?_)
  have hP : va_P D vwCl (Wd a g sLen sKind sExt sMust rTab rFil rNum rLnk rLen rItm made pItm held dByt dLen (zrB bByt 240) bRea bRec bItm bFld bOff bOfp kept wrt wid ent ver fAdr fTab adr tab lf) H := hP
  have hD : va_D A (Wd a g sLen sKind sExt sMust rTab rFil rNum rLnk rLen rItm made pItm held dByt dLen (zrB bByt 240) bRea bRec bItm bFld bOff bOfp kept wrt wid ent ver fAdr fTab adr tab lf) := hD
  refine W.eq (g2 := F0 m 8 ls []) rfl ?_
  refine lv_aload_n hx hb d_B_assemble_8 rfl (lv_at hl 0 rfl) ?_
  refine va_get (D := D) (ci := 5) (C := R_B) (T := T_B) (N := 12) hx hb hts (fun w h => kT w (i_B w h)) hown hK hP 5 rfl rfl 4 (by decide) (hts _ (kT _ wd_388c15df)) (fun _ h9 => h9) rfl d_B_assemble_9 ?_
  refine lv_iconst (v := nI 0) hx hb d_B_assemble_12 (by decide) ?_
  refine k_callS (c_A_fillI l D a g tw sLen sKind sExt sMust rTab rFil rNum rLnk rLen rItm made pItm held dByt dLen (zrB bByt 240) bRea bRec bItm bFld bOff bOfp kept wrt wid ent ver fAdr fTab adr tab lf   ) m_A_fillI wd_00460b66 kT hx hb hml hown hts ⟨Nat.le_of_ble_eq_true rfl, Nat.le_of_ble_eq_true rfl⟩ ⟨Nat.le_of_ble_eq_true rfl, Nat.le_of_ble_eq_true rfl⟩ hK hP hD hS hA hZ hl.1 rfl rfl (Nat.le_of_ble_eq_true rfl) d_B_assemble_13 (fun H locs hP hD hS => ?_)
  have hP : va_P D vwCl (Wd a g sLen sKind sExt sMust rTab rFil rNum rLnk rLen rItm made pItm held dByt dLen (zrB bByt 240) bRea (zrI bRec 16) bItm bFld bOff bOfp kept wrt wid ent ver fAdr fTab adr tab lf) H := hP
  have hD : va_D A (Wd a g sLen sKind sExt sMust rTab rFil rNum rLnk rLen rItm made pItm held dByt dLen (zrB bByt 240) bRea (zrI bRec 16) bItm bFld bOff bOfp kept wrt wid ent ver fAdr fTab adr tab lf) := hD
  refine W.eq (g2 := F0 m 16 ls []) rfl ?_
  refine lv_aload_n hx hb d_B_assemble_16 rfl (lv_at hl 0 rfl) ?_
  refine lv_iconst (v := nI 0) hx hb d_B_assemble_17 (by decide) ?_
  refine va_put (D := D) (ci := 5) (ty := .int) (C := R_B) (T := T_B) (N := 12) hx hb hts (fun w h => kT w (i_B w h)) ty_B tyk_B nm_B hown hK hP hD hS 5 rfl rfl 9 (by decide) (hts _ (kT _ wd_bf45e2dc)) (fun _ h9 => h9) rfl (by decide +kernel) rfl rfl (Nat.le_of_ble_eq_true rfl) d_B_assemble_18 (fun H locs hP hD hS => ?_)
  have hP : va_P D vwCl (Wd a g sLen sKind sExt sMust rTab rFil rNum rLnk rLen rItm made pItm held dByt dLen (zrB bByt 240) bRea (zrI bRec 16) bItm bFld bOff bOfp 0 wrt wid ent ver fAdr fTab adr tab lf) H := hP
  have hD : va_D A (Wd a g sLen sKind sExt sMust rTab rFil rNum rLnk rLen rItm made pItm held dByt dLen (zrB bByt 240) bRea (zrI bRec 16) bItm bFld bOff bOfp 0 wrt wid ent ver fAdr fTab adr tab lf) := hD
  refine lv_aload_n hx hb d_B_assemble_21 rfl (lv_at hl 0 rfl) ?_
  refine lv_iconst (v := nI 0) hx hb d_B_assemble_22 (by decide) ?_
  refine va_put (D := D) (ci := 5) (ty := .int) (C := R_B) (T := T_B) (N := 12) hx hb hts (fun w h => kT w (i_B w h)) ty_B tyk_B nm_B hown hK hP hD hS 5 rfl rfl 10 (by decide) (hts _ (kT _ wd_0bdfa4a3)) (fun _ h9 => h9) rfl (by decide +kernel) rfl rfl (Nat.le_of_ble_eq_true rfl) d_B_assemble_23 (fun H locs hP hD hS => ?_)
  have hP : va_P D vwCl (Wd a g sLen sKind sExt sMust rTab rFil rNum rLnk rLen rItm made pItm held dByt dLen (zrB bByt 240) bRea (zrI bRec 16) bItm bFld bOff bOfp 0 0 wid ent ver fAdr fTab adr tab lf) H := hP
  have hD : va_D A (Wd a g sLen sKind sExt sMust rTab rFil rNum rLnk rLen rItm made pItm held dByt dLen (zrB bByt 240) bRea (zrI bRec 16) bItm bFld bOff bOfp 0 0 wid ent ver fAdr fTab adr tab lf) := hD
  refine lv_aload_n hx hb d_B_assemble_26 rfl (lv_at hl 0 rfl) ?_
  refine lv_iconst (v := nI 4) hx hb d_B_assemble_27 (by decide) ?_
  refine va_put (D := D) (ci := 5) (ty := .int) (C := R_B) (T := T_B) (N := 12) hx hb hts (fun w h => kT w (i_B w h)) ty_B tyk_B nm_B hown hK hP hD hS 5 rfl rfl 11 (by decide) (hts _ (kT _ wd_dca0ca1f)) (fun _ h9 => h9) rfl (by decide +kernel) rfl rfl (Nat.le_of_ble_eq_true rfl) d_B_assemble_28 (fun H locs hP hD hS => ?_)
  have hP : va_P D vwCl (Wd a g sLen sKind sExt sMust rTab rFil rNum rLnk rLen rItm made pItm held dByt dLen (zrB bByt 240) bRea (zrI bRec 16) bItm bFld bOff bOfp 0 0 4 ent ver fAdr fTab adr tab lf) H := hP
  have hD : va_D A (Wd a g sLen sKind sExt sMust rTab rFil rNum rLnk rLen rItm made pItm held dByt dLen (zrB bByt 240) bRea (zrI bRec 16) bItm bFld bOff bOfp 0 0 4 ent ver fAdr fTab adr tab lf) := hD
  obtain ⟨b0, hb_b0⟩ : ∃ b : BS, b = b0P (BS.mk bByt bRec bItm bFld bOff bOfp kept wrt wid) := ⟨_, rfl⟩
  have hP : va_P D vwCl (Wd a g sLen sKind sExt sMust rTab rFil rNum rLnk rLen rItm made pItm held dByt dLen ((b0P (BS.mk bByt bRec bItm bFld bOff bOfp kept wrt wid)).byt) bRea ((b0P (BS.mk bByt bRec bItm bFld bOff bOfp kept wrt wid)).rcp) ((b0P (BS.mk bByt bRec bItm bFld bOff bOfp kept wrt wid)).itm) ((b0P (BS.mk bByt bRec bItm bFld bOff bOfp kept wrt wid)).fld) ((b0P (BS.mk bByt bRec bItm bFld bOff bOfp kept wrt wid)).off) ((b0P (BS.mk bByt bRec bItm bFld bOff bOfp kept wrt wid)).ofp) ((b0P (BS.mk bByt bRec bItm bFld bOff bOfp kept wrt wid)).kept) ((b0P (BS.mk bByt bRec bItm bFld bOff bOfp kept wrt wid)).wrt) ((b0P (BS.mk bByt bRec bItm bFld bOff bOfp kept wrt wid)).wid) ent ver fAdr fTab adr tab lf) H := hP
  have hD : va_D A (Wd a g sLen sKind sExt sMust rTab rFil rNum rLnk rLen rItm made pItm held dByt dLen ((b0P (BS.mk bByt bRec bItm bFld bOff bOfp kept wrt wid)).byt) bRea ((b0P (BS.mk bByt bRec bItm bFld bOff bOfp kept wrt wid)).rcp) ((b0P (BS.mk bByt bRec bItm bFld bOff bOfp kept wrt wid)).itm) ((b0P (BS.mk bByt bRec bItm bFld bOff bOfp kept wrt wid)).fld) ((b0P (BS.mk bByt bRec bItm bFld bOff bOfp kept wrt wid)).off) ((b0P (BS.mk bByt bRec bItm bFld bOff bOfp kept wrt wid)).ofp) ((b0P (BS.mk bByt bRec bItm bFld bOff bOfp kept wrt wid)).kept) ((b0P (BS.mk bByt bRec bItm bFld bOff bOfp kept wrt wid)).wrt) ((b0P (BS.mk bByt bRec bItm bFld bOff bOfp kept wrt wid)).wid) ent ver fAdr fTab adr tab lf) := hD
  have hbi := b0P_bi (b := (BS.mk bByt bRec bItm bFld bOff bOfp kept wrt wid)) hO
  rw [← hb_b0] at hP hD hbi
  refine lv_aload_n hx hb d_B_assemble_31 rfl (lv_at hl 0 rfl) ?_
  refine lv_iload_n hx hb d_B_assemble_32 rfl (lv_at hl 1 rfl) ?_
  refine lv_iconst (v := nI 1) hx hb d_B_assemble_33 (by decide) ?_
  refine k_callV (c_B_putRecord16 l D a g tw sLen sKind sExt sMust rTab rFil rNum rLnk rLen rItm made pItm held dByt dLen b0.byt bRea b0.rcp b0.itm b0.fld b0.off b0.ofp b0.kept b0.wrt b0.wid ent ver fAdr fTab adr tab lf fs 1  hf (by omega) (Nat.le_refl _) hq hbi) m_B_putRecord wd_a587e93e 5 5 rfl rfl rfl kT hx hb hml hown hts ⟨Nat.le_of_ble_eq_true rfl, Nat.le_of_ble_eq_true rfl⟩ ⟨Nat.le_of_ble_eq_true rfl, Nat.le_of_ble_eq_true rfl⟩ hK hP hD hS hA hZ hl.1 rfl rfl (Nat.le_of_ble_eq_true rfl) d_B_assemble_34 (fun H locs hP hD hS => ?_)
  have hP : va_P D vwCl (Wd a g sLen sKind sExt sMust rTab rFil rNum rLnk rLen rItm made pItm held dByt dLen ((prF (SR.mk sLen sKind sExt sMust rTab rFil rNum rLnk rLen rItm) 16 fs b0).byt) bRea ((prF (SR.mk sLen sKind sExt sMust rTab rFil rNum rLnk rLen rItm) 16 fs b0).rcp) ((prF (SR.mk sLen sKind sExt sMust rTab rFil rNum rLnk rLen rItm) 16 fs b0).itm) ((prF (SR.mk sLen sKind sExt sMust rTab rFil rNum rLnk rLen rItm) 16 fs b0).fld) ((prF (SR.mk sLen sKind sExt sMust rTab rFil rNum rLnk rLen rItm) 16 fs b0).off) ((prF (SR.mk sLen sKind sExt sMust rTab rFil rNum rLnk rLen rItm) 16 fs b0).ofp) ((prF (SR.mk sLen sKind sExt sMust rTab rFil rNum rLnk rLen rItm) 16 fs b0).kept) ((prF (SR.mk sLen sKind sExt sMust rTab rFil rNum rLnk rLen rItm) 16 fs b0).wrt) ((prF (SR.mk sLen sKind sExt sMust rTab rFil rNum rLnk rLen rItm) 16 fs b0).wid) ent ver fAdr fTab adr tab lf) H := hP
  have hD : va_D A (Wd a g sLen sKind sExt sMust rTab rFil rNum rLnk rLen rItm made pItm held dByt dLen ((prF (SR.mk sLen sKind sExt sMust rTab rFil rNum rLnk rLen rItm) 16 fs b0).byt) bRea ((prF (SR.mk sLen sKind sExt sMust rTab rFil rNum rLnk rLen rItm) 16 fs b0).rcp) ((prF (SR.mk sLen sKind sExt sMust rTab rFil rNum rLnk rLen rItm) 16 fs b0).itm) ((prF (SR.mk sLen sKind sExt sMust rTab rFil rNum rLnk rLen rItm) 16 fs b0).fld) ((prF (SR.mk sLen sKind sExt sMust rTab rFil rNum rLnk rLen rItm) 16 fs b0).off) ((prF (SR.mk sLen sKind sExt sMust rTab rFil rNum rLnk rLen rItm) 16 fs b0).ofp) ((prF (SR.mk sLen sKind sExt sMust rTab rFil rNum rLnk rLen rItm) 16 fs b0).kept) ((prF (SR.mk sLen sKind sExt sMust rTab rFil rNum rLnk rLen rItm) 16 fs b0).wrt) ((prF (SR.mk sLen sKind sExt sMust rTab rFil rNum rLnk rLen rItm) 16 fs b0).wid) ent ver fAdr fTab adr tab lf) := hD
  refine W.eq (g2 := F0 m 37 ls []) rfl ?_
  obtain ⟨b1, hb_b1⟩ : ∃ b : BS, b = prF (SR.mk sLen sKind sExt sMust rTab rFil rNum rLnk rLen rItm) 16 fs b0 := ⟨_, rfl⟩
  have hP : va_P D vwCl (Wd a g sLen sKind sExt sMust rTab rFil rNum rLnk rLen rItm made pItm held dByt dLen ((prF (SR.mk sLen sKind sExt sMust rTab rFil rNum rLnk rLen rItm) 16 fs b0).byt) bRea ((prF (SR.mk sLen sKind sExt sMust rTab rFil rNum rLnk rLen rItm) 16 fs b0).rcp) ((prF (SR.mk sLen sKind sExt sMust rTab rFil rNum rLnk rLen rItm) 16 fs b0).itm) ((prF (SR.mk sLen sKind sExt sMust rTab rFil rNum rLnk rLen rItm) 16 fs b0).fld) ((prF (SR.mk sLen sKind sExt sMust rTab rFil rNum rLnk rLen rItm) 16 fs b0).off) ((prF (SR.mk sLen sKind sExt sMust rTab rFil rNum rLnk rLen rItm) 16 fs b0).ofp) ((prF (SR.mk sLen sKind sExt sMust rTab rFil rNum rLnk rLen rItm) 16 fs b0).kept) ((prF (SR.mk sLen sKind sExt sMust rTab rFil rNum rLnk rLen rItm) 16 fs b0).wrt) ((prF (SR.mk sLen sKind sExt sMust rTab rFil rNum rLnk rLen rItm) 16 fs b0).wid) ent ver fAdr fTab adr tab lf) H := hP
  have hD : va_D A (Wd a g sLen sKind sExt sMust rTab rFil rNum rLnk rLen rItm made pItm held dByt dLen ((prF (SR.mk sLen sKind sExt sMust rTab rFil rNum rLnk rLen rItm) 16 fs b0).byt) bRea ((prF (SR.mk sLen sKind sExt sMust rTab rFil rNum rLnk rLen rItm) 16 fs b0).rcp) ((prF (SR.mk sLen sKind sExt sMust rTab rFil rNum rLnk rLen rItm) 16 fs b0).itm) ((prF (SR.mk sLen sKind sExt sMust rTab rFil rNum rLnk rLen rItm) 16 fs b0).fld) ((prF (SR.mk sLen sKind sExt sMust rTab rFil rNum rLnk rLen rItm) 16 fs b0).off) ((prF (SR.mk sLen sKind sExt sMust rTab rFil rNum rLnk rLen rItm) 16 fs b0).ofp) ((prF (SR.mk sLen sKind sExt sMust rTab rFil rNum rLnk rLen rItm) 16 fs b0).kept) ((prF (SR.mk sLen sKind sExt sMust rTab rFil rNum rLnk rLen rItm) 16 fs b0).wrt) ((prF (SR.mk sLen sKind sExt sMust rTab rFil rNum rLnk rLen rItm) 16 fs b0).wid) ent ver fAdr fTab adr tab lf) := hD
  have hgr := (prF_gr hq 16 fs 1 b0 hf (by omega) (Nat.le_refl _) hbi).1
  rw [← hb_b1] at hP hD hgr
  have hb1 : BI 1 b1 := GR.bi hbi hgr (by omega)
  have hcn := cnN_le b1.rcp 16
  have hw1 : b1.wrt < 50000 := by have := hb1.1; omega
  have hw8 : pow8 b1.wid := by rcases hb1.2.2.1 with h | h; exact Or.inr (Or.inr (Or.inl h)); exact Or.inr (Or.inr (Or.inr h))
  have hw9 : b1.wid ≤ 8 := by have := hb1.2.2.1; omega
  have hal := alN_lt (a := b1.wrt) (h := 4) hw8
  have hal2 := alN4_lt (alN b1.wid b1.wrt 4) 0
  refine lv_aload_n hx hb d_B_assemble_37 rfl (lv_at hl 0 rfl) ?_
  refine lv_aload_n hx hb d_B_assemble_38 rfl (lv_at hl 0 rfl) ?_
  refine va_get (D := D) (ci := 5) (C := R_B) (T := T_B) (N := 12) hx hb hts (fun w h => kT w (i_B w h)) hown hK hP 5 rfl rfl 11 (by decide) (hts _ (kT _ wd_dca0ca1f)) (fun _ h9 => h9) rfl d_B_assemble_39 ?_
  refine lv_iconst (v := nI 4) hx hb d_B_assemble_42 (by decide) ?_
  refine k_callV (c_B_alignTo l D a g tw sLen sKind sExt sMust rTab rFil rNum rLnk rLen rItm made pItm held dByt dLen b1.byt bRea b1.rcp b1.itm b1.fld b1.off b1.ofp b1.kept b1.wrt b1.wid ent ver fAdr fTab adr tab lf b1.wid 4  hw8 (by omega) (by omega) (by omega)) m_B_alignTo wd_0bd63fdc 5 5 rfl rfl rfl kT hx hb hml hown hts ⟨Nat.le_of_ble_eq_true rfl, Nat.le_of_ble_eq_true rfl⟩ ⟨Nat.le_of_ble_eq_true rfl, Nat.le_of_ble_eq_true rfl⟩ hK hP hD hS hA hZ hl.1 rfl rfl (Nat.le_of_ble_eq_true rfl) d_B_assemble_43 (fun H locs hP hD hS => ?_)
  have hP : va_P D vwCl (Wd a g sLen sKind sExt sMust rTab rFil rNum rLnk rLen rItm made pItm held dByt dLen b1.byt bRea b1.rcp b1.itm b1.fld b1.off b1.ofp b1.kept (alN b1.wid b1.wrt 4) (max b1.wid b1.wid) ent ver fAdr fTab adr tab lf) H := hP
  have hD : va_D A (Wd a g sLen sKind sExt sMust rTab rFil rNum rLnk rLen rItm made pItm held dByt dLen b1.byt bRea b1.rcp b1.itm b1.fld b1.off b1.ofp b1.kept (alN b1.wid b1.wrt 4) (max b1.wid b1.wid) ent ver fAdr fTab adr tab lf) := hD
  refine W.eq (g2 := F0 m 46 ls []) rfl ?_
  refine lv_aload_n hx hb d_B_assemble_46 rfl (lv_at hl 0 rfl) ?_
  refine lv_aload_n hx hb d_B_assemble_47 rfl (lv_at hl 0 rfl) ?_
  refine va_get (D := D) (ci := 5) (C := R_B) (T := T_B) (N := 12) hx hb hts (fun w h => kT w (i_B w h)) hown hK hP 5 rfl rfl 10 (by decide) (hts _ (kT _ wd_0bdfa4a3)) (fun _ h9 => h9) rfl d_B_assemble_48 ?_
  refine lv_iconst (v := nI 4) hx hb d_B_assemble_51 (by decide) ?_
  refine lv_iadd hx hb d_B_assemble_52 ?_
  refine lv_eqi (nI_add _ _) ?_
  refine lv_aload_n hx hb d_B_assemble_53 rfl (lv_at hl 0 rfl) ?_
  refine va_get (D := D) (ci := 5) (C := R_B) (T := T_B) (N := 12) hx hb hts (fun w h => kT w (i_B w h)) hown hK hP 5 rfl rfl 4 (by decide) (hts _ (kT _ wd_388c15df)) (fun _ h9 => h9) rfl d_B_assemble_54 ?_
  refine lv_iload_n hx hb d_B_assemble_57 rfl (lv_at hl 1 rfl) ?_
  refine n_iald hx hb hK hP 22 14 rfl rfl (i := fs) (by omega) (by decide) d_B_assemble_58 ?_
  refine lv_isub hx hb d_B_assemble_59 ?_
  refine lv_i2l hx hb d_B_assemble_60 rfl ?_
  refine lv_iconst (v := nI 4) hx hb d_B_assemble_61 (by decide) ?_
  refine k_callV (c_B_putNumber l D a g tw sLen sKind sExt sMust rTab rFil rNum rLnk rLen rItm made pItm held dByt dLen b1.byt bRea b1.rcp b1.itm b1.fld b1.off b1.ofp b1.kept (alN b1.wid b1.wrt 4) (max b1.wid b1.wid) ent ver fAdr fTab adr tab lf (((nI ((alN b1.wid b1.wrt 4) + 4)) - (nI (b1.rcp fs))).toInt64) 4  (Or.inr (Or.inr (Or.inl rfl))) (by omega) (by omega)) m_B_putNumber wd_252b710e 5 5 rfl rfl rfl kT hx hb hml hown hts ⟨Nat.le_of_ble_eq_true rfl, Nat.le_of_ble_eq_true rfl⟩ ⟨Nat.le_of_ble_eq_true rfl, Nat.le_of_ble_eq_true rfl⟩ hK hP hD hS hA hZ hl.1 rfl rfl (Nat.le_of_ble_eq_true rfl) d_B_assemble_62 (fun H locs hP hD hS => ?_)
  have hP : va_P D vwCl (Wd a g sLen sKind sExt sMust rTab rFil rNum rLnk rLen rItm made pItm held dByt dLen (wN b1.byt (alN b1.wid b1.wrt 4) (((nI ((alN b1.wid b1.wrt 4) + 4)) - (nI (b1.rcp fs))).toInt64) 4) bRea b1.rcp b1.itm b1.fld b1.off b1.ofp b1.kept (alN 4 (alN b1.wid b1.wrt 4) 0 + 4) (max (max b1.wid b1.wid) 4) ent ver fAdr fTab adr tab lf) H := hP
  have hD : va_D A (Wd a g sLen sKind sExt sMust rTab rFil rNum rLnk rLen rItm made pItm held dByt dLen (wN b1.byt (alN b1.wid b1.wrt 4) (((nI ((alN b1.wid b1.wrt 4) + 4)) - (nI (b1.rcp fs))).toInt64) 4) bRea b1.rcp b1.itm b1.fld b1.off b1.ofp b1.kept (alN 4 (alN b1.wid b1.wrt 4) 0 + 4) (max (max b1.wid b1.wid) 4) ent ver fAdr fTab adr tab lf) := hD
  refine W.eq (g2 := F0 m 65 ls []) rfl ?_
  refine lv_aload_n hx hb d_B_assemble_65 rfl (lv_at hl 0 rfl) ?_
  refine va_get (D := D) (ci := 5) (C := R_B) (T := T_B) (N := 12) hx hb hts (fun w h => kT w (i_B w h)) hown hK hP 5 rfl rfl 10 (by decide) (hts _ (kT _ wd_0bdfa4a3)) (fun _ h9 => h9) rfl d_B_assemble_66 ?_
  refine lv_sipush (v := nI 240) hx hb d_B_assemble_69 (by decide) ?_
  refine lv_icmp_gt (tgt := 79) hx hb d_B_assemble_72 (by decide) (fun c_72 => ?_) (fun c_72 => ?_)
  · skip
    have c_72 := (nI_ltI (by omega) (by omega)).mp c_72
    refine lv_iconst (v := nI 0) hx hb d_B_assemble_79 (by decide) ?_
    exact k_zret hx hb hr hlocks hK hP hD hS (trivial) (by rw [nI_bI0, asP, ← hb_b0, ← hb_b1]; exact congrArg bI (decide_eq_false (show ¬ alN 4 (alN b1.wid b1.wrt 4) 0 + 4 ≤ 240 by omega)).symm) (by rw [asP, ← hb_b0, ← hb_b1]; rfl) (bI_nar _) d_B_assemble_80
  · skip
    have c_72 := mt (nI_ltI (by omega) (by omega)).mpr c_72
    refine lv_iconst (v := nI 1) hx hb d_B_assemble_75 (by decide) ?_
    refine lv_goto (tgt := 80) hx hb d_B_assemble_76 (by decide) ?_
    exact k_zret hx hb hr hlocks hK hP hD hS (trivial) (by rw [nI_bI1, asP, ← hb_b0, ← hb_b1]; exact congrArg bI (decide_eq_true (show alN 4 (alN b1.wid b1.wrt 4) 0 + 4 ≤ 240 by omega)).symm) (by rw [asP, ← hb_b0, ← hb_b1]; rfl) (bI_nar _) d_B_assemble_80
set_option maxHeartbeats 4000000 in
set_option maxRecDepth 100000 in
theorem c_Data_takeEnd (l : Launch) (D : va_G) (a : Nat → Nat) (g : Nat → ClassId) (tw : Nat) (sLen sKind : Nat → Nat) (sExt : Nat → Int32) (sMust : Nat → Bool) (rTab : Nat → Nat) (rFil : Nat → Bool) (rNum : Nat → Int64) (rLnk rLen : Nat → Nat) (rItm : Nat → Int32) (made : Nat) (pItm : Nat → Int32) (held : Nat) (dByt : Nat → Nat) (dLen : Nat) (bByt : Nat → Nat) (bRea : Nat → Bool) (bRec bItm bFld bOff bOfp : Nat → Nat) (kept wrt wid ent : Nat) (ver : Bool) (fAdr fTab adr tab : Nat) (lf : Int32) (sz : Nat)  (hz : sz ≤ 240) : kM l y_D_takeEnd b_D_takeEnd 3 none ({ frames := 1, cells := 0, slots := 0, locals := 59 }) D vwCl (WdT g) tw [.ref (a 4), .ref (a 20), .int (nI sz)] (Wd a g sLen sKind sExt sMust rTab rFil rNum rLnk rLen rItm made pItm held dByt dLen bByt bRea bRec bItm bFld bOff bOfp kept wrt wid ent ver fAdr fTab adr tab lf) none (Wd a g sLen sKind sExt sMust rTab rFil rNum rLnk rLen rItm made pItm held (tkE bByt dByt sz) sz bByt bRea bRec bItm bFld bOff bOfp kept wrt wid ent ver fAdr fTab adr tab lf) := by
  refine k_of (by decide) (Nat.le_of_ble_eq_true rfl) ?_
  intro p e s m below meth c A ls hx hb hr hlocks hml hts hown hin0 hA hP hK hD hS hZ hl
  have hl : lv_has ls 3 [(0, .ref (a 4)), (1, .ref (a 20)), (2, .int (nI sz))] := hl
  refine lv_aload_n hx hb d_D_takeEnd_0 rfl (lv_at hl 1 rfl) ?_
  refine lv_sipush (v := nI 240) hx hb d_D_takeEnd_1 (by decide) ?_
  refine lv_iload_n hx hb d_D_takeEnd_4 rfl (lv_at hl 2 rfl) ?_
  refine lv_isub hx hb d_D_takeEnd_5 ?_
  refine lv_eqi (pk_sub (by omega)) ?_
  refine lv_aload_n hx hb d_D_takeEnd_6 rfl (lv_at hl 0 rfl) ?_
  refine va_get (D := D) (ci := 4) (C := R_D) (T := T_D) (N := 2) hx hb hts (fun w h => kT w (i_D w h)) hown hK hP 4 rfl rfl 0 (by decide) (hts _ (kT _ wd_ce39cd87)) (fun _ h9 => h9) rfl d_D_takeEnd_7 ?_
  refine lv_iconst (v := nI 0) hx hb d_D_takeEnd_10 (by decide) ?_
  refine lv_iload_n hx hb d_D_takeEnd_11 rfl (lv_at hl 2 rfl) ?_
  refine rv_copy hx hb (hml.trans hl.1.symm) hown (hts _ (kT _ wd_1ff46e1b)) (hts _ (kT _ wd_a648c8f7)) (hts _ (kT _ wd_410d49e2)) (hts _ (kT _ wd_4260ffab)) hK hP hD hS 20 19 12 11 rfl rfl rfl rfl (n := sz) (by omega) (Nat.le_of_ble_eq_true rfl) (Nat.le_of_ble_eq_true rfl) d_D_takeEnd_12 (fun H locs hP hD hS => ?_)
  have hP : va_P D vwCl (Wd a g sLen sKind sExt sMust rTab rFil rNum rLnk rLen rItm made pItm held (tkE bByt dByt sz) dLen bByt bRea bRec bItm bFld bOff bOfp kept wrt wid ent ver fAdr fTab adr tab lf) H := hP
  have hD : va_D A (Wd a g sLen sKind sExt sMust rTab rFil rNum rLnk rLen rItm made pItm held (tkE bByt dByt sz) dLen bByt bRea bRec bItm bFld bOff bOfp kept wrt wid ent ver fAdr fTab adr tab lf) := hD
  refine lv_aload_n hx hb d_D_takeEnd_15 rfl (lv_at hl 0 rfl) ?_
  refine lv_iload_n hx hb d_D_takeEnd_16 rfl (lv_at hl 2 rfl) ?_
  refine va_put (D := D) (ci := 4) (ty := .int) (C := R_D) (T := T_D) (N := 2) hx hb hts (fun w h => kT w (i_D w h)) ty_D tyk_D nm_D hown hK hP hD hS 4 rfl rfl 1 (by decide) (hts _ (kT _ wd_79aa8a7f)) (fun _ h9 => h9) rfl (by decide +kernel) rfl rfl (Nat.le_of_ble_eq_true rfl) d_D_takeEnd_17 (fun H locs hP hD hS => ?_)
  have hP : va_P D vwCl (Wd a g sLen sKind sExt sMust rTab rFil rNum rLnk rLen rItm made pItm held (tkE bByt dByt sz) sz bByt bRea bRec bItm bFld bOff bOfp kept wrt wid ent ver fAdr fTab adr tab lf) H := hP
  have hD : va_D A (Wd a g sLen sKind sExt sMust rTab rFil rNum rLnk rLen rItm made pItm held (tkE bByt dByt sz) sz bByt bRea bRec bItm bFld bOff bOfp kept wrt wid ent ver fAdr fTab adr tab lf) := hD
  exact k_vret hx hb hr hlocks hK hP hD hS (trivial) (rfl) d_D_takeEnd_20
set_option maxHeartbeats 4000000 in
set_option maxRecDepth 100000 in
theorem c_build (l : Launch) (hl0 : l.stackTraces = false) (D : va_G) (a : Nat → Nat) (g : Nat → ClassId) (tw : Nat) (sLen sKind : Nat → Nat) (sExt : Nat → Int32) (sMust : Nat → Bool) (rTab : Nat → Nat) (rFil : Nat → Bool) (rNum : Nat → Int64) (rLnk rLen : Nat → Nat) (rItm : Nat → Int32) (made : Nat) (pItm : Nat → Int32) (held : Nat) (dByt : Nat → Nat) (dLen : Nat) (bByt : Nat → Nat) (bRea : Nat → Bool) (bRec bItm bFld bOff bOfp : Nat → Nat) (kept wrt wid ent : Nat) (ver : Bool) (fAdr fTab adr tab : Nat) (lf : Int32) (x : Int32)  (hm : made ≤ 16) (hq : SOK (SR.mk sLen sKind sExt sMust rTab rFil rNum rLnk rLen rItm)) (hO : ∀ j, bOff j < 100000 ∧ bRec j < 100000) : kMX l y_F_build b_F_build 2 (some .int) ({ frames := 54, cells := 1, slots := 6, locals := 1205 }) D vwCl (WdT g) tw [.ref (a 0), .int x] (Wd a g sLen sKind sExt sMust rTab rFil rNum rLnk rLen rItm made pItm held dByt dLen bByt bRea bRec bItm bFld bOff bOfp kept wrt wid ent ver fAdr fTab adr tab lf) (cdBuild (SR.mk sLen sKind sExt sMust rTab rFil rNum rLnk rLen rItm) made bRea (BS.mk bByt bRec bItm bFld bOff bOfp kept wrt wid) x = 0) (some (.int (nI (asP (SR.mk sLen sKind sExt sMust rTab rFil rNum rLnk rLen rItm) (cN x) (BS.mk bByt bRec bItm bFld bOff bOfp kept wrt wid)).wrt))) (Wd a g sLen sKind sExt sMust rTab rFil rNum rLnk rLen rItm made pItm held (tkE (asP (SR.mk sLen sKind sExt sMust rTab rFil rNum rLnk rLen rItm) (cN x) (BS.mk bByt bRec bItm bFld bOff bOfp kept wrt wid)).byt dByt (asP (SR.mk sLen sKind sExt sMust rTab rFil rNum rLnk rLen rItm) (cN x) (BS.mk bByt bRec bItm bFld bOff bOfp kept wrt wid)).wrt) ((asP (SR.mk sLen sKind sExt sMust rTab rFil rNum rLnk rLen rItm) (cN x) (BS.mk bByt bRec bItm bFld bOff bOfp kept wrt wid)).wrt) ((asP (SR.mk sLen sKind sExt sMust rTab rFil rNum rLnk rLen rItm) (cN x) (BS.mk bByt bRec bItm bFld bOff bOfp kept wrt wid)).byt) ((whR (SR.mk sLen sKind sExt sMust rTab rFil rNum rLnk rLen rItm) (cN x) (rcR (cN x) bRea 16) (cN x + 1)).2) ((asP (SR.mk sLen sKind sExt sMust rTab rFil rNum rLnk rLen rItm) (cN x) (BS.mk bByt bRec bItm bFld bOff bOfp kept wrt wid)).rcp) ((asP (SR.mk sLen sKind sExt sMust rTab rFil rNum rLnk rLen rItm) (cN x) (BS.mk bByt bRec bItm bFld bOff bOfp kept wrt wid)).itm) ((asP (SR.mk sLen sKind sExt sMust rTab rFil rNum rLnk rLen rItm) (cN x) (BS.mk bByt bRec bItm bFld bOff bOfp kept wrt wid)).fld) ((asP (SR.mk sLen sKind sExt sMust rTab rFil rNum rLnk rLen rItm) (cN x) (BS.mk bByt bRec bItm bFld bOff bOfp kept wrt wid)).off) ((asP (SR.mk sLen sKind sExt sMust rTab rFil rNum rLnk rLen rItm) (cN x) (BS.mk bByt bRec bItm bFld bOff bOfp kept wrt wid)).ofp) ((asP (SR.mk sLen sKind sExt sMust rTab rFil rNum rLnk rLen rItm) (cN x) (BS.mk bByt bRec bItm bFld bOff bOfp kept wrt wid)).kept) ((asP (SR.mk sLen sKind sExt sMust rTab rFil rNum rLnk rLen rItm) (cN x) (BS.mk bByt bRec bItm bFld bOff bOfp kept wrt wid)).wrt) ((asP (SR.mk sLen sKind sExt sMust rTab rFil rNum rLnk rLen rItm) (cN x) (BS.mk bByt bRec bItm bFld bOff bOfp kept wrt wid)).wid) ent false fAdr fTab adr tab lf) (fun E => (E = xNS ∧ cdBuild (SR.mk sLen sKind sExt sMust rTab rFil rNum rLnk rLen rItm) made bRea (BS.mk bByt bRec bItm bFld bOff bOfp kept wrt wid) x = 1) ∨ (E = xIS ∧ cdBuild (SR.mk sLen sKind sExt sMust rTab rFil rNum rLnk rLen rItm) made bRea (BS.mk bByt bRec bItm bFld bOff bOfp kept wrt wid) x = 2) ∨ (E = xIO ∧ cdBuild (SR.mk sLen sKind sExt sMust rTab rFil rNum rLnk rLen rItm) made bRea (BS.mk bByt bRec bItm bFld bOff bOfp kept wrt wid) x = 3)) (Wd a g sLen sKind sExt sMust rTab rFil rNum rLnk rLen rItm made pItm held dByt dLen (if cdBuild (SR.mk sLen sKind sExt sMust rTab rFil rNum rLnk rLen rItm) made bRea (BS.mk bByt bRec bItm bFld bOff bOfp kept wrt wid) x = 3 then (asP (SR.mk sLen sKind sExt sMust rTab rFil rNum rLnk rLen rItm) (cN x) (BS.mk bByt bRec bItm bFld bOff bOfp kept wrt wid)).byt else bByt) (if hasF made x = true then (whR (SR.mk sLen sKind sExt sMust rTab rFil rNum rLnk rLen rItm) (cN x) (rcR (cN x) bRea 16) (cN x + 1)).2 else bRea) (if cdBuild (SR.mk sLen sKind sExt sMust rTab rFil rNum rLnk rLen rItm) made bRea (BS.mk bByt bRec bItm bFld bOff bOfp kept wrt wid) x = 3 then (asP (SR.mk sLen sKind sExt sMust rTab rFil rNum rLnk rLen rItm) (cN x) (BS.mk bByt bRec bItm bFld bOff bOfp kept wrt wid)).rcp else bRec) (if cdBuild (SR.mk sLen sKind sExt sMust rTab rFil rNum rLnk rLen rItm) made bRea (BS.mk bByt bRec bItm bFld bOff bOfp kept wrt wid) x = 3 then (asP (SR.mk sLen sKind sExt sMust rTab rFil rNum rLnk rLen rItm) (cN x) (BS.mk bByt bRec bItm bFld bOff bOfp kept wrt wid)).itm else bItm) (if cdBuild (SR.mk sLen sKind sExt sMust rTab rFil rNum rLnk rLen rItm) made bRea (BS.mk bByt bRec bItm bFld bOff bOfp kept wrt wid) x = 3 then (asP (SR.mk sLen sKind sExt sMust rTab rFil rNum rLnk rLen rItm) (cN x) (BS.mk bByt bRec bItm bFld bOff bOfp kept wrt wid)).fld else bFld) (if cdBuild (SR.mk sLen sKind sExt sMust rTab rFil rNum rLnk rLen rItm) made bRea (BS.mk bByt bRec bItm bFld bOff bOfp kept wrt wid) x = 3 then (asP (SR.mk sLen sKind sExt sMust rTab rFil rNum rLnk rLen rItm) (cN x) (BS.mk bByt bRec bItm bFld bOff bOfp kept wrt wid)).off else bOff) (if cdBuild (SR.mk sLen sKind sExt sMust rTab rFil rNum rLnk rLen rItm) made bRea (BS.mk bByt bRec bItm bFld bOff bOfp kept wrt wid) x = 3 then (asP (SR.mk sLen sKind sExt sMust rTab rFil rNum rLnk rLen rItm) (cN x) (BS.mk bByt bRec bItm bFld bOff bOfp kept wrt wid)).ofp else bOfp) (if cdBuild (SR.mk sLen sKind sExt sMust rTab rFil rNum rLnk rLen rItm) made bRea (BS.mk bByt bRec bItm bFld bOff bOfp kept wrt wid) x = 3 then (asP (SR.mk sLen sKind sExt sMust rTab rFil rNum rLnk rLen rItm) (cN x) (BS.mk bByt bRec bItm bFld bOff bOfp kept wrt wid)).kept else kept) (if cdBuild (SR.mk sLen sKind sExt sMust rTab rFil rNum rLnk rLen rItm) made bRea (BS.mk bByt bRec bItm bFld bOff bOfp kept wrt wid) x = 3 then (asP (SR.mk sLen sKind sExt sMust rTab rFil rNum rLnk rLen rItm) (cN x) (BS.mk bByt bRec bItm bFld bOff bOfp kept wrt wid)).wrt else wrt) (if cdBuild (SR.mk sLen sKind sExt sMust rTab rFil rNum rLnk rLen rItm) made bRea (BS.mk bByt bRec bItm bFld bOff bOfp kept wrt wid) x = 3 then (asP (SR.mk sLen sKind sExt sMust rTab rFil rNum rLnk rLen rItm) (cN x) (BS.mk bByt bRec bItm bFld bOff bOfp kept wrt wid)).wid else wid) ent ver fAdr fTab adr tab lf) := by
  refine k_ofX (by decide) (Nat.le_of_ble_eq_true rfl) ?_
  intro p e s m below meth c A ls hx hb hr hlocks hml hex hts hown hA hP hK hD hS hZ hl
  have hl : lv_has ls 2 [(0, .ref (a 0)), (1, .int x)] := hl
  refine lv_aload_n hx hb d_F_build_0 rfl (lv_at hl 0 rfl) ?_
  refine va_get (D := D) (ci := 0) (C := R_F) (T := T_F) (N := 8) hx hb hts (fun w h => kT w (i_F w h)) hown hK hP 0 rfl rfl 1 (by decide) (hts _ (kT _ wd_20c3854e)) (fun _ h9 => h9) rfl d_F_build_1 ?_
  refine lv_iload_n hx hb d_F_build_4 rfl (lv_at hl 1 rfl) ?_
  refine k_callV (c_Records_holds l D a g tw sLen sKind sExt sMust rTab rFil rNum rLnk rLen rItm made pItm held dByt dLen bByt bRea bRec bItm bFld bOff bOfp kept wrt wid ent ver fAdr fTab adr tab lf x  ) m_R_holds wd_bd0a1414 2 2 rfl rfl rfl kT hx hb hml hown hts ⟨Nat.le_of_ble_eq_true rfl, Nat.le_of_ble_eq_true rfl⟩ ⟨Nat.le_of_ble_eq_true rfl, Nat.le_of_ble_eq_true rfl⟩ hK hP hD hS hA hZ hl.1 rfl rfl (Nat.le_of_ble_eq_true rfl) d_F_build_5 (fun H locs hP hD hS => ?_)
  have hP : va_P D vwCl (Wd a g sLen sKind sExt sMust rTab rFil rNum rLnk rLen rItm made pItm held dByt dLen bByt bRea bRec bItm bFld bOff bOfp kept wrt wid ent ver fAdr fTab adr tab lf) H := hP
  have hD : va_D A (Wd a g sLen sKind sExt sMust rTab rFil rNum rLnk rLen rItm made pItm held dByt dLen bByt bRea bRec bItm bFld bOff bOfp kept wrt wid ent ver fAdr fTab adr tab lf) := hD
  refine W.eq (g2 := F0 m 8 ls [.int (bI (hasF made x))]) rfl ?_
  refine lv_if_ne (tgt := 19) hx hb d_F_build_8 (by decide) (fun c_8 => ?_) (fun c_8 => ?_)
  · skip
    have c_8 := mt (bI_0).mpr c_8
    have c_8 := eq_true_of_ne_false c_8
    obtain ⟨n_x, b_x⟩ := hasF_spec (by omega) c_8
    have hl : lv_has ls 2 [(0, .ref (a 0)), (1, .int (nI (cN x)))] := by rw [← n_x]; exact hl
    refine lv_aload_n hx hb d_F_build_19 rfl (lv_at hl 0 rfl) ?_
    refine va_get (D := D) (ci := 0) (C := R_F) (T := T_F) (N := 8) hx hb hts (fun w h => kT w (i_F w h)) hown hK hP 0 rfl rfl 4 (by decide) (hts _ (kT _ wd_7ed87276)) (fun _ h9 => h9) rfl d_F_build_20 ?_
    refine lv_iload_n hx hb d_F_build_23 rfl (lv_at hl 1 rfl) ?_
    refine k_callV (c_B_isWhole l D a g tw sLen sKind sExt sMust rTab rFil rNum rLnk rLen rItm made pItm held dByt dLen bByt bRea bRec bItm bFld bOff bOfp kept wrt wid ent ver fAdr fTab adr tab lf (cN x)  (by omega) hq) m_B_isWhole wd_919920a1 5 5 rfl rfl rfl kT hx hb hml hown hts ⟨Nat.le_of_ble_eq_true rfl, Nat.le_of_ble_eq_true rfl⟩ ⟨Nat.le_of_ble_eq_true rfl, Nat.le_of_ble_eq_true rfl⟩ hK hP hD hS hA hZ hl.1 rfl rfl (Nat.le_of_ble_eq_true rfl) d_F_build_24 (fun H locs hP hD hS => ?_)
    have hP : va_P D vwCl (Wd a g sLen sKind sExt sMust rTab rFil rNum rLnk rLen rItm made pItm held dByt dLen bByt ((whR (SR.mk sLen sKind sExt sMust rTab rFil rNum rLnk rLen rItm) (cN x) (rcR (cN x) bRea 16) ((cN x) + 1)).2) bRec bItm bFld bOff bOfp kept wrt wid ent ver fAdr fTab adr tab lf) H := hP
    have hD : va_D A (Wd a g sLen sKind sExt sMust rTab rFil rNum rLnk rLen rItm made pItm held dByt dLen bByt ((whR (SR.mk sLen sKind sExt sMust rTab rFil rNum rLnk rLen rItm) (cN x) (rcR (cN x) bRea 16) ((cN x) + 1)).2) bRec bItm bFld bOff bOfp kept wrt wid ent ver fAdr fTab adr tab lf) := hD
    refine W.eq (g2 := F0 m 27 ls [.int (bI ((whR (SR.mk sLen sKind sExt sMust rTab rFil rNum rLnk rLen rItm) (cN x) (rcR (cN x) bRea 16) ((cN x) + 1)).1))]) rfl ?_
    refine lv_if_ne (tgt := 38) hx hb d_F_build_27 (by decide) (fun c_27 => ?_) (fun c_27 => ?_)
    · skip
      have c_27 := mt (bI_0).mpr c_27
      have c_27 := eq_true_of_ne_false c_27
      refine lv_aload_n hx hb d_F_build_38 rfl (lv_at hl 0 rfl) ?_
      refine va_get (D := D) (ci := 0) (C := R_F) (T := T_F) (N := 8) hx hb hts (fun w h => kT w (i_F w h)) hown hK hP 0 rfl rfl 4 (by decide) (hts _ (kT _ wd_7ed87276)) (fun _ h9 => h9) rfl d_F_build_39 ?_
      refine lv_iload_n hx hb d_F_build_42 rfl (lv_at hl 1 rfl) ?_
      refine k_callV (c_B_assemble l D a g tw sLen sKind sExt sMust rTab rFil rNum rLnk rLen rItm made pItm held dByt dLen bByt ((whR (SR.mk sLen sKind sExt sMust rTab rFil rNum rLnk rLen rItm) (cN x) (rcR (cN x) bRea 16) ((cN x) + 1)).2) bRec bItm bFld bOff bOfp kept wrt wid ent ver fAdr fTab adr tab lf (cN x)  (by omega) hq hO) m_B_assemble wd_17895479 5 5 rfl rfl rfl kT hx hb hml hown hts ⟨Nat.le_of_ble_eq_true rfl, Nat.le_of_ble_eq_true rfl⟩ ⟨Nat.le_of_ble_eq_true rfl, Nat.le_of_ble_eq_true rfl⟩ hK hP hD hS hA hZ hl.1 rfl rfl (Nat.le_of_ble_eq_true rfl) d_F_build_43 (fun H locs hP hD hS => ?_)
      have hP : va_P D vwCl (Wd a g sLen sKind sExt sMust rTab rFil rNum rLnk rLen rItm made pItm held dByt dLen ((asP (SR.mk sLen sKind sExt sMust rTab rFil rNum rLnk rLen rItm) (cN x) (BS.mk bByt bRec bItm bFld bOff bOfp kept wrt wid)).byt) ((whR (SR.mk sLen sKind sExt sMust rTab rFil rNum rLnk rLen rItm) (cN x) (rcR (cN x) bRea 16) ((cN x) + 1)).2) ((asP (SR.mk sLen sKind sExt sMust rTab rFil rNum rLnk rLen rItm) (cN x) (BS.mk bByt bRec bItm bFld bOff bOfp kept wrt wid)).rcp) ((asP (SR.mk sLen sKind sExt sMust rTab rFil rNum rLnk rLen rItm) (cN x) (BS.mk bByt bRec bItm bFld bOff bOfp kept wrt wid)).itm) ((asP (SR.mk sLen sKind sExt sMust rTab rFil rNum rLnk rLen rItm) (cN x) (BS.mk bByt bRec bItm bFld bOff bOfp kept wrt wid)).fld) ((asP (SR.mk sLen sKind sExt sMust rTab rFil rNum rLnk rLen rItm) (cN x) (BS.mk bByt bRec bItm bFld bOff bOfp kept wrt wid)).off) ((asP (SR.mk sLen sKind sExt sMust rTab rFil rNum rLnk rLen rItm) (cN x) (BS.mk bByt bRec bItm bFld bOff bOfp kept wrt wid)).ofp) ((asP (SR.mk sLen sKind sExt sMust rTab rFil rNum rLnk rLen rItm) (cN x) (BS.mk bByt bRec bItm bFld bOff bOfp kept wrt wid)).kept) ((asP (SR.mk sLen sKind sExt sMust rTab rFil rNum rLnk rLen rItm) (cN x) (BS.mk bByt bRec bItm bFld bOff bOfp kept wrt wid)).wrt) ((asP (SR.mk sLen sKind sExt sMust rTab rFil rNum rLnk rLen rItm) (cN x) (BS.mk bByt bRec bItm bFld bOff bOfp kept wrt wid)).wid) ent ver fAdr fTab adr tab lf) H := hP
      have hD : va_D A (Wd a g sLen sKind sExt sMust rTab rFil rNum rLnk rLen rItm made pItm held dByt dLen ((asP (SR.mk sLen sKind sExt sMust rTab rFil rNum rLnk rLen rItm) (cN x) (BS.mk bByt bRec bItm bFld bOff bOfp kept wrt wid)).byt) ((whR (SR.mk sLen sKind sExt sMust rTab rFil rNum rLnk rLen rItm) (cN x) (rcR (cN x) bRea 16) ((cN x) + 1)).2) ((asP (SR.mk sLen sKind sExt sMust rTab rFil rNum rLnk rLen rItm) (cN x) (BS.mk bByt bRec bItm bFld bOff bOfp kept wrt wid)).rcp) ((asP (SR.mk sLen sKind sExt sMust rTab rFil rNum rLnk rLen rItm) (cN x) (BS.mk bByt bRec bItm bFld bOff bOfp kept wrt wid)).itm) ((asP (SR.mk sLen sKind sExt sMust rTab rFil rNum rLnk rLen rItm) (cN x) (BS.mk bByt bRec bItm bFld bOff bOfp kept wrt wid)).fld) ((asP (SR.mk sLen sKind sExt sMust rTab rFil rNum rLnk rLen rItm) (cN x) (BS.mk bByt bRec bItm bFld bOff bOfp kept wrt wid)).off) ((asP (SR.mk sLen sKind sExt sMust rTab rFil rNum rLnk rLen rItm) (cN x) (BS.mk bByt bRec bItm bFld bOff bOfp kept wrt wid)).ofp) ((asP (SR.mk sLen sKind sExt sMust rTab rFil rNum rLnk rLen rItm) (cN x) (BS.mk bByt bRec bItm bFld bOff bOfp kept wrt wid)).kept) ((asP (SR.mk sLen sKind sExt sMust rTab rFil rNum rLnk rLen rItm) (cN x) (BS.mk bByt bRec bItm bFld bOff bOfp kept wrt wid)).wrt) ((asP (SR.mk sLen sKind sExt sMust rTab rFil rNum rLnk rLen rItm) (cN x) (BS.mk bByt bRec bItm bFld bOff bOfp kept wrt wid)).wid) ent ver fAdr fTab adr tab lf) := hD
      refine W.eq (g2 := F0 m 46 ls [.int (bI (decide ((asP (SR.mk sLen sKind sExt sMust rTab rFil rNum rLnk rLen rItm) (cN x) (BS.mk bByt bRec bItm bFld bOff bOfp kept wrt wid)).wrt ≤ 240)))]) rfl ?_
      refine lv_if_ne (tgt := 57) hx hb d_F_build_46 (by decide) (fun c_46 => ?_) (fun c_46 => ?_)
      · skip
        have c_46 := mt (bI_0).mpr c_46
        have c_46 := eq_true_of_ne_false c_46
        have hle := of_decide_eq_true c_46
        refine lv_aload_n hx hb d_F_build_57 rfl (lv_at hl 0 rfl) ?_
        refine va_get (D := D) (ci := 0) (C := R_F) (T := T_F) (N := 8) hx hb hts (fun w h => kT w (i_F w h)) hown hK hP 0 rfl rfl 6 (by decide) (hts _ (kT _ wd_59fc3318)) (fun _ h9 => h9) rfl d_F_build_58 ?_
        refine k_callV (c_Cursor_leave l D a g tw sLen sKind sExt sMust rTab rFil rNum rLnk rLen rItm made pItm held dByt dLen ((asP (SR.mk sLen sKind sExt sMust rTab rFil rNum rLnk rLen rItm) (cN x) (BS.mk bByt bRec bItm bFld bOff bOfp kept wrt wid)).byt) ((whR (SR.mk sLen sKind sExt sMust rTab rFil rNum rLnk rLen rItm) (cN x) (rcR (cN x) bRea 16) ((cN x) + 1)).2) ((asP (SR.mk sLen sKind sExt sMust rTab rFil rNum rLnk rLen rItm) (cN x) (BS.mk bByt bRec bItm bFld bOff bOfp kept wrt wid)).rcp) ((asP (SR.mk sLen sKind sExt sMust rTab rFil rNum rLnk rLen rItm) (cN x) (BS.mk bByt bRec bItm bFld bOff bOfp kept wrt wid)).itm) ((asP (SR.mk sLen sKind sExt sMust rTab rFil rNum rLnk rLen rItm) (cN x) (BS.mk bByt bRec bItm bFld bOff bOfp kept wrt wid)).fld) ((asP (SR.mk sLen sKind sExt sMust rTab rFil rNum rLnk rLen rItm) (cN x) (BS.mk bByt bRec bItm bFld bOff bOfp kept wrt wid)).off) ((asP (SR.mk sLen sKind sExt sMust rTab rFil rNum rLnk rLen rItm) (cN x) (BS.mk bByt bRec bItm bFld bOff bOfp kept wrt wid)).ofp) ((asP (SR.mk sLen sKind sExt sMust rTab rFil rNum rLnk rLen rItm) (cN x) (BS.mk bByt bRec bItm bFld bOff bOfp kept wrt wid)).kept) ((asP (SR.mk sLen sKind sExt sMust rTab rFil rNum rLnk rLen rItm) (cN x) (BS.mk bByt bRec bItm bFld bOff bOfp kept wrt wid)).wrt) ((asP (SR.mk sLen sKind sExt sMust rTab rFil rNum rLnk rLen rItm) (cN x) (BS.mk bByt bRec bItm bFld bOff bOfp kept wrt wid)).wid) ent ver fAdr fTab adr tab lf   ) m_C_leave wd_4ebb4d90 7 7 rfl rfl rfl kT hx hb hml hown hts ⟨Nat.le_of_ble_eq_true rfl, Nat.le_of_ble_eq_true rfl⟩ ⟨Nat.le_of_ble_eq_true rfl, Nat.le_of_ble_eq_true rfl⟩ hK hP hD hS hA hZ hl.1 rfl rfl (Nat.le_of_ble_eq_true rfl) d_F_build_61 (fun H locs hP hD hS => ?_)
        have hP : va_P D vwCl (Wd a g sLen sKind sExt sMust rTab rFil rNum rLnk rLen rItm made pItm held dByt dLen ((asP (SR.mk sLen sKind sExt sMust rTab rFil rNum rLnk rLen rItm) (cN x) (BS.mk bByt bRec bItm bFld bOff bOfp kept wrt wid)).byt) ((whR (SR.mk sLen sKind sExt sMust rTab rFil rNum rLnk rLen rItm) (cN x) (rcR (cN x) bRea 16) ((cN x) + 1)).2) ((asP (SR.mk sLen sKind sExt sMust rTab rFil rNum rLnk rLen rItm) (cN x) (BS.mk bByt bRec bItm bFld bOff bOfp kept wrt wid)).rcp) ((asP (SR.mk sLen sKind sExt sMust rTab rFil rNum rLnk rLen rItm) (cN x) (BS.mk bByt bRec bItm bFld bOff bOfp kept wrt wid)).itm) ((asP (SR.mk sLen sKind sExt sMust rTab rFil rNum rLnk rLen rItm) (cN x) (BS.mk bByt bRec bItm bFld bOff bOfp kept wrt wid)).fld) ((asP (SR.mk sLen sKind sExt sMust rTab rFil rNum rLnk rLen rItm) (cN x) (BS.mk bByt bRec bItm bFld bOff bOfp kept wrt wid)).off) ((asP (SR.mk sLen sKind sExt sMust rTab rFil rNum rLnk rLen rItm) (cN x) (BS.mk bByt bRec bItm bFld bOff bOfp kept wrt wid)).ofp) ((asP (SR.mk sLen sKind sExt sMust rTab rFil rNum rLnk rLen rItm) (cN x) (BS.mk bByt bRec bItm bFld bOff bOfp kept wrt wid)).kept) ((asP (SR.mk sLen sKind sExt sMust rTab rFil rNum rLnk rLen rItm) (cN x) (BS.mk bByt bRec bItm bFld bOff bOfp kept wrt wid)).wrt) ((asP (SR.mk sLen sKind sExt sMust rTab rFil rNum rLnk rLen rItm) (cN x) (BS.mk bByt bRec bItm bFld bOff bOfp kept wrt wid)).wid) ent false fAdr fTab adr tab lf) H := hP
        have hD : va_D A (Wd a g sLen sKind sExt sMust rTab rFil rNum rLnk rLen rItm made pItm held dByt dLen ((asP (SR.mk sLen sKind sExt sMust rTab rFil rNum rLnk rLen rItm) (cN x) (BS.mk bByt bRec bItm bFld bOff bOfp kept wrt wid)).byt) ((whR (SR.mk sLen sKind sExt sMust rTab rFil rNum rLnk rLen rItm) (cN x) (rcR (cN x) bRea 16) ((cN x) + 1)).2) ((asP (SR.mk sLen sKind sExt sMust rTab rFil rNum rLnk rLen rItm) (cN x) (BS.mk bByt bRec bItm bFld bOff bOfp kept wrt wid)).rcp) ((asP (SR.mk sLen sKind sExt sMust rTab rFil rNum rLnk rLen rItm) (cN x) (BS.mk bByt bRec bItm bFld bOff bOfp kept wrt wid)).itm) ((asP (SR.mk sLen sKind sExt sMust rTab rFil rNum rLnk rLen rItm) (cN x) (BS.mk bByt bRec bItm bFld bOff bOfp kept wrt wid)).fld) ((asP (SR.mk sLen sKind sExt sMust rTab rFil rNum rLnk rLen rItm) (cN x) (BS.mk bByt bRec bItm bFld bOff bOfp kept wrt wid)).off) ((asP (SR.mk sLen sKind sExt sMust rTab rFil rNum rLnk rLen rItm) (cN x) (BS.mk bByt bRec bItm bFld bOff bOfp kept wrt wid)).ofp) ((asP (SR.mk sLen sKind sExt sMust rTab rFil rNum rLnk rLen rItm) (cN x) (BS.mk bByt bRec bItm bFld bOff bOfp kept wrt wid)).kept) ((asP (SR.mk sLen sKind sExt sMust rTab rFil rNum rLnk rLen rItm) (cN x) (BS.mk bByt bRec bItm bFld bOff bOfp kept wrt wid)).wrt) ((asP (SR.mk sLen sKind sExt sMust rTab rFil rNum rLnk rLen rItm) (cN x) (BS.mk bByt bRec bItm bFld bOff bOfp kept wrt wid)).wid) ent false fAdr fTab adr tab lf) := hD
        refine W.eq (g2 := F0 m 64 ls []) rfl ?_
        refine lv_aload_n hx hb d_F_build_64 rfl (lv_at hl 0 rfl) ?_
        refine va_get (D := D) (ci := 0) (C := R_F) (T := T_F) (N := 8) hx hb hts (fun w h => kT w (i_F w h)) hown hK hP 0 rfl rfl 3 (by decide) (hts _ (kT _ wd_24cf1a27)) (fun _ h9 => h9) rfl d_F_build_65 ?_
        refine lv_aload_n hx hb d_F_build_68 rfl (lv_at hl 0 rfl) ?_
        refine va_get (D := D) (ci := 0) (C := R_F) (T := T_F) (N := 8) hx hb hts (fun w h => kT w (i_F w h)) hown hK hP 0 rfl rfl 4 (by decide) (hts _ (kT _ wd_7ed87276)) (fun _ h9 => h9) rfl d_F_build_69 ?_
        refine va_getN (D := D) (ci := 5) (C := R_B) (T := T_B) (N := 12) hx hb hts (fun w h => kT w (i_B w h)) hown hK hP 5 rfl rfl 2 (by decide) (va_Nw.use rfl (hZ.2.2.1 _ wn_e12ed6bb)) (fun _ h9 => h9) rfl d_F_build_72 ?_
        refine lv_aload_n hx hb d_F_build_75 rfl (lv_at hl 0 rfl) ?_
        refine va_get (D := D) (ci := 0) (C := R_F) (T := T_F) (N := 8) hx hb hts (fun w h => kT w (i_F w h)) hown hK hP 0 rfl rfl 4 (by decide) (hts _ (kT _ wd_7ed87276)) (fun _ h9 => h9) rfl d_F_build_76 ?_
        refine va_getN (D := D) (ci := 5) (C := R_B) (T := T_B) (N := 12) hx hb hts (fun w h => kT w (i_B w h)) hown hK hP 5 rfl rfl 10 (by decide) (va_Nw.use rfl (hZ.2.2.1 _ wn_6c396b5d)) (fun _ h9 => h9) rfl d_F_build_79 ?_
        refine k_callV (c_Data_takeEnd l D a g tw sLen sKind sExt sMust rTab rFil rNum rLnk rLen rItm made pItm held dByt dLen ((asP (SR.mk sLen sKind sExt sMust rTab rFil rNum rLnk rLen rItm) (cN x) (BS.mk bByt bRec bItm bFld bOff bOfp kept wrt wid)).byt) ((whR (SR.mk sLen sKind sExt sMust rTab rFil rNum rLnk rLen rItm) (cN x) (rcR (cN x) bRea 16) ((cN x) + 1)).2) ((asP (SR.mk sLen sKind sExt sMust rTab rFil rNum rLnk rLen rItm) (cN x) (BS.mk bByt bRec bItm bFld bOff bOfp kept wrt wid)).rcp) ((asP (SR.mk sLen sKind sExt sMust rTab rFil rNum rLnk rLen rItm) (cN x) (BS.mk bByt bRec bItm bFld bOff bOfp kept wrt wid)).itm) ((asP (SR.mk sLen sKind sExt sMust rTab rFil rNum rLnk rLen rItm) (cN x) (BS.mk bByt bRec bItm bFld bOff bOfp kept wrt wid)).fld) ((asP (SR.mk sLen sKind sExt sMust rTab rFil rNum rLnk rLen rItm) (cN x) (BS.mk bByt bRec bItm bFld bOff bOfp kept wrt wid)).off) ((asP (SR.mk sLen sKind sExt sMust rTab rFil rNum rLnk rLen rItm) (cN x) (BS.mk bByt bRec bItm bFld bOff bOfp kept wrt wid)).ofp) ((asP (SR.mk sLen sKind sExt sMust rTab rFil rNum rLnk rLen rItm) (cN x) (BS.mk bByt bRec bItm bFld bOff bOfp kept wrt wid)).kept) ((asP (SR.mk sLen sKind sExt sMust rTab rFil rNum rLnk rLen rItm) (cN x) (BS.mk bByt bRec bItm bFld bOff bOfp kept wrt wid)).wrt) ((asP (SR.mk sLen sKind sExt sMust rTab rFil rNum rLnk rLen rItm) (cN x) (BS.mk bByt bRec bItm bFld bOff bOfp kept wrt wid)).wid) ent false fAdr fTab adr tab lf ((asP (SR.mk sLen sKind sExt sMust rTab rFil rNum rLnk rLen rItm) (cN x) (BS.mk bByt bRec bItm bFld bOff bOfp kept wrt wid)).wrt)  hle) m_D_takeEnd wd_1ec097e5 4 4 rfl rfl rfl kT hx hb hml hown hts ⟨Nat.le_of_ble_eq_true rfl, Nat.le_of_ble_eq_true rfl⟩ ⟨Nat.le_of_ble_eq_true rfl, Nat.le_of_ble_eq_true rfl⟩ hK hP hD hS hA hZ hl.1 rfl rfl (Nat.le_of_ble_eq_true rfl) d_F_build_82 (fun H locs hP hD hS => ?_)
        have hP : va_P D vwCl (Wd a g sLen sKind sExt sMust rTab rFil rNum rLnk rLen rItm made pItm held (tkE ((asP (SR.mk sLen sKind sExt sMust rTab rFil rNum rLnk rLen rItm) (cN x) (BS.mk bByt bRec bItm bFld bOff bOfp kept wrt wid)).byt) dByt ((asP (SR.mk sLen sKind sExt sMust rTab rFil rNum rLnk rLen rItm) (cN x) (BS.mk bByt bRec bItm bFld bOff bOfp kept wrt wid)).wrt)) (((asP (SR.mk sLen sKind sExt sMust rTab rFil rNum rLnk rLen rItm) (cN x) (BS.mk bByt bRec bItm bFld bOff bOfp kept wrt wid)).wrt)) ((asP (SR.mk sLen sKind sExt sMust rTab rFil rNum rLnk rLen rItm) (cN x) (BS.mk bByt bRec bItm bFld bOff bOfp kept wrt wid)).byt) ((whR (SR.mk sLen sKind sExt sMust rTab rFil rNum rLnk rLen rItm) (cN x) (rcR (cN x) bRea 16) ((cN x) + 1)).2) ((asP (SR.mk sLen sKind sExt sMust rTab rFil rNum rLnk rLen rItm) (cN x) (BS.mk bByt bRec bItm bFld bOff bOfp kept wrt wid)).rcp) ((asP (SR.mk sLen sKind sExt sMust rTab rFil rNum rLnk rLen rItm) (cN x) (BS.mk bByt bRec bItm bFld bOff bOfp kept wrt wid)).itm) ((asP (SR.mk sLen sKind sExt sMust rTab rFil rNum rLnk rLen rItm) (cN x) (BS.mk bByt bRec bItm bFld bOff bOfp kept wrt wid)).fld) ((asP (SR.mk sLen sKind sExt sMust rTab rFil rNum rLnk rLen rItm) (cN x) (BS.mk bByt bRec bItm bFld bOff bOfp kept wrt wid)).off) ((asP (SR.mk sLen sKind sExt sMust rTab rFil rNum rLnk rLen rItm) (cN x) (BS.mk bByt bRec bItm bFld bOff bOfp kept wrt wid)).ofp) ((asP (SR.mk sLen sKind sExt sMust rTab rFil rNum rLnk rLen rItm) (cN x) (BS.mk bByt bRec bItm bFld bOff bOfp kept wrt wid)).kept) ((asP (SR.mk sLen sKind sExt sMust rTab rFil rNum rLnk rLen rItm) (cN x) (BS.mk bByt bRec bItm bFld bOff bOfp kept wrt wid)).wrt) ((asP (SR.mk sLen sKind sExt sMust rTab rFil rNum rLnk rLen rItm) (cN x) (BS.mk bByt bRec bItm bFld bOff bOfp kept wrt wid)).wid) ent false fAdr fTab adr tab lf) H := hP
        have hD : va_D A (Wd a g sLen sKind sExt sMust rTab rFil rNum rLnk rLen rItm made pItm held (tkE ((asP (SR.mk sLen sKind sExt sMust rTab rFil rNum rLnk rLen rItm) (cN x) (BS.mk bByt bRec bItm bFld bOff bOfp kept wrt wid)).byt) dByt ((asP (SR.mk sLen sKind sExt sMust rTab rFil rNum rLnk rLen rItm) (cN x) (BS.mk bByt bRec bItm bFld bOff bOfp kept wrt wid)).wrt)) (((asP (SR.mk sLen sKind sExt sMust rTab rFil rNum rLnk rLen rItm) (cN x) (BS.mk bByt bRec bItm bFld bOff bOfp kept wrt wid)).wrt)) ((asP (SR.mk sLen sKind sExt sMust rTab rFil rNum rLnk rLen rItm) (cN x) (BS.mk bByt bRec bItm bFld bOff bOfp kept wrt wid)).byt) ((whR (SR.mk sLen sKind sExt sMust rTab rFil rNum rLnk rLen rItm) (cN x) (rcR (cN x) bRea 16) ((cN x) + 1)).2) ((asP (SR.mk sLen sKind sExt sMust rTab rFil rNum rLnk rLen rItm) (cN x) (BS.mk bByt bRec bItm bFld bOff bOfp kept wrt wid)).rcp) ((asP (SR.mk sLen sKind sExt sMust rTab rFil rNum rLnk rLen rItm) (cN x) (BS.mk bByt bRec bItm bFld bOff bOfp kept wrt wid)).itm) ((asP (SR.mk sLen sKind sExt sMust rTab rFil rNum rLnk rLen rItm) (cN x) (BS.mk bByt bRec bItm bFld bOff bOfp kept wrt wid)).fld) ((asP (SR.mk sLen sKind sExt sMust rTab rFil rNum rLnk rLen rItm) (cN x) (BS.mk bByt bRec bItm bFld bOff bOfp kept wrt wid)).off) ((asP (SR.mk sLen sKind sExt sMust rTab rFil rNum rLnk rLen rItm) (cN x) (BS.mk bByt bRec bItm bFld bOff bOfp kept wrt wid)).ofp) ((asP (SR.mk sLen sKind sExt sMust rTab rFil rNum rLnk rLen rItm) (cN x) (BS.mk bByt bRec bItm bFld bOff bOfp kept wrt wid)).kept) ((asP (SR.mk sLen sKind sExt sMust rTab rFil rNum rLnk rLen rItm) (cN x) (BS.mk bByt bRec bItm bFld bOff bOfp kept wrt wid)).wrt) ((asP (SR.mk sLen sKind sExt sMust rTab rFil rNum rLnk rLen rItm) (cN x) (BS.mk bByt bRec bItm bFld bOff bOfp kept wrt wid)).wid) ent false fAdr fTab adr tab lf) := hD
        refine W.eq (g2 := F0 m 85 ls []) rfl ?_
        refine lv_aload_n hx hb d_F_build_85 rfl (lv_at hl 0 rfl) ?_
        refine va_get (D := D) (ci := 0) (C := R_F) (T := T_F) (N := 8) hx hb hts (fun w h => kT w (i_F w h)) hown hK hP 0 rfl rfl 3 (by decide) (hts _ (kT _ wd_24cf1a27)) (fun _ h9 => h9) rfl d_F_build_86 ?_
        refine va_getN (D := D) (ci := 4) (C := R_D) (T := T_D) (N := 2) hx hb hts (fun w h => kT w (i_D w h)) hown hK hP 4 rfl rfl 1 (by decide) (va_Nw.use rfl (hZ.2.2.1 _ wn_29b5f204)) (fun _ h9 => h9) rfl d_F_build_89 ?_
        refine W.widen (k := 1) (n := 6) (Nat.le_of_ble_eq_true rfl) (Nat.le_of_ble_eq_true rfl) ?_
        exact x_ret (k_iret hx hb hr hlocks hK hP hD hS (by rw [cdBuild, if_pos c_8, if_pos c_27, if_pos hle]) (rfl) (rfl) d_F_build_92)
      · skip
        have c_46 := (bI_0).mp c_46
        exact k_throw hl0 hx hb hown kT hts ⟨by decide, by decide⟩ wx_be0090ef hZ hex hlocks hK hP hD hS (hl.1.trans hml.symm) (Or.inr (Or.inr ⟨rfl, by rw [cdBuild, if_pos c_8, if_pos c_27, if_neg (of_decide_eq_false c_46)]⟩)) (by rw [show cdBuild (SR.mk sLen sKind sExt sMust rTab rFil rNum rLnk rLen rItm) made bRea (BS.mk bByt bRec bItm bFld bOff bOfp kept wrt wid) x = 3 by rw [cdBuild, if_pos c_8, if_pos c_27, if_neg (of_decide_eq_false c_46)], if_pos c_8]; rfl) d_F_build_49 d_F_build_52 d_F_build_53 d_F_build_56 ⟨Nat.le_of_ble_eq_true rfl, Nat.le_of_ble_eq_true rfl⟩ ⟨Nat.le_of_ble_eq_true rfl, Nat.le_of_ble_eq_true rfl⟩ (Nat.le_of_ble_eq_true rfl) (Nat.le_of_ble_eq_true rfl)
    · skip
      have c_27 := (bI_0).mp c_27
      exact k_throw hl0 hx hb hown kT hts ⟨by decide, by decide⟩ wx_f6ab3475 hZ hex hlocks hK hP hD hS (hl.1.trans hml.symm) (Or.inr (Or.inl ⟨rfl, by rw [cdBuild, if_pos c_8, if_neg (by simp [c_27])]⟩)) (by rw [show cdBuild (SR.mk sLen sKind sExt sMust rTab rFil rNum rLnk rLen rItm) made bRea (BS.mk bByt bRec bItm bFld bOff bOfp kept wrt wid) x = 2 by rw [cdBuild, if_pos c_8, if_neg (by simp [c_27])], if_pos c_8]; rfl) d_F_build_30 d_F_build_33 d_F_build_34 d_F_build_37 ⟨Nat.le_of_ble_eq_true rfl, Nat.le_of_ble_eq_true rfl⟩ ⟨Nat.le_of_ble_eq_true rfl, Nat.le_of_ble_eq_true rfl⟩ (Nat.le_of_ble_eq_true rfl) (Nat.le_of_ble_eq_true rfl)
  · skip
    have c_8 := (bI_0).mp c_8
    exact k_throw hl0 hx hb hown kT hts ⟨by decide, by decide⟩ wx_81160be2 hZ hex hlocks hK hP hD hS (hl.1.trans hml.symm) (Or.inl ⟨rfl, by rw [cdBuild, if_neg (by simp [c_8])]⟩) (by rw [show cdBuild (SR.mk sLen sKind sExt sMust rTab rFil rNum rLnk rLen rItm) made bRea (BS.mk bByt bRec bItm bFld bOff bOfp kept wrt wid) x = 1 by rw [cdBuild, if_neg (by simp [c_8])], if_neg (show ¬ hasF made x = true by simp [c_8])]; rfl) d_F_build_11 d_F_build_14 d_F_build_15 d_F_build_18 ⟨Nat.le_of_ble_eq_true rfl, Nat.le_of_ble_eq_true rfl⟩ ⟨Nat.le_of_ble_eq_true rfl, Nat.le_of_ble_eq_true rfl⟩ (Nat.le_of_ble_eq_true rfl) (Nat.le_of_ble_eq_true rfl)

theorem wd_abd60587 : Cond.fieldLink R_F 51 R_F "verifier" "LFlatStore$Verifier;" ∈ kGW := kGW_of (List.mem_of_getElem? (i := 255) (by decide +kernel)) (by decide)
theorem wd_9b4c001e : Cond.methodLink R_F 173 y_V_inspect ∈ kGW := kGW_of (List.mem_of_getElem? (i := 678) (by decide +kernel)) (by decide)
theorem wd_63b6f65e : Cond.methodLink R_F 179 y_C_enter ∈ kGW := kGW_of (List.mem_of_getElem? (i := 735) (by decide +kernel)) (by decide)
set_option maxRecDepth 20000 in
theorem wd_3241dd4e : Cond.code y_V_inspect b_V_inspect 2 (some .int) ∈ kGW := kGW_of (List.mem_of_getElem? (i := 681) (by rfl)) (by decide)
theorem wd_544392e4 : Cond.instanceMethod y_V_inspect ∈ kGW := kGW_of (List.mem_of_getElem? (i := 679) (by decide +kernel)) (by decide)
theorem wd_66746d3e : Cond.selects R_V y_V_inspect y_V_inspect ∈ kGW := kGW_of (List.mem_of_getElem? (i := 680) (by decide +kernel)) (by decide)
set_option maxRecDepth 20000 in
theorem wd_b06b8f7e : Cond.code y_F_verify b_F_verify 2 (some .int) ∈ kGW := kGW_of (List.mem_of_getElem? (i := 677) (by rfl)) (by decide)
theorem wd_0f90ca17 : Cond.instanceMethod y_F_verify ∈ kGW := kGW_of (List.mem_of_getElem? (i := 675) (by decide +kernel)) (by decide)
theorem wd_7b367526 : Cond.selects R_F y_F_verify y_F_verify ∈ kGW := kGW_of (List.mem_of_getElem? (i := 676) (by decide +kernel)) (by decide)
theorem wn_4202aacd : Cond.fieldLinkNest R_F 182 R_V "entered" "I" "FlatStore" ∈ kNW := kNW_of (List.mem_of_getElem? (i := 217) (by decide +kernel)) (by decide)
theorem d_V_inspect_0 : decode b_V_inspect 0 = .ok (.aload_n 0, 1) := by decide +kernel
theorem d_V_inspect_1 : decode b_V_inspect 1 = .ok (.iconst 0, 1) := by decide +kernel
theorem d_V_inspect_2 : decode b_V_inspect 2 = .ok (.putfield 19, 3) := by decide +kernel
theorem d_V_inspect_5 : decode b_V_inspect 5 = .ok (.aload_n 0, 1) := by decide +kernel
theorem d_V_inspect_6 : decode b_V_inspect 6 = .ok (.getfield 15, 3) := by decide +kernel
theorem d_V_inspect_9 : decode b_V_inspect 9 = .ok (.getfield 23, 3) := by decide +kernel
theorem d_V_inspect_12 : decode b_V_inspect 12 = .ok (.iconst 4, 1) := by decide +kernel
theorem d_V_inspect_13 : decode b_V_inspect 13 = .ok (.if_icmp .ge 5, 3) := by decide +kernel
theorem d_V_inspect_16 : decode b_V_inspect 16 = .ok (.iconst 0, 1) := by decide +kernel
theorem d_V_inspect_17 : decode b_V_inspect 17 = .ok (.ireturn, 1) := by decide +kernel
theorem d_V_inspect_18 : decode b_V_inspect 18 = .ok (.aload_n 0, 1) := by decide +kernel
theorem d_V_inspect_19 : decode b_V_inspect 19 = .ok (.aload_n 0, 1) := by decide +kernel
theorem d_V_inspect_20 : decode b_V_inspect 20 = .ok (.getfield 15, 3) := by decide +kernel
theorem d_V_inspect_23 : decode b_V_inspect 23 = .ok (.iconst 0, 1) := by decide +kernel
theorem d_V_inspect_24 : decode b_V_inspect 24 = .ok (.invokevirtual 28, 3) := by decide +kernel
theorem d_V_inspect_27 : decode b_V_inspect 27 = .ok (.iload_n 1, 1) := by decide +kernel
theorem d_V_inspect_28 : decode b_V_inspect 28 = .ok (.iconst 0, 1) := by decide +kernel
theorem d_V_inspect_29 : decode b_V_inspect 29 = .ok (.iconst 1, 1) := by decide +kernel
theorem d_V_inspect_30 : decode b_V_inspect 30 = .ok (.invokevirtual 32, 3) := by decide +kernel
theorem d_V_inspect_33 : decode b_V_inspect 33 = .ok (.ireturn, 1) := by decide +kernel
theorem d_F_verify_0 : decode b_F_verify 0 = .ok (.iload_n 1, 1) := by decide +kernel
theorem d_F_verify_1 : decode b_F_verify 1 = .ok (.invokestatic 66, 3) := by decide +kernel
theorem d_F_verify_4 : decode b_F_verify 4 = .ok (.ifCond .ne 11, 3) := by decide +kernel
theorem d_F_verify_7 : decode b_F_verify 7 = .ok (.new 74, 3) := by decide +kernel
theorem d_F_verify_10 : decode b_F_verify 10 = .ok (.dup, 1) := by decide +kernel
theorem d_F_verify_11 : decode b_F_verify 11 = .ok (.invokespecial 76, 3) := by decide +kernel
theorem d_F_verify_14 : decode b_F_verify 14 = .ok (.athrow, 1) := by decide +kernel
theorem d_F_verify_15 : decode b_F_verify 15 = .ok (.aload_n 0, 1) := by decide +kernel
theorem d_F_verify_16 : decode b_F_verify 16 = .ok (.getfield 58, 3) := by decide +kernel
theorem d_F_verify_19 : decode b_F_verify 19 = .ok (.invokevirtual 84, 3) := by decide +kernel
theorem d_F_verify_22 : decode b_F_verify 22 = .ok (.aload_n 0, 1) := by decide +kernel
theorem d_F_verify_23 : decode b_F_verify 23 = .ok (.aload_n 0, 1) := by decide +kernel
theorem d_F_verify_24 : decode b_F_verify 24 = .ok (.getfield 51, 3) := by decide +kernel
theorem d_F_verify_27 : decode b_F_verify 27 = .ok (.iload_n 1, 1) := by decide +kernel
theorem d_F_verify_28 : decode b_F_verify 28 = .ok (.invokevirtual 173, 3) := by decide +kernel
theorem d_F_verify_31 : decode b_F_verify 31 = .ok (.putfield 62, 3) := by decide +kernel
theorem d_F_verify_34 : decode b_F_verify 34 = .ok (.aload_n 0, 1) := by decide +kernel
theorem d_F_verify_35 : decode b_F_verify 35 = .ok (.getfield 62, 3) := by decide +kernel
theorem d_F_verify_38 : decode b_F_verify 38 = .ok (.iconst (-1), 1) := by decide +kernel
theorem d_F_verify_39 : decode b_F_verify 39 = .ok (.if_icmp .eq 11, 3) := by decide +kernel
theorem d_F_verify_42 : decode b_F_verify 42 = .ok (.new 74, 3) := by decide +kernel
theorem d_F_verify_45 : decode b_F_verify 45 = .ok (.dup, 1) := by decide +kernel
theorem d_F_verify_46 : decode b_F_verify 46 = .ok (.invokespecial 76, 3) := by decide +kernel
theorem d_F_verify_49 : decode b_F_verify 49 = .ok (.athrow, 1) := by decide +kernel
theorem d_F_verify_50 : decode b_F_verify 50 = .ok (.aload_n 0, 1) := by decide +kernel
theorem d_F_verify_51 : decode b_F_verify 51 = .ok (.getfield 58, 3) := by decide +kernel
theorem d_F_verify_54 : decode b_F_verify 54 = .ok (.aload_n 0, 1) := by decide +kernel
theorem d_F_verify_55 : decode b_F_verify 55 = .ok (.getfield 33, 3) := by decide +kernel
theorem d_F_verify_58 : decode b_F_verify 58 = .ok (.iconst 0, 1) := by decide +kernel
theorem d_F_verify_59 : decode b_F_verify 59 = .ok (.invokevirtual 176, 3) := by decide +kernel
theorem d_F_verify_62 : decode b_F_verify 62 = .ok (.iload_n 1, 1) := by decide +kernel
theorem d_F_verify_63 : decode b_F_verify 63 = .ok (.invokevirtual 179, 3) := by decide +kernel
theorem d_F_verify_66 : decode b_F_verify 66 = .ok (.aload_n 0, 1) := by decide +kernel
theorem d_F_verify_67 : decode b_F_verify 67 = .ok (.getfield 51, 3) := by decide +kernel
theorem d_F_verify_70 : decode b_F_verify 70 = .ok (.getfield 182, 3) := by decide +kernel
theorem d_F_verify_73 : decode b_F_verify 73 = .ok (.ireturn, 1) := by decide +kernel
theorem m_V_inspect : kIV y_V_inspect b_V_inspect 2 (some .int) 1 := ⟨⟨wd_3241dd4e, wd_2dc89b72, ⟨by decide, by decide⟩, by decide +kernel⟩, wd_544392e4, wd_66746d3e⟩
theorem m_F_verify : kIV y_F_verify b_F_verify 2 (some .int) 1 := ⟨⟨wd_b06b8f7e, wd_c1885a87, ⟨by decide, by decide⟩, by decide +kernel⟩, wd_0f90ca17, wd_7b367526⟩
set_option maxHeartbeats 4000000 in
set_option maxRecDepth 100000 in
theorem c_V_inspect (l : Launch) (D : va_G) (a : Nat → Nat) (g : Nat → ClassId) (tw : Nat) (sLen sKind : Nat → Nat) (sExt : Nat → Int32) (sMust : Nat → Bool) (rTab : Nat → Nat) (rFil : Nat → Bool) (rNum : Nat → Int64) (rLnk rLen : Nat → Nat) (rItm : Nat → Int32) (made : Nat) (pItm : Nat → Int32) (held : Nat) (dByt : Nat → Nat) (dLen : Nat) (bByt : Nat → Nat) (bRea : Nat → Bool) (bRec bItm bFld bOff bOfp : Nat → Nat) (kept wrt wid ent : Nat) (ver : Bool) (fAdr fTab adr tab : Nat) (lf : Int32) (t : Nat)  (ht : t < 4) (hq : SOK (SR.mk sLen sKind sExt sMust rTab rFil rNum rLnk rLen rItm)) (hX : ∀ j, sKind j = 6 → okT (sExt j) = true) (hB : ∀ k, dByt k < 256) (hd : dLen ≤ 240) : kM l y_V_inspect b_V_inspect 2 (some .int) ({ frames := 33, cells := 0, slots := 0, locals := 708 }) D vwCl (WdT g) tw [.ref (a 6), .int (nI t)] (Wd a g sLen sKind sExt sMust rTab rFil rNum rLnk rLen rItm made pItm held dByt dLen bByt bRea bRec bItm bFld bOff bOfp kept wrt wid ent ver fAdr fTab adr tab lf) (some (.int ((vIn (SR.mk sLen sKind sExt sMust rTab rFil rNum rLnk rLen rItm) dByt dLen t).1))) (Wd a g sLen sKind sExt sMust rTab rFil rNum rLnk rLen rItm made pItm held dByt dLen bByt bRea bRec bItm bFld bOff bOfp kept wrt wid ((vIn (SR.mk sLen sKind sExt sMust rTab rFil rNum rLnk rLen rItm) dByt dLen t).2) ver fAdr fTab adr tab lf) := by
  refine k_of (by decide) (Nat.le_of_ble_eq_true rfl) ?_
  intro p e s m below meth c A ls hx hb hr hlocks hml hts hown hin0 hA hP hK hD hS hZ hl
  have hl : lv_has ls 2 [(0, .ref (a 6)), (1, .int (nI t))] := hl
  refine lv_aload_n hx hb d_V_inspect_0 rfl (lv_at hl 0 rfl) ?_
  refine lv_iconst (v := nI 0) hx hb d_V_inspect_1 (by decide) ?_
  refine va_put (D := D) (ci := 6) (ty := .int) (C := R_V) (T := T_V) (N := 3) hx hb hts (fun w h => kT w (i_V w h)) ty_V tyk_V nm_V hown hK hP hD hS 6 rfl rfl 2 (by decide) (hts _ (kT _ wd_85aebf36)) (fun _ h9 => h9) rfl (by decide +kernel) rfl rfl (Nat.le_of_ble_eq_true rfl) d_V_inspect_2 (fun H locs hP hD hS => ?_)
  have hP : va_P D vwCl (Wd a g sLen sKind sExt sMust rTab rFil rNum rLnk rLen rItm made pItm held dByt dLen bByt bRea bRec bItm bFld bOff bOfp kept wrt wid 0 ver fAdr fTab adr tab lf) H := hP
  have hD : va_D A (Wd a g sLen sKind sExt sMust rTab rFil rNum rLnk rLen rItm made pItm held dByt dLen bByt bRea bRec bItm bFld bOff bOfp kept wrt wid 0 ver fAdr fTab adr tab lf) := hD
  refine lv_aload_n hx hb d_V_inspect_5 rfl (lv_at hl 0 rfl) ?_
  refine va_get (D := D) (ci := 6) (C := R_V) (T := T_V) (N := 3) hx hb hts (fun w h => kT w (i_V w h)) hown hK hP 6 rfl rfl 1 (by decide) (hts _ (kT _ wd_c65a433d)) (fun _ h9 => h9) rfl d_V_inspect_6 ?_
  refine va_getN (D := D) (ci := 4) (C := R_D) (T := T_D) (N := 2) hx hb hts (fun w h => kT w (i_D w h)) hown hK hP 4 rfl rfl 1 (by decide) (va_Nw.use rfl (hZ.2.2.1 _ wn_8cec2538)) (fun _ h9 => h9) rfl d_V_inspect_9 ?_
  refine lv_iconst (v := nI 4) hx hb d_V_inspect_12 (by decide) ?_
  refine lv_icmp_ge (tgt := 18) hx hb d_V_inspect_13 (by decide) (fun c_13 => ?_) (fun c_13 => ?_)
  · skip
    have c_13 := (nI_leI (by omega) (by omega)).mp c_13
    refine lv_aload_n hx hb d_V_inspect_18 rfl (lv_at hl 0 rfl) ?_
    refine lv_aload_n hx hb d_V_inspect_19 rfl (lv_at hl 0 rfl) ?_
    refine va_get (D := D) (ci := 6) (C := R_V) (T := T_V) (N := 3) hx hb hts (fun w h => kT w (i_V w h)) hown hK hP 6 rfl rfl 1 (by decide) (hts _ (kT _ wd_c65a433d)) (fun _ h9 => h9) rfl d_V_inspect_20 ?_
    refine lv_iconst (v := nI 0) hx hb d_V_inspect_23 (by decide) ?_
    refine k_callV (c_Data_capped l D a g tw sLen sKind sExt sMust rTab rFil rNum rLnk rLen rItm made pItm held dByt dLen bByt bRea bRec bItm bFld bOff bOfp kept wrt wid 0 ver fAdr fTab adr tab lf (nI 0)  (by omega) (by omega)) m_D_capped wd_814e388c 4 4 rfl rfl rfl kT hx hb hml hown hts ⟨Nat.le_of_ble_eq_true rfl, Nat.le_of_ble_eq_true rfl⟩ ⟨Nat.le_of_ble_eq_true rfl, Nat.le_of_ble_eq_true rfl⟩ hK hP hD hS hA hZ hl.1 rfl rfl (Nat.le_of_ble_eq_true rfl) d_V_inspect_24 (fun H locs hP hD hS => ?_)
    have hP : va_P D vwCl (Wd a g sLen sKind sExt sMust rTab rFil rNum rLnk rLen rItm made pItm held dByt dLen bByt bRea bRec bItm bFld bOff bOfp kept wrt wid 0 ver fAdr fTab adr tab lf) H := hP
    have hD : va_D A (Wd a g sLen sKind sExt sMust rTab rFil rNum rLnk rLen rItm made pItm held dByt dLen bByt bRea bRec bItm bFld bOff bOfp kept wrt wid 0 ver fAdr fTab adr tab lf) := hD
    refine W.eq (g2 := F0 m 27 ls [.int (nI (min (leN dByt dLen (nI 0) 4) 100000)), .ref (a 6)]) rfl ?_
    refine lv_iload_n hx hb d_V_inspect_27 rfl (lv_at hl 1 rfl) ?_
    refine lv_iconst (v := nI 0) hx hb d_V_inspect_28 (by decide) ?_
    refine lv_iconst (v := nI 1) hx hb d_V_inspect_29 (by decide) ?_
    refine k_callV (c_V_inspectTable6 l D a g tw sLen sKind sExt sMust rTab rFil rNum rLnk rLen rItm made pItm held dByt dLen bByt bRea bRec bItm bFld bOff bOfp kept wrt wid 0 ver fAdr fTab adr tab lf (min (leN dByt dLen (nI 0) 4) 100000) t 0 1  (by omega) (by omega) (by omega) (by omega) (by omega) (by omega) (by omega) (by omega)) m_V_inspectTable wd_3cc52be1 6 6 rfl rfl rfl kT hx hb hml hown hts ⟨Nat.le_of_ble_eq_true rfl, Nat.le_of_ble_eq_true rfl⟩ ⟨Nat.le_of_ble_eq_true rfl, Nat.le_of_ble_eq_true rfl⟩ hK hP hD hS hA hZ hl.1 rfl rfl (Nat.le_of_ble_eq_true rfl) d_V_inspect_30 (fun H locs hP hD hS => ?_)
    have hP : va_P D vwCl (Wd a g sLen sKind sExt sMust rTab rFil rNum rLnk rLen rItm made pItm held dByt dLen bByt bRea bRec bItm bFld bOff bOfp kept wrt wid ((vTb (SR.mk sLen sKind sExt sMust rTab rFil rNum rLnk rLen rItm) dByt dLen 6 (min (leN dByt dLen (nI 0) 4) 100000) t 0 0).2) ver fAdr fTab adr tab lf) H := hP
    have hD : va_D A (Wd a g sLen sKind sExt sMust rTab rFil rNum rLnk rLen rItm made pItm held dByt dLen bByt bRea bRec bItm bFld bOff bOfp kept wrt wid ((vTb (SR.mk sLen sKind sExt sMust rTab rFil rNum rLnk rLen rItm) dByt dLen 6 (min (leN dByt dLen (nI 0) 4) 100000) t 0 0).2) ver fAdr fTab adr tab lf) := hD
    refine W.eq (g2 := F0 m 33 ls [.int ((vTb (SR.mk sLen sKind sExt sMust rTab rFil rNum rLnk rLen rItm) dByt dLen 6 (min (leN dByt dLen (nI 0) 4) 100000) t 0 0).1)]) rfl ?_
    have hv : vIn (SR.mk sLen sKind sExt sMust rTab rFil rNum rLnk rLen rItm) dByt dLen t = vTb (SR.mk sLen sKind sExt sMust rTab rFil rNum rLnk rLen rItm) dByt dLen 6 (min (leN dByt dLen (nI 0) 4) 100000) t 0 0 := by rw [vIn, if_neg (by omega)]
    exact k_iret hx hb hr hlocks hK hP hD hS (trivial) (by rw [hv]; first | done | rfl) (by rw [hv]; first | done | rfl) d_V_inspect_33
  · skip
    have c_13 := mt (nI_leI (by omega) (by omega)).mpr c_13
    refine lv_iconst (v := nI 0) hx hb d_V_inspect_16 (by decide) ?_
    have hv : vIn (SR.mk sLen sKind sExt sMust rTab rFil rNum rLnk rLen rItm) dByt dLen t = (nI 0, 0) := by rw [vIn, if_pos (by omega)]
    exact k_iret hx hb hr hlocks hK hP hD hS (trivial) (by rw [hv]; first | done | rfl) (by rw [hv]; first | done | rfl) d_V_inspect_17
set_option maxHeartbeats 4000000 in
set_option maxRecDepth 100000 in
theorem c_verify (l : Launch) (hl0 : l.stackTraces = false) (D : va_G) (a : Nat → Nat) (g : Nat → ClassId) (tw : Nat) (sLen sKind : Nat → Nat) (sExt : Nat → Int32) (sMust : Nat → Bool) (rTab : Nat → Nat) (rFil : Nat → Bool) (rNum : Nat → Int64) (rLnk rLen : Nat → Nat) (rItm : Nat → Int32) (made : Nat) (pItm : Nat → Int32) (held : Nat) (dByt : Nat → Nat) (dLen : Nat) (bByt : Nat → Nat) (bRea : Nat → Bool) (bRec bItm bFld bOff bOfp : Nat → Nat) (kept wrt wid ent : Nat) (ver : Bool) (fAdr fTab adr tab : Nat) (lf : Int32) (x : Int32)  (hq : SOK (SR.mk sLen sKind sExt sMust rTab rFil rNum rLnk rLen rItm)) (hX : ∀ j, sKind j = 6 → okT (sExt j) = true) (hB : ∀ k, dByt k < 256) (hd : dLen ≤ 240) : kMX l y_F_verify b_F_verify 2 (some .int) ({ frames := 34, cells := 1, slots := 6, locals := 729 }) D vwCl (WdT g) tw [.ref (a 0), .int x] (Wd a g sLen sKind sExt sMust rTab rFil rNum rLnk rLen rItm made pItm held dByt dLen bByt bRea bRec bItm bFld bOff bOfp kept wrt wid ent ver fAdr fTab adr tab lf) (cdVer (SR.mk sLen sKind sExt sMust rTab rFil rNum rLnk rLen rItm) dByt dLen x = 0) (some (.int (nI (vIn (SR.mk sLen sKind sExt sMust rTab rFil rNum rLnk rLen rItm) dByt dLen (cN x)).2))) (Wd a g sLen sKind sExt sMust rTab rFil rNum rLnk rLen rItm made pItm held dByt dLen bByt bRea bRec bItm bFld bOff bOfp kept wrt wid ((vIn (SR.mk sLen sKind sExt sMust rTab rFil rNum rLnk rLen rItm) dByt dLen (cN x)).2) true (min (leN dByt dLen (nI 0) 4) 100000) (cN x) (min (leN dByt dLen (nI 0) 4) 100000) (cN x) ((vIn (SR.mk sLen sKind sExt sMust rTab rFil rNum rLnk rLen rItm) dByt dLen (cN x)).1)) (fun E => E = xIA ∧ cdVer (SR.mk sLen sKind sExt sMust rTab rFil rNum rLnk rLen rItm) dByt dLen x = 1) (Wd a g sLen sKind sExt sMust rTab rFil rNum rLnk rLen rItm made pItm held dByt dLen bByt bRea bRec bItm bFld bOff bOfp kept wrt wid (if okT x = true then (vIn (SR.mk sLen sKind sExt sMust rTab rFil rNum rLnk rLen rItm) dByt dLen (cN x)).2 else ent) (if okT x = true then false else ver) fAdr fTab adr tab (if okT x = true then (vIn (SR.mk sLen sKind sExt sMust rTab rFil rNum rLnk rLen rItm) dByt dLen (cN x)).1 else lf)) := by
  refine k_ofX (by decide) (Nat.le_of_ble_eq_true rfl) ?_
  intro p e s m below meth c A ls hx hb hr hlocks hml hex hts hown hA hP hK hD hS hZ hl
  have hl : lv_has ls 2 [(0, .ref (a 0)), (1, .int x)] := hl
  refine lv_iload_n hx hb d_F_verify_0 rfl (lv_at hl 1 rfl) ?_
  refine k_callS (c_isTable l D a g tw sLen sKind sExt sMust rTab rFil rNum rLnk rLen rItm made pItm held dByt dLen bByt bRea bRec bItm bFld bOff bOfp kept wrt wid ent ver fAdr fTab adr tab lf x  ) m_F_isTable wd_c78461cc kT hx hb hml hown hts ⟨Nat.le_of_ble_eq_true rfl, Nat.le_of_ble_eq_true rfl⟩ ⟨Nat.le_of_ble_eq_true rfl, Nat.le_of_ble_eq_true rfl⟩ hK hP hD hS hA hZ hl.1 rfl rfl (Nat.le_of_ble_eq_true rfl) d_F_verify_1 (fun H locs hP hD hS => ?_)
  have hP : va_P D vwCl (Wd a g sLen sKind sExt sMust rTab rFil rNum rLnk rLen rItm made pItm held dByt dLen bByt bRea bRec bItm bFld bOff bOfp kept wrt wid ent ver fAdr fTab adr tab lf) H := hP
  have hD : va_D A (Wd a g sLen sKind sExt sMust rTab rFil rNum rLnk rLen rItm made pItm held dByt dLen bByt bRea bRec bItm bFld bOff bOfp kept wrt wid ent ver fAdr fTab adr tab lf) := hD
  refine W.eq (g2 := F0 m 4 ls [.int (bI (okT x))]) rfl ?_
  refine lv_if_ne (tgt := 15) hx hb d_F_verify_4 (by decide) (fun c_4 => ?_) (fun c_4 => ?_)
  · skip
    have c_4 := mt (bI_0).mpr c_4
    have c_4 := eq_true_of_ne_false c_4
    obtain ⟨n_x, b_x⟩ := okT_spec c_4
    have hl : lv_has ls 2 [(0, .ref (a 0)), (1, .int (nI (cN x)))] := by rw [← n_x]; exact hl
    refine lv_aload_n hx hb d_F_verify_15 rfl (lv_at hl 0 rfl) ?_
    refine va_get (D := D) (ci := 0) (C := R_F) (T := T_F) (N := 8) hx hb hts (fun w h => kT w (i_F w h)) hown hK hP 0 rfl rfl 6 (by decide) (hts _ (kT _ wd_59fc3318)) (fun _ h9 => h9) rfl d_F_verify_16 ?_
    refine k_callV (c_Cursor_leave l D a g tw sLen sKind sExt sMust rTab rFil rNum rLnk rLen rItm made pItm held dByt dLen bByt bRea bRec bItm bFld bOff bOfp kept wrt wid ent ver fAdr fTab adr tab lf   ) m_C_leave wd_4ebb4d90 7 7 rfl rfl rfl kT hx hb hml hown hts ⟨Nat.le_of_ble_eq_true rfl, Nat.le_of_ble_eq_true rfl⟩ ⟨Nat.le_of_ble_eq_true rfl, Nat.le_of_ble_eq_true rfl⟩ hK hP hD hS hA hZ hl.1 rfl rfl (Nat.le_of_ble_eq_true rfl) d_F_verify_19 (fun H locs hP hD hS => ?_)
    have hP : va_P D vwCl (Wd a g sLen sKind sExt sMust rTab rFil rNum rLnk rLen rItm made pItm held dByt dLen bByt bRea bRec bItm bFld bOff bOfp kept wrt wid ent false fAdr fTab adr tab lf) H := hP
    have hD : va_D A (Wd a g sLen sKind sExt sMust rTab rFil rNum rLnk rLen rItm made pItm held dByt dLen bByt bRea bRec bItm bFld bOff bOfp kept wrt wid ent false fAdr fTab adr tab lf) := hD
    refine W.eq (g2 := F0 m 22 ls []) rfl ?_
    refine lv_aload_n hx hb d_F_verify_22 rfl (lv_at hl 0 rfl) ?_
    refine lv_aload_n hx hb d_F_verify_23 rfl (lv_at hl 0 rfl) ?_
    refine va_get (D := D) (ci := 0) (C := R_F) (T := T_F) (N := 8) hx hb hts (fun w h => kT w (i_F w h)) hown hK hP 0 rfl rfl 5 (by decide) (hts _ (kT _ wd_abd60587)) (fun _ h9 => h9) rfl d_F_verify_24 ?_
    refine lv_iload_n hx hb d_F_verify_27 rfl (lv_at hl 1 rfl) ?_
    refine k_callV (c_V_inspect l D a g tw sLen sKind sExt sMust rTab rFil rNum rLnk rLen rItm made pItm held dByt dLen bByt bRea bRec bItm bFld bOff bOfp kept wrt wid ent false fAdr fTab adr tab lf (cN x)  b_x hq hX hB hd) m_V_inspect wd_9b4c001e 6 6 rfl rfl rfl kT hx hb hml hown hts ⟨Nat.le_of_ble_eq_true rfl, Nat.le_of_ble_eq_true rfl⟩ ⟨Nat.le_of_ble_eq_true rfl, Nat.le_of_ble_eq_true rfl⟩ hK hP hD hS hA hZ hl.1 rfl rfl (Nat.le_of_ble_eq_true rfl) d_F_verify_28 (fun H locs hP hD hS => ?_)
    have hP : va_P D vwCl (Wd a g sLen sKind sExt sMust rTab rFil rNum rLnk rLen rItm made pItm held dByt dLen bByt bRea bRec bItm bFld bOff bOfp kept wrt wid ((vIn (SR.mk sLen sKind sExt sMust rTab rFil rNum rLnk rLen rItm) dByt dLen (cN x)).2) false fAdr fTab adr tab lf) H := hP
    have hD : va_D A (Wd a g sLen sKind sExt sMust rTab rFil rNum rLnk rLen rItm made pItm held dByt dLen bByt bRea bRec bItm bFld bOff bOfp kept wrt wid ((vIn (SR.mk sLen sKind sExt sMust rTab rFil rNum rLnk rLen rItm) dByt dLen (cN x)).2) false fAdr fTab adr tab lf) := hD
    refine W.eq (g2 := F0 m 31 ls [.int ((vIn (SR.mk sLen sKind sExt sMust rTab rFil rNum rLnk rLen rItm) dByt dLen (cN x)).1), .ref (a 0)]) rfl ?_
    refine va_put (D := D) (ci := 0) (ty := .int) (C := R_F) (T := T_F) (N := 8) hx hb hts (fun w h => kT w (i_F w h)) ty_F tyk_F nm_F hown hK hP hD hS 0 rfl rfl 7 (by decide) (hts _ (kT _ wd_f0aaec2b)) (fun _ h9 => h9) rfl (by decide +kernel) rfl rfl (Nat.le_of_ble_eq_true rfl) d_F_verify_31 (fun H locs hP hD hS => ?_)
    have hP : va_P D vwCl (Wd a g sLen sKind sExt sMust rTab rFil rNum rLnk rLen rItm made pItm held dByt dLen bByt bRea bRec bItm bFld bOff bOfp kept wrt wid ((vIn (SR.mk sLen sKind sExt sMust rTab rFil rNum rLnk rLen rItm) dByt dLen (cN x)).2) false fAdr fTab adr tab ((vIn (SR.mk sLen sKind sExt sMust rTab rFil rNum rLnk rLen rItm) dByt dLen (cN x)).1)) H := hP
    have hD : va_D A (Wd a g sLen sKind sExt sMust rTab rFil rNum rLnk rLen rItm made pItm held dByt dLen bByt bRea bRec bItm bFld bOff bOfp kept wrt wid ((vIn (SR.mk sLen sKind sExt sMust rTab rFil rNum rLnk rLen rItm) dByt dLen (cN x)).2) false fAdr fTab adr tab ((vIn (SR.mk sLen sKind sExt sMust rTab rFil rNum rLnk rLen rItm) dByt dLen (cN x)).1)) := hD
    refine lv_aload_n hx hb d_F_verify_34 rfl (lv_at hl 0 rfl) ?_
    refine va_get (D := D) (ci := 0) (C := R_F) (T := T_F) (N := 8) hx hb hts (fun w h => kT w (i_F w h)) hown hK hP 0 rfl rfl 7 (by decide) (hts _ (kT _ wd_f0aaec2b)) (fun _ h9 => h9) rfl d_F_verify_35 ?_
    refine lv_iconst (v := -1) hx hb d_F_verify_38 (by decide) ?_
    refine lv_icmp_eq (tgt := 50) hx hb d_F_verify_39 (by decide) (fun c_39 => ?_) (fun c_39 => ?_)
    · skip
      refine lv_aload_n hx hb d_F_verify_50 rfl (lv_at hl 0 rfl) ?_
      refine va_get (D := D) (ci := 0) (C := R_F) (T := T_F) (N := 8) hx hb hts (fun w h => kT w (i_F w h)) hown hK hP 0 rfl rfl 6 (by decide) (hts _ (kT _ wd_59fc3318)) (fun _ h9 => h9) rfl d_F_verify_51 ?_
      refine lv_aload_n hx hb d_F_verify_54 rfl (lv_at hl 0 rfl) ?_
      refine va_get (D := D) (ci := 0) (C := R_F) (T := T_F) (N := 8) hx hb hts (fun w h => kT w (i_F w h)) hown hK hP 0 rfl rfl 3 (by decide) (hts _ (kT _ wd_24cf1a27)) (fun _ h9 => h9) rfl d_F_verify_55 ?_
      refine lv_iconst (v := nI 0) hx hb d_F_verify_58 (by decide) ?_
      refine k_callV (c_Data_capped l D a g tw sLen sKind sExt sMust rTab rFil rNum rLnk rLen rItm made pItm held dByt dLen bByt bRea bRec bItm bFld bOff bOfp kept wrt wid ((vIn (SR.mk sLen sKind sExt sMust rTab rFil rNum rLnk rLen rItm) dByt dLen (cN x)).2) false fAdr fTab adr tab ((vIn (SR.mk sLen sKind sExt sMust rTab rFil rNum rLnk rLen rItm) dByt dLen (cN x)).1) (nI 0)  hB hd) m_D_capped wd_d6878f84 4 4 rfl rfl rfl kT hx hb hml hown hts ⟨Nat.le_of_ble_eq_true rfl, Nat.le_of_ble_eq_true rfl⟩ ⟨Nat.le_of_ble_eq_true rfl, Nat.le_of_ble_eq_true rfl⟩ hK hP hD hS hA hZ hl.1 rfl rfl (Nat.le_of_ble_eq_true rfl) d_F_verify_59 (fun H locs hP hD hS => ?_)
      have hP : va_P D vwCl (Wd a g sLen sKind sExt sMust rTab rFil rNum rLnk rLen rItm made pItm held dByt dLen bByt bRea bRec bItm bFld bOff bOfp kept wrt wid ((vIn (SR.mk sLen sKind sExt sMust rTab rFil rNum rLnk rLen rItm) dByt dLen (cN x)).2) false fAdr fTab adr tab ((vIn (SR.mk sLen sKind sExt sMust rTab rFil rNum rLnk rLen rItm) dByt dLen (cN x)).1)) H := hP
      have hD : va_D A (Wd a g sLen sKind sExt sMust rTab rFil rNum rLnk rLen rItm made pItm held dByt dLen bByt bRea bRec bItm bFld bOff bOfp kept wrt wid ((vIn (SR.mk sLen sKind sExt sMust rTab rFil rNum rLnk rLen rItm) dByt dLen (cN x)).2) false fAdr fTab adr tab ((vIn (SR.mk sLen sKind sExt sMust rTab rFil rNum rLnk rLen rItm) dByt dLen (cN x)).1)) := hD
      refine W.eq (g2 := F0 m 62 ls [.int (nI (min (leN dByt dLen (nI 0) 4) 100000)), .ref (a 7)]) rfl ?_
      refine lv_iload_n hx hb d_F_verify_62 rfl (lv_at hl 1 rfl) ?_
      refine k_callV (c_Cursor_enter l D a g tw sLen sKind sExt sMust rTab rFil rNum rLnk rLen rItm made pItm held dByt dLen bByt bRea bRec bItm bFld bOff bOfp kept wrt wid ((vIn (SR.mk sLen sKind sExt sMust rTab rFil rNum rLnk rLen rItm) dByt dLen (cN x)).2) false fAdr fTab adr tab ((vIn (SR.mk sLen sKind sExt sMust rTab rFil rNum rLnk rLen rItm) dByt dLen (cN x)).1) (min (leN dByt dLen (nI 0) 4) 100000) (cN x)  ) m_C_enter wd_63b6f65e 7 7 rfl rfl rfl kT hx hb hml hown hts ⟨Nat.le_of_ble_eq_true rfl, Nat.le_of_ble_eq_true rfl⟩ ⟨Nat.le_of_ble_eq_true rfl, Nat.le_of_ble_eq_true rfl⟩ hK hP hD hS hA hZ hl.1 rfl rfl (Nat.le_of_ble_eq_true rfl) d_F_verify_63 (fun H locs hP hD hS => ?_)
      have hP : va_P D vwCl (Wd a g sLen sKind sExt sMust rTab rFil rNum rLnk rLen rItm made pItm held dByt dLen bByt bRea bRec bItm bFld bOff bOfp kept wrt wid ((vIn (SR.mk sLen sKind sExt sMust rTab rFil rNum rLnk rLen rItm) dByt dLen (cN x)).2) true ((min (leN dByt dLen (nI 0) 4) 100000)) (cN x) ((min (leN dByt dLen (nI 0) 4) 100000)) (cN x) ((vIn (SR.mk sLen sKind sExt sMust rTab rFil rNum rLnk rLen rItm) dByt dLen (cN x)).1)) H := hP
      have hD : va_D A (Wd a g sLen sKind sExt sMust rTab rFil rNum rLnk rLen rItm made pItm held dByt dLen bByt bRea bRec bItm bFld bOff bOfp kept wrt wid ((vIn (SR.mk sLen sKind sExt sMust rTab rFil rNum rLnk rLen rItm) dByt dLen (cN x)).2) true ((min (leN dByt dLen (nI 0) 4) 100000)) (cN x) ((min (leN dByt dLen (nI 0) 4) 100000)) (cN x) ((vIn (SR.mk sLen sKind sExt sMust rTab rFil rNum rLnk rLen rItm) dByt dLen (cN x)).1)) := hD
      refine W.eq (g2 := F0 m 66 ls []) rfl ?_
      refine lv_aload_n hx hb d_F_verify_66 rfl (lv_at hl 0 rfl) ?_
      refine va_get (D := D) (ci := 0) (C := R_F) (T := T_F) (N := 8) hx hb hts (fun w h => kT w (i_F w h)) hown hK hP 0 rfl rfl 5 (by decide) (hts _ (kT _ wd_abd60587)) (fun _ h9 => h9) rfl d_F_verify_67 ?_
      refine va_getN (D := D) (ci := 6) (C := R_V) (T := T_V) (N := 3) hx hb hts (fun w h => kT w (i_V w h)) hown hK hP 6 rfl rfl 2 (by decide) (va_Nw.use rfl (hZ.2.2.1 _ wn_4202aacd)) (fun _ h9 => h9) rfl d_F_verify_70 ?_
      refine W.widen (k := 1) (n := 6) (Nat.le_of_ble_eq_true rfl) (Nat.le_of_ble_eq_true rfl) ?_
      exact x_ret (k_iret hx hb hr hlocks hK hP hD hS (by rw [cdVer, if_pos c_4, if_pos c_39]) (rfl) (rfl) d_F_verify_73)
    · skip
      exact k_throw hl0 hx hb hown kT hts ⟨by decide, by decide⟩ wx_ba67719a hZ hex hlocks hK hP hD hS (hl.1.trans hml.symm) (⟨rfl, by rw [cdVer, if_pos c_4, if_neg c_39]⟩) (by rw [if_pos c_4, if_pos c_4, if_pos c_4]) d_F_verify_42 d_F_verify_45 d_F_verify_46 d_F_verify_49 ⟨Nat.le_of_ble_eq_true rfl, Nat.le_of_ble_eq_true rfl⟩ ⟨Nat.le_of_ble_eq_true rfl, Nat.le_of_ble_eq_true rfl⟩ (Nat.le_of_ble_eq_true rfl) (Nat.le_of_ble_eq_true rfl)
  · skip
    have c_4 := (bI_0).mp c_4
    exact k_throw hl0 hx hb hown kT hts ⟨by decide, by decide⟩ wx_ba67719a hZ hex hlocks hK hP hD hS (hl.1.trans hml.symm) (⟨rfl, by rw [cdVer, if_neg (by simp [c_4])]⟩) (by rw [if_neg (show ¬ okT x = true by simp [c_4]), if_neg (show ¬ okT x = true by simp [c_4]), if_neg (show ¬ okT x = true by simp [c_4])]) d_F_verify_7 d_F_verify_10 d_F_verify_11 d_F_verify_14 ⟨Nat.le_of_ble_eq_true rfl, Nat.le_of_ble_eq_true rfl⟩ ⟨Nat.le_of_ble_eq_true rfl, Nat.le_of_ble_eq_true rfl⟩ (Nat.le_of_ble_eq_true rfl) (Nat.le_of_ble_eq_true rfl)

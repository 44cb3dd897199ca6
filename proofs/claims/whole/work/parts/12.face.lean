/-! exceptions, and what each call of the face answers: 0, or the law's number of what it throws -/
abbrev xIA : String := "java/lang/IllegalArgumentException"
abbrev xIS : String := "java/lang/IllegalStateException"
abbrev xNS : String := "java/util/NoSuchElementException"
abbrev xUO : String := "java/lang/UnsupportedOperationException"
abbrev xIO : String := "java/lang/IndexOutOfBoundsException"
theorem k7_spec {k : Int32} (h1 : ¬ k < 0) (h2 : ¬ nI 6 < k) : k = nI (cN k) ∧ cN k < 7 := by
  obtain ⟨j, hj, rfl⟩ := nI_of h1
  rw [cN_nI hj]
  have h3 := mt (nI_ltI (by decide) hj).mpr h2
  exact ⟨rfl, by omega⟩
theorem le_spec {n : Nat} {k : Int32} (hn : n < 2 ^ 31) (h1 : ¬ k < 0) (h2 : k ≤ nI n) : k = nI (cN k) ∧ cN k ≤ n := by
  obtain ⟨j, hj, rfl⟩ := nI_of h1
  rw [cN_nI hj]
  have h3 := (nI_leI hj hn).mp h2
  exact ⟨rfl, h3⟩
def cdField (sLen : Nat → Nat) (t k x : Int32) (b : Bool) : Nat := if okT t = true ∧ ¬ k < 0 ∧ ¬ nI 6 < k ∧ suT (cN k) x = true then (if b = true ∧ cN k < 4 then 1 else if sLen (cN t) < 6 then 0 else 2) else 1
def cdMake (made : Nat) (x : Int32) : Nat := if okT x = true then (if made < 16 then 0 else 2) else 1
/-- the record and its field are there -/
def inR (sLen rTab : Nat → Nat) (made : Nat) (x y : Int32) : Bool := hasF made x && hasF (sLen (rTab (cN x))) y
def kdR (sKind rTab : Nat → Nat) (x y : Int32) : Nat := sKind (rTab (cN x) * 6 + cN y)
theorem inR_spec {sLen rTab : Nat → Nat} {made : Nat} {x y : Int32} (hm : made ≤ 16) (hT : ∀ r, r < made → rTab r < 4) (hL : ∀ t, t < 4 → sLen t ≤ 6) (h : inR sLen rTab made x y = true) : (x = nI (cN x) ∧ cN x < made) ∧ (y = nI (cN y) ∧ cN y < sLen (rTab (cN x))) ∧ rTab (cN x) < 4 ∧ sLen (rTab (cN x)) ≤ 6 := by
  simp only [inR, Bool.and_eq_true] at h
  have h1 := hasF_spec (by omega) h.1
  have h2 := hT _ h1.2
  have h3 := hL _ h2
  exact ⟨h1, hasF_spec (by omega) h.2, h2, h3⟩
def cdNum (sLen sKind rTab : Nat → Nat) (made : Nat) (x y : Int32) : Nat := if inR sLen rTab made x y = true then (if kdR sKind rTab x y < 4 then 0 else 2) else 1
def cdAdd (held : Nat) : Nat := if held < 12 then 0 else 1
def cdFill (sLen sKind rTab : Nat → Nat) (made held : Nat) (x y : Int32) : Nat := if inR sLen rTab made x y = true then (if kdR sKind rTab x y = 4 ∨ (kdR sKind rTab x y = 5 ∧ held ≤ 8) then 0 else 2) else 1
def cdLink (sLen sKind : Nat → Nat) (sExt : Nat → Int32) (rTab : Nat → Nat) (made : Nat) (x y z : Int32) : Nat :=
  if inR sLen rTab made x y = true ∧ hasF made z = true then (if kdR sKind rTab x y = 6 ∧ cN z < cN x ∧ nI (rTab (cN z)) = sExt (rTab (cN x) * 6 + cN y) then 0 else 2) else 1
def cdUnset (sLen rTab : Nat → Nat) (made : Nat) (x y : Int32) : Nat := if inR sLen rTab made x y = true then 0 else 1
def cdAt (dLen : Nat) (x : Int32) : Nat := if hasF dLen x = true then 0 else 1
def cdCut (dLen : Nat) (x : Int32) : Nat := if ¬ x < 0 ∧ x ≤ nI dLen then 0 else 1
def cdTop (ver : Bool) : Nat := if ver = true then 0 else 1
def cdCount (x : Int32) : Nat := if x = 0 ∨ x = 1 ∨ x = 2 ∨ x = 3 ∨ x = 4 ∨ x = 5 then 0 else 1
def rvCount (sLen : Nat → Nat) (made held dLen : Nat) (ver : Bool) (tab : Nat) (x : Int32) : Int32 := if x = 0 then nI dLen else if x = 1 then nI made else if x = 2 then nI (sLen 0 + sLen 1 + sLen 2 + sLen 3) else if x = 3 then nI held else if x = 4 then bI ver else if ver = true then nI tab else -1
theorem okT_4 {x : Int32} (h : okT x = true) : x = nI (cN x) ∧ cN x < 4 := okT_spec h
theorem wd_2e172b3e : Cond.methodLink R_F 103 y_F_broughtIntoRange ∈ kGW := kGW_of (List.mem_of_getElem? (i := 294) (by decide +kernel)) (by decide)
theorem wd_c78461cc : Cond.methodLink R_F 66 y_F_isTable ∈ kGW := kGW_of (List.mem_of_getElem? (i := 288) (by decide +kernel)) (by decide)
theorem wd_5f462329 : Cond.methodLink R_F 70 y_F_suits ∈ kGW := kGW_of (List.mem_of_getElem? (i := 291) (by decide +kernel)) (by decide)
theorem wd_61505274 : Cond.fieldLink R_F 12 R_F "schema" "LFlatStore$Schema;" ∈ kGW := kGW_of (List.mem_of_getElem? (i := 250) (by decide +kernel)) (by decide)
theorem wd_a55bddf7 : Cond.methodLink R_F 77 y_S_fieldsOf ∈ kGW := kGW_of (List.mem_of_getElem? (i := 362) (by decide +kernel)) (by decide)
theorem wd_59fc3318 : Cond.fieldLink R_F 58 R_F "cursor" "LFlatStore$Cursor;" ∈ kGW := kGW_of (List.mem_of_getElem? (i := 256) (by decide +kernel)) (by decide)
theorem wd_4ebb4d90 : Cond.methodLink R_F 84 y_C_leave ∈ kGW := kGW_of (List.mem_of_getElem? (i := 381) (by decide +kernel)) (by decide)
theorem wd_199e9fa1 : Cond.methodLink R_F 87 y_S_append ∈ kGW := kGW_of (List.mem_of_getElem? (i := 385) (by decide +kernel)) (by decide)
theorem wd_20c3854e : Cond.fieldLink R_F 19 R_F "records" "LFlatStore$Records;" ∈ kGW := kGW_of (List.mem_of_getElem? (i := 251) (by decide +kernel)) (by decide)
theorem wd_e4c15174 : Cond.methodLink R_F 94 y_R_append ∈ kGW := kGW_of (List.mem_of_getElem? (i := 396) (by decide +kernel)) (by decide)
theorem wd_bd0a1414 : Cond.methodLink R_F 124 y_R_holds ∈ kGW := kGW_of (List.mem_of_getElem? (i := 413) (by decide +kernel)) (by decide)
theorem wd_611a78bf : Cond.methodLink R_F 130 y_R_tableOf ∈ kGW := kGW_of (List.mem_of_getElem? (i := 417) (by decide +kernel)) (by decide)
theorem wd_9d5f0e8d : Cond.methodLink R_F 228 y_S_holds ∈ kGW := kGW_of (List.mem_of_getElem? (i := 421) (by decide +kernel)) (by decide)
theorem wd_98c1bc35 : Cond.methodLink R_F 221 y_S_kindOf ∈ kGW := kGW_of (List.mem_of_getElem? (i := 440) (by decide +kernel)) (by decide)
theorem wd_2ea462ee : Cond.methodLink R_F 96 y_F_kindInRecord ∈ kGW := kGW_of (List.mem_of_getElem? (i := 409) (by decide +kernel)) (by decide)
theorem wd_26ede6b8 : Cond.methodLink R_F 107 y_F_slotOf ∈ kGW := kGW_of (List.mem_of_getElem? (i := 459) (by decide +kernel)) (by decide)
theorem wd_cb2a251a : Cond.methodLink R_F 110 y_R_keepNumber ∈ kGW := kGW_of (List.mem_of_getElem? (i := 462) (by decide +kernel)) (by decide)
theorem wd_e9e83da4 : Cond.fieldLink R_F 26 R_F "pending" "LFlatStore$Pending;" ∈ kGW := kGW_of (List.mem_of_getElem? (i := 252) (by decide +kernel)) (by decide)
theorem wd_72044d2f : Cond.methodLink R_F 117 y_P_append ∈ kGW := kGW_of (List.mem_of_getElem? (i := 473) (by decide +kernel)) (by decide)
theorem wd_62c7d309 : Cond.methodLink R_F 120 y_R_keepItems ∈ kGW := kGW_of (List.mem_of_getElem? (i := 484) (by decide +kernel)) (by decide)
theorem wd_c41b2e2f : Cond.methodLink R_F 133 y_S_extraOf ∈ kGW := kGW_of (List.mem_of_getElem? (i := 495) (by decide +kernel)) (by decide)
theorem wd_d691543e : Cond.methodLink R_F 136 y_R_keepLink ∈ kGW := kGW_of (List.mem_of_getElem? (i := 499) (by decide +kernel)) (by decide)
theorem wd_1aa1e925 : Cond.methodLink R_F 140 y_R_forget ∈ kGW := kGW_of (List.mem_of_getElem? (i := 510) (by decide +kernel)) (by decide)
theorem wd_24cf1a27 : Cond.fieldLink R_F 33 R_F "data" "LFlatStore$Data;" ∈ kGW := kGW_of (List.mem_of_getElem? (i := 253) (by decide +kernel)) (by decide)
theorem wd_191a46ae : Cond.methodLink R_F 166 y_D_holds ∈ kGW := kGW_of (List.mem_of_getElem? (i := 639) (by decide +kernel)) (by decide)
theorem wd_8cad2f06 : Cond.methodLink R_F 167 y_D_unsignedByte ∈ kGW := kGW_of (List.mem_of_getElem? (i := 643) (by decide +kernel)) (by decide)
theorem wd_7041bb2a : Cond.methodLink R_F 170 y_D_put ∈ kGW := kGW_of (List.mem_of_getElem? (i := 659) (by decide +kernel)) (by decide)
theorem wd_f0aaec2b : Cond.fieldLink R_F 62 R_F "lastFault" "I" ∈ kGW := kGW_of (List.mem_of_getElem? (i := 257) (by decide +kernel)) (by decide)
theorem wd_aaf757d7 : Cond.methodLink R_F 189 y_C_goFirst ∈ kGW := kGW_of (List.mem_of_getElem? (i := 754) (by decide +kernel)) (by decide)
theorem wd_3397ed31 : Cond.methodLink R_F 224 y_S_fieldsInAll ∈ kGW := kGW_of (List.mem_of_getElem? (i := 808) (by decide +kernel)) (by decide)
set_option maxRecDepth 20000 in
theorem wd_58c0e34d : Cond.code y_F_suits b_F_suits 2 (some .boolean) ∈ kGW := kGW_of (List.mem_of_getElem? (i := 293) (by rfl)) (by decide)
theorem wd_00a71ae3 : Cond.static y_F_suits ∈ kGW := kGW_of (List.mem_of_getElem? (i := 292) (by decide +kernel)) (by decide)
set_option maxRecDepth 20000 in
theorem wd_816fac69 : Cond.code y_F_field b_F_field 5 (some .int) ∈ kGW := kGW_of (List.mem_of_getElem? (i := 287) (by rfl)) (by decide)
theorem wd_7f70ac11 : Cond.instanceMethod y_F_field ∈ kGW := kGW_of (List.mem_of_getElem? (i := 285) (by decide +kernel)) (by decide)
theorem wd_8d476144 : Cond.selects R_F y_F_field y_F_field ∈ kGW := kGW_of (List.mem_of_getElem? (i := 286) (by decide +kernel)) (by decide)
set_option maxRecDepth 20000 in
theorem wd_c2ee9d25 : Cond.code y_F_make b_F_make 2 (some .int) ∈ kGW := kGW_of (List.mem_of_getElem? (i := 395) (by rfl)) (by decide)
theorem wd_f85e788f : Cond.instanceMethod y_F_make ∈ kGW := kGW_of (List.mem_of_getElem? (i := 393) (by decide +kernel)) (by decide)
theorem wd_5adccab3 : Cond.selects R_F y_F_make y_F_make ∈ kGW := kGW_of (List.mem_of_getElem? (i := 394) (by decide +kernel)) (by decide)
set_option maxRecDepth 20000 in
theorem wd_aa0fd909 : Cond.code y_F_kindInRecord b_F_kindInRecord 3 (some .int) ∈ kGW := kGW_of (List.mem_of_getElem? (i := 412) (by rfl)) (by decide)
theorem wd_c7dbdfea : Cond.instanceMethod y_F_kindInRecord ∈ kGW := kGW_of (List.mem_of_getElem? (i := 411) (by decide +kernel)) (by decide)
theorem wd_1f1f7e0d : Cond.selects R_F y_F_kindInRecord y_F_kindInRecord ∈ kGW := kGW_of (List.mem_of_getElem? (i := 1) (by decide +kernel)) (by decide)
set_option maxRecDepth 20000 in
theorem wd_899fa7ff : Cond.code y_F_number b_F_number 8 (some .long) ∈ kGW := kGW_of (List.mem_of_getElem? (i := 408) (by rfl)) (by decide)
theorem wd_c947dfcd : Cond.instanceMethod y_F_number ∈ kGW := kGW_of (List.mem_of_getElem? (i := 406) (by decide +kernel)) (by decide)
theorem wd_a482a27f : Cond.selects R_F y_F_number y_F_number ∈ kGW := kGW_of (List.mem_of_getElem? (i := 407) (by decide +kernel)) (by decide)
set_option maxRecDepth 20000 in
theorem wd_048f2933 : Cond.code y_F_add b_F_add 2 (some .int) ∈ kGW := kGW_of (List.mem_of_getElem? (i := 472) (by rfl)) (by decide)
theorem wd_757db387 : Cond.instanceMethod y_F_add ∈ kGW := kGW_of (List.mem_of_getElem? (i := 470) (by decide +kernel)) (by decide)
theorem wd_93230b24 : Cond.selects R_F y_F_add y_F_add ∈ kGW := kGW_of (List.mem_of_getElem? (i := 471) (by decide +kernel)) (by decide)
set_option maxRecDepth 20000 in
theorem wd_6baeaeee : Cond.code y_F_fill b_F_fill 5 (some .int) ∈ kGW := kGW_of (List.mem_of_getElem? (i := 483) (by rfl)) (by decide)
theorem wd_36512f2d : Cond.instanceMethod y_F_fill ∈ kGW := kGW_of (List.mem_of_getElem? (i := 481) (by decide +kernel)) (by decide)
theorem wd_3b3846e7 : Cond.selects R_F y_F_fill y_F_fill ∈ kGW := kGW_of (List.mem_of_getElem? (i := 482) (by decide +kernel)) (by decide)
set_option maxRecDepth 20000 in
theorem wd_5ccefc0f : Cond.code y_F_link b_F_link 5 (some .int) ∈ kGW := kGW_of (List.mem_of_getElem? (i := 494) (by rfl)) (by decide)
theorem wd_23fddc55 : Cond.instanceMethod y_F_link ∈ kGW := kGW_of (List.mem_of_getElem? (i := 492) (by decide +kernel)) (by decide)
theorem wd_ef7e2619 : Cond.selects R_F y_F_link y_F_link ∈ kGW := kGW_of (List.mem_of_getElem? (i := 493) (by decide +kernel)) (by decide)
set_option maxRecDepth 20000 in
theorem wd_85916caa : Cond.code y_F_unset b_F_unset 3 (some .int) ∈ kGW := kGW_of (List.mem_of_getElem? (i := 509) (by rfl)) (by decide)
theorem wd_1a632512 : Cond.instanceMethod y_F_unset ∈ kGW := kGW_of (List.mem_of_getElem? (i := 507) (by decide +kernel)) (by decide)
theorem wd_98cd2f31 : Cond.selects R_F y_F_unset y_F_unset ∈ kGW := kGW_of (List.mem_of_getElem? (i := 508) (by decide +kernel)) (by decide)
set_option maxRecDepth 20000 in
theorem wd_26ffcfe9 : Cond.code y_F_at b_F_at 2 (some .int) ∈ kGW := kGW_of (List.mem_of_getElem? (i := 638) (by rfl)) (by decide)
theorem wd_530ec234 : Cond.instanceMethod y_F_at ∈ kGW := kGW_of (List.mem_of_getElem? (i := 636) (by decide +kernel)) (by decide)
theorem wd_9a09ed1a : Cond.selects R_F y_F_at y_F_at ∈ kGW := kGW_of (List.mem_of_getElem? (i := 637) (by decide +kernel)) (by decide)
set_option maxRecDepth 20000 in
theorem wd_a437fb75 : Cond.code y_F_patch b_F_patch 4 (some .int) ∈ kGW := kGW_of (List.mem_of_getElem? (i := 658) (by rfl)) (by decide)
theorem wd_b8871b6c : Cond.instanceMethod y_F_patch ∈ kGW := kGW_of (List.mem_of_getElem? (i := 656) (by decide +kernel)) (by decide)
theorem wd_76f7f6e5 : Cond.selects R_F y_F_patch y_F_patch ∈ kGW := kGW_of (List.mem_of_getElem? (i := 657) (by decide +kernel)) (by decide)
set_option maxRecDepth 20000 in
theorem wd_ab63537c : Cond.code y_F_cut b_F_cut 3 (some .int) ∈ kGW := kGW_of (List.mem_of_getElem? (i := 670) (by rfl)) (by decide)
theorem wd_78c80222 : Cond.instanceMethod y_F_cut ∈ kGW := kGW_of (List.mem_of_getElem? (i := 668) (by decide +kernel)) (by decide)
theorem wd_695740be : Cond.selects R_F y_F_cut y_F_cut ∈ kGW := kGW_of (List.mem_of_getElem? (i := 669) (by decide +kernel)) (by decide)
set_option maxRecDepth 20000 in
theorem wd_17663a26 : Cond.code y_F_fault b_F_fault 1 (some .int) ∈ kGW := kGW_of (List.mem_of_getElem? (i := 278) (by rfl)) (by decide)
theorem wd_80a1f6fc : Cond.instanceMethod y_F_fault ∈ kGW := kGW_of (List.mem_of_getElem? (i := 276) (by decide +kernel)) (by decide)
theorem wd_48cf7535 : Cond.selects R_F y_F_fault y_F_fault ∈ kGW := kGW_of (List.mem_of_getElem? (i := 277) (by decide +kernel)) (by decide)
set_option maxRecDepth 20000 in
theorem wd_b48877b4 : Cond.code y_F_top b_F_top 1 (some .int) ∈ kGW := kGW_of (List.mem_of_getElem? (i := 753) (by rfl)) (by decide)
theorem wd_158978ae : Cond.instanceMethod y_F_top ∈ kGW := kGW_of (List.mem_of_getElem? (i := 751) (by decide +kernel)) (by decide)
theorem wd_0cd1a055 : Cond.selects R_F y_F_top y_F_top ∈ kGW := kGW_of (List.mem_of_getElem? (i := 752) (by decide +kernel)) (by decide)
set_option maxRecDepth 20000 in
theorem wd_83f1b9ab : Cond.code y_F_count b_F_count 2 (some .int) ∈ kGW := kGW_of (List.mem_of_getElem? (i := 807) (by rfl)) (by decide)
theorem wd_f55e5e10 : Cond.instanceMethod y_F_count ∈ kGW := kGW_of (List.mem_of_getElem? (i := 805) (by decide +kernel)) (by decide)
theorem wd_7bcd61ed : Cond.selects R_F y_F_count y_F_count ∈ kGW := kGW_of (List.mem_of_getElem? (i := 806) (by decide +kernel)) (by decide)
theorem wn_7137b64e : Cond.fieldLinkNest R_F 91 R_R "made" "I" "FlatStore" ∈ kNW := kNW_of (List.mem_of_getElem? (i := 113) (by decide +kernel)) (by decide)
theorem wn_6d58f88b : Cond.fieldLinkNest R_F 114 R_P "held" "I" "FlatStore" ∈ kNW := kNW_of (List.mem_of_getElem? (i := 140) (by decide +kernel)) (by decide)
theorem wn_29b5f204 : Cond.fieldLinkNest R_F 163 R_D "length" "I" "FlatStore" ∈ kNW := kNW_of (List.mem_of_getElem? (i := 156) (by decide +kernel)) (by decide)
theorem wn_14b5d946 : Cond.fieldLinkNest R_F 185 R_C "verified" "Z" "FlatStore" ∈ kNW := kNW_of (List.mem_of_getElem? (i := 232) (by decide +kernel)) (by decide)
theorem wn_1769704a : Cond.fieldLinkNest R_F 204 R_C "table" "I" "FlatStore" ∈ kNW := kNW_of (List.mem_of_getElem? (i := 238) (by decide +kernel)) (by decide)
set_option maxRecDepth 20000 in
theorem wx_ba67719a : ∀ w ∈ Cond.classLink R_F 74 "java/lang/IllegalArgumentException" :: Cond.initialized "java/lang/IllegalArgumentException" :: xAt R_F 76 "java/lang/IllegalArgumentException" ["java/lang/RuntimeException", "java/lang/Exception"], w ∈ kGW ∨ w ∈ kNW := x_mem [334, 321, 74, 342, 345, 348] rfl (by decide +kernel)
set_option maxRecDepth 20000 in
theorem wx_f6ab3475 : ∀ w ∈ Cond.classLink R_F 81 "java/lang/IllegalStateException" :: Cond.initialized "java/lang/IllegalStateException" :: xAt R_F 83 "java/lang/IllegalStateException" ["java/lang/RuntimeException", "java/lang/Exception"], w ∈ kGW ∨ w ∈ kNW := x_mem [334, 321, 74, 377, 345, 348] rfl (by decide +kernel)
set_option maxRecDepth 20000 in
theorem wx_81160be2 : ∀ w ∈ Cond.classLink R_F 127 "java/util/NoSuchElementException" :: Cond.initialized "java/util/NoSuchElementException" :: xAt R_F 129 "java/util/NoSuchElementException" ["java/lang/RuntimeException", "java/lang/Exception"], w ∈ kGW ∨ w ∈ kNW := x_mem [334, 321, 74, 436, 345, 348] rfl (by decide +kernel)
set_option maxRecDepth 20000 in
theorem wx_b1304150 : ∀ w ∈ Cond.classLink R_F 100 "java/lang/UnsupportedOperationException" :: Cond.initialized "java/lang/UnsupportedOperationException" :: xAt R_F 102 "java/lang/UnsupportedOperationException" ["java/lang/RuntimeException", "java/lang/Exception"], w ∈ kGW ∨ w ∈ kNW := x_mem [334, 321, 74, 455, 345, 348] rfl (by decide +kernel)
set_option maxRecDepth 20000 in
theorem wx_be0090ef : ∀ w ∈ Cond.classLink R_F 149 "java/lang/IndexOutOfBoundsException" :: Cond.initialized "java/lang/IndexOutOfBoundsException" :: xAt R_F 151 "java/lang/IndexOutOfBoundsException" ["java/lang/RuntimeException", "java/lang/Exception"], w ∈ kGW ∨ w ∈ kNW := x_mem [334, 321, 74, 621, 345, 348] rfl (by decide +kernel)
theorem d_F_suits_0 : decode b_F_suits 0 = .ok (.iload_n 0, 1) := by decide +kernel
theorem d_F_suits_1 : decode b_F_suits 1 = .ok (.bipush 6, 2) := by decide +kernel
theorem d_F_suits_3 : decode b_F_suits 3 = .ok (.if_icmp .ne 8, 3) := by decide +kernel
theorem d_F_suits_6 : decode b_F_suits 6 = .ok (.iload_n 1, 1) := by decide +kernel
theorem d_F_suits_7 : decode b_F_suits 7 = .ok (.invokestatic 66, 3) := by decide +kernel
theorem d_F_suits_10 : decode b_F_suits 10 = .ok (.ireturn, 1) := by decide +kernel
theorem d_F_suits_11 : decode b_F_suits 11 = .ok (.iload_n 0, 1) := by decide +kernel
theorem d_F_suits_12 : decode b_F_suits 12 = .ok (.iconst 4, 1) := by decide +kernel
theorem d_F_suits_13 : decode b_F_suits 13 = .ok (.if_icmp .ge 15, 3) := by decide +kernel
theorem d_F_suits_16 : decode b_F_suits 16 = .ok (.iload_n 0, 1) := by decide +kernel
theorem d_F_suits_17 : decode b_F_suits 17 = .ok (.iload_n 1, 1) := by decide +kernel
theorem d_F_suits_18 : decode b_F_suits 18 = .ok (.i2l, 1) := by decide +kernel
theorem d_F_suits_19 : decode b_F_suits 19 = .ok (.invokestatic 103, 3) := by decide +kernel
theorem d_F_suits_22 : decode b_F_suits 22 = .ok (.iload_n 1, 1) := by decide +kernel
theorem d_F_suits_23 : decode b_F_suits 23 = .ok (.i2l, 1) := by decide +kernel
theorem d_F_suits_24 : decode b_F_suits 24 = .ok (.lcmp, 1) := by decide +kernel
theorem d_F_suits_25 : decode b_F_suits 25 = .ok (.ifCond .ne 7, 3) := by decide +kernel
theorem d_F_suits_28 : decode b_F_suits 28 = .ok (.iconst 1, 1) := by decide +kernel
theorem d_F_suits_29 : decode b_F_suits 29 = .ok (.goto 4, 3) := by decide +kernel
theorem d_F_suits_32 : decode b_F_suits 32 = .ok (.iconst 0, 1) := by decide +kernel
theorem d_F_suits_33 : decode b_F_suits 33 = .ok (.ireturn, 1) := by decide +kernel
theorem d_F_field_0 : decode b_F_field 0 = .ok (.iload_n 1, 1) := by decide +kernel
theorem d_F_field_1 : decode b_F_field 1 = .ok (.invokestatic 66, 3) := by decide +kernel
theorem d_F_field_4 : decode b_F_field 4 = .ok (.ifCond .eq 21, 3) := by decide +kernel
theorem d_F_field_7 : decode b_F_field 7 = .ok (.iload_n 2, 1) := by decide +kernel
theorem d_F_field_8 : decode b_F_field 8 = .ok (.ifCond .lt 17, 3) := by decide +kernel
theorem d_F_field_11 : decode b_F_field 11 = .ok (.iload_n 2, 1) := by decide +kernel
theorem d_F_field_12 : decode b_F_field 12 = .ok (.bipush 6, 2) := by decide +kernel
theorem d_F_field_14 : decode b_F_field 14 = .ok (.if_icmp .gt 11, 3) := by decide +kernel
theorem d_F_field_17 : decode b_F_field 17 = .ok (.iload_n 2, 1) := by decide +kernel
theorem d_F_field_18 : decode b_F_field 18 = .ok (.iload_n 3, 1) := by decide +kernel
theorem d_F_field_19 : decode b_F_field 19 = .ok (.invokestatic 70, 3) := by decide +kernel
theorem d_F_field_22 : decode b_F_field 22 = .ok (.ifCond .ne 11, 3) := by decide +kernel
theorem d_F_field_25 : decode b_F_field 25 = .ok (.new 74, 3) := by decide +kernel
theorem d_F_field_28 : decode b_F_field 28 = .ok (.dup, 1) := by decide +kernel
theorem d_F_field_29 : decode b_F_field 29 = .ok (.invokespecial 76, 3) := by decide +kernel
theorem d_F_field_32 : decode b_F_field 32 = .ok (.athrow, 1) := by decide +kernel
theorem d_F_field_33 : decode b_F_field 33 = .ok (.iload 4, 2) := by decide +kernel
theorem d_F_field_35 : decode b_F_field 35 = .ok (.ifCond .eq 16, 3) := by decide +kernel
theorem d_F_field_38 : decode b_F_field 38 = .ok (.iload_n 2, 1) := by decide +kernel
theorem d_F_field_39 : decode b_F_field 39 = .ok (.iconst 4, 1) := by decide +kernel
theorem d_F_field_40 : decode b_F_field 40 = .ok (.if_icmp .ge 11, 3) := by decide +kernel
theorem d_F_field_43 : decode b_F_field 43 = .ok (.new 74, 3) := by decide +kernel
theorem d_F_field_46 : decode b_F_field 46 = .ok (.dup, 1) := by decide +kernel
theorem d_F_field_47 : decode b_F_field 47 = .ok (.invokespecial 76, 3) := by decide +kernel
theorem d_F_field_50 : decode b_F_field 50 = .ok (.athrow, 1) := by decide +kernel
theorem d_F_field_51 : decode b_F_field 51 = .ok (.aload_n 0, 1) := by decide +kernel
theorem d_F_field_52 : decode b_F_field 52 = .ok (.getfield 12, 3) := by decide +kernel
theorem d_F_field_55 : decode b_F_field 55 = .ok (.iload_n 1, 1) := by decide +kernel
theorem d_F_field_56 : decode b_F_field 56 = .ok (.invokevirtual 77, 3) := by decide +kernel
theorem d_F_field_59 : decode b_F_field 59 = .ok (.bipush 6, 2) := by decide +kernel
theorem d_F_field_61 : decode b_F_field 61 = .ok (.if_icmp .lt 11, 3) := by decide +kernel
theorem d_F_field_64 : decode b_F_field 64 = .ok (.new 81, 3) := by decide +kernel
theorem d_F_field_67 : decode b_F_field 67 = .ok (.dup, 1) := by decide +kernel
theorem d_F_field_68 : decode b_F_field 68 = .ok (.invokespecial 83, 3) := by decide +kernel
theorem d_F_field_71 : decode b_F_field 71 = .ok (.athrow, 1) := by decide +kernel
theorem d_F_field_72 : decode b_F_field 72 = .ok (.aload_n 0, 1) := by decide +kernel
theorem d_F_field_73 : decode b_F_field 73 = .ok (.getfield 58, 3) := by decide +kernel
theorem d_F_field_76 : decode b_F_field 76 = .ok (.invokevirtual 84, 3) := by decide +kernel
theorem d_F_field_79 : decode b_F_field 79 = .ok (.aload_n 0, 1) := by decide +kernel
theorem d_F_field_80 : decode b_F_field 80 = .ok (.getfield 12, 3) := by decide +kernel
theorem d_F_field_83 : decode b_F_field 83 = .ok (.iload_n 1, 1) := by decide +kernel
theorem d_F_field_84 : decode b_F_field 84 = .ok (.iload_n 2, 1) := by decide +kernel
theorem d_F_field_85 : decode b_F_field 85 = .ok (.iload_n 3, 1) := by decide +kernel
theorem d_F_field_86 : decode b_F_field 86 = .ok (.iload 4, 2) := by decide +kernel
theorem d_F_field_88 : decode b_F_field 88 = .ok (.invokevirtual 87, 3) := by decide +kernel
theorem d_F_field_91 : decode b_F_field 91 = .ok (.ireturn, 1) := by decide +kernel
theorem d_F_make_0 : decode b_F_make 0 = .ok (.iload_n 1, 1) := by decide +kernel
theorem d_F_make_1 : decode b_F_make 1 = .ok (.invokestatic 66, 3) := by decide +kernel
theorem d_F_make_4 : decode b_F_make 4 = .ok (.ifCond .ne 11, 3) := by decide +kernel
theorem d_F_make_7 : decode b_F_make 7 = .ok (.new 74, 3) := by decide +kernel
theorem d_F_make_10 : decode b_F_make 10 = .ok (.dup, 1) := by decide +kernel
theorem d_F_make_11 : decode b_F_make 11 = .ok (.invokespecial 76, 3) := by decide +kernel
theorem d_F_make_14 : decode b_F_make 14 = .ok (.athrow, 1) := by decide +kernel
theorem d_F_make_15 : decode b_F_make 15 = .ok (.aload_n 0, 1) := by decide +kernel
theorem d_F_make_16 : decode b_F_make 16 = .ok (.getfield 19, 3) := by decide +kernel
theorem d_F_make_19 : decode b_F_make 19 = .ok (.getfield 91, 3) := by decide +kernel
theorem d_F_make_22 : decode b_F_make 22 = .ok (.bipush 16, 2) := by decide +kernel
theorem d_F_make_24 : decode b_F_make 24 = .ok (.if_icmp .lt 11, 3) := by decide +kernel
theorem d_F_make_27 : decode b_F_make 27 = .ok (.new 81, 3) := by decide +kernel
theorem d_F_make_30 : decode b_F_make 30 = .ok (.dup, 1) := by decide +kernel
theorem d_F_make_31 : decode b_F_make 31 = .ok (.invokespecial 83, 3) := by decide +kernel
theorem d_F_make_34 : decode b_F_make 34 = .ok (.athrow, 1) := by decide +kernel
theorem d_F_make_35 : decode b_F_make 35 = .ok (.aload_n 0, 1) := by decide +kernel
theorem d_F_make_36 : decode b_F_make 36 = .ok (.getfield 19, 3) := by decide +kernel
theorem d_F_make_39 : decode b_F_make 39 = .ok (.iload_n 1, 1) := by decide +kernel
theorem d_F_make_40 : decode b_F_make 40 = .ok (.invokevirtual 94, 3) := by decide +kernel
theorem d_F_make_43 : decode b_F_make 43 = .ok (.ireturn, 1) := by decide +kernel
theorem d_F_kindInRecord_0 : decode b_F_kindInRecord 0 = .ok (.aload_n 0, 1) := by decide +kernel
theorem d_F_kindInRecord_1 : decode b_F_kindInRecord 1 = .ok (.getfield 19, 3) := by decide +kernel
theorem d_F_kindInRecord_4 : decode b_F_kindInRecord 4 = .ok (.iload_n 1, 1) := by decide +kernel
theorem d_F_kindInRecord_5 : decode b_F_kindInRecord 5 = .ok (.invokevirtual 124, 3) := by decide +kernel
theorem d_F_kindInRecord_8 : decode b_F_kindInRecord 8 = .ok (.ifCond .eq 22, 3) := by decide +kernel
theorem d_F_kindInRecord_11 : decode b_F_kindInRecord 11 = .ok (.aload_n 0, 1) := by decide +kernel
theorem d_F_kindInRecord_12 : decode b_F_kindInRecord 12 = .ok (.getfield 12, 3) := by decide +kernel
theorem d_F_kindInRecord_15 : decode b_F_kindInRecord 15 = .ok (.aload_n 0, 1) := by decide +kernel
theorem d_F_kindInRecord_16 : decode b_F_kindInRecord 16 = .ok (.getfield 19, 3) := by decide +kernel
theorem d_F_kindInRecord_19 : decode b_F_kindInRecord 19 = .ok (.iload_n 1, 1) := by decide +kernel
theorem d_F_kindInRecord_20 : decode b_F_kindInRecord 20 = .ok (.invokevirtual 130, 3) := by decide +kernel
theorem d_F_kindInRecord_23 : decode b_F_kindInRecord 23 = .ok (.iload_n 2, 1) := by decide +kernel
theorem d_F_kindInRecord_24 : decode b_F_kindInRecord 24 = .ok (.invokevirtual 228, 3) := by decide +kernel
theorem d_F_kindInRecord_27 : decode b_F_kindInRecord 27 = .ok (.ifCond .ne 11, 3) := by decide +kernel
theorem d_F_kindInRecord_30 : decode b_F_kindInRecord 30 = .ok (.new 127, 3) := by decide +kernel
theorem d_F_kindInRecord_33 : decode b_F_kindInRecord 33 = .ok (.dup, 1) := by decide +kernel
theorem d_F_kindInRecord_34 : decode b_F_kindInRecord 34 = .ok (.invokespecial 129, 3) := by decide +kernel
theorem d_F_kindInRecord_37 : decode b_F_kindInRecord 37 = .ok (.athrow, 1) := by decide +kernel
theorem d_F_kindInRecord_38 : decode b_F_kindInRecord 38 = .ok (.aload_n 0, 1) := by decide +kernel
theorem d_F_kindInRecord_39 : decode b_F_kindInRecord 39 = .ok (.getfield 12, 3) := by decide +kernel
theorem d_F_kindInRecord_42 : decode b_F_kindInRecord 42 = .ok (.aload_n 0, 1) := by decide +kernel
theorem d_F_kindInRecord_43 : decode b_F_kindInRecord 43 = .ok (.getfield 19, 3) := by decide +kernel
theorem d_F_kindInRecord_46 : decode b_F_kindInRecord 46 = .ok (.iload_n 1, 1) := by decide +kernel
theorem d_F_kindInRecord_47 : decode b_F_kindInRecord 47 = .ok (.invokevirtual 130, 3) := by decide +kernel
theorem d_F_kindInRecord_50 : decode b_F_kindInRecord 50 = .ok (.iload_n 2, 1) := by decide +kernel
theorem d_F_kindInRecord_51 : decode b_F_kindInRecord 51 = .ok (.invokevirtual 221, 3) := by decide +kernel
theorem d_F_kindInRecord_54 : decode b_F_kindInRecord 54 = .ok (.ireturn, 1) := by decide +kernel
theorem d_F_number_0 : decode b_F_number 0 = .ok (.aload_n 0, 1) := by decide +kernel
theorem d_F_number_1 : decode b_F_number 1 = .ok (.iload_n 1, 1) := by decide +kernel
theorem d_F_number_2 : decode b_F_number 2 = .ok (.iload_n 2, 1) := by decide +kernel
theorem d_F_number_3 : decode b_F_number 3 = .ok (.invokevirtual 96, 3) := by decide +kernel
theorem d_F_number_6 : decode b_F_number 6 = .ok (.istore 5, 2) := by decide +kernel
theorem d_F_number_8 : decode b_F_number 8 = .ok (.iload 5, 2) := by decide +kernel
theorem d_F_number_10 : decode b_F_number 10 = .ok (.iconst 4, 1) := by decide +kernel
theorem d_F_number_11 : decode b_F_number 11 = .ok (.if_icmp .lt 11, 3) := by decide +kernel
theorem d_F_number_14 : decode b_F_number 14 = .ok (.new 100, 3) := by decide +kernel
theorem d_F_number_17 : decode b_F_number 17 = .ok (.dup, 1) := by decide +kernel
theorem d_F_number_18 : decode b_F_number 18 = .ok (.invokespecial 102, 3) := by decide +kernel
theorem d_F_number_21 : decode b_F_number 21 = .ok (.athrow, 1) := by decide +kernel
theorem d_F_number_22 : decode b_F_number 22 = .ok (.iload 5, 2) := by decide +kernel
theorem d_F_number_24 : decode b_F_number 24 = .ok (.lload_n 3, 1) := by decide +kernel
theorem d_F_number_25 : decode b_F_number 25 = .ok (.invokestatic 103, 3) := by decide +kernel
theorem d_F_number_28 : decode b_F_number 28 = .ok (.lstore 6, 2) := by decide +kernel
theorem d_F_number_30 : decode b_F_number 30 = .ok (.aload_n 0, 1) := by decide +kernel
theorem d_F_number_31 : decode b_F_number 31 = .ok (.getfield 19, 3) := by decide +kernel
theorem d_F_number_34 : decode b_F_number 34 = .ok (.iload_n 1, 1) := by decide +kernel
theorem d_F_number_35 : decode b_F_number 35 = .ok (.iload_n 2, 1) := by decide +kernel
theorem d_F_number_36 : decode b_F_number 36 = .ok (.invokestatic 107, 3) := by decide +kernel
theorem d_F_number_39 : decode b_F_number 39 = .ok (.lload 6, 2) := by decide +kernel
theorem d_F_number_41 : decode b_F_number 41 = .ok (.invokevirtual 110, 3) := by decide +kernel
theorem d_F_number_44 : decode b_F_number 44 = .ok (.lload 6, 2) := by decide +kernel
theorem d_F_number_46 : decode b_F_number 46 = .ok (.lreturn, 1) := by decide +kernel
theorem d_F_add_0 : decode b_F_add 0 = .ok (.aload_n 0, 1) := by decide +kernel
theorem d_F_add_1 : decode b_F_add 1 = .ok (.getfield 26, 3) := by decide +kernel
theorem d_F_add_4 : decode b_F_add 4 = .ok (.getfield 114, 3) := by decide +kernel
theorem d_F_add_7 : decode b_F_add 7 = .ok (.bipush 12, 2) := by decide +kernel
theorem d_F_add_9 : decode b_F_add 9 = .ok (.if_icmp .lt 11, 3) := by decide +kernel
theorem d_F_add_12 : decode b_F_add 12 = .ok (.new 81, 3) := by decide +kernel
theorem d_F_add_15 : decode b_F_add 15 = .ok (.dup, 1) := by decide +kernel
theorem d_F_add_16 : decode b_F_add 16 = .ok (.invokespecial 83, 3) := by decide +kernel
theorem d_F_add_19 : decode b_F_add 19 = .ok (.athrow, 1) := by decide +kernel
theorem d_F_add_20 : decode b_F_add 20 = .ok (.aload_n 0, 1) := by decide +kernel
theorem d_F_add_21 : decode b_F_add 21 = .ok (.getfield 26, 3) := by decide +kernel
theorem d_F_add_24 : decode b_F_add 24 = .ok (.iload_n 1, 1) := by decide +kernel
theorem d_F_add_25 : decode b_F_add 25 = .ok (.i2s, 1) := by decide +kernel
theorem d_F_add_26 : decode b_F_add 26 = .ok (.invokevirtual 117, 3) := by decide +kernel
theorem d_F_add_29 : decode b_F_add 29 = .ok (.aload_n 0, 1) := by decide +kernel
theorem d_F_add_30 : decode b_F_add 30 = .ok (.getfield 26, 3) := by decide +kernel
theorem d_F_add_33 : decode b_F_add 33 = .ok (.getfield 114, 3) := by decide +kernel
theorem d_F_add_36 : decode b_F_add 36 = .ok (.ireturn, 1) := by decide +kernel
theorem d_F_fill_0 : decode b_F_fill 0 = .ok (.aload_n 0, 1) := by decide +kernel
theorem d_F_fill_1 : decode b_F_fill 1 = .ok (.iload_n 1, 1) := by decide +kernel
theorem d_F_fill_2 : decode b_F_fill 2 = .ok (.iload_n 2, 1) := by decide +kernel
theorem d_F_fill_3 : decode b_F_fill 3 = .ok (.invokevirtual 96, 3) := by decide +kernel
theorem d_F_fill_6 : decode b_F_fill 6 = .ok (.istore_n 3, 1) := by decide +kernel
theorem d_F_fill_7 : decode b_F_fill 7 = .ok (.iload_n 3, 1) := by decide +kernel
theorem d_F_fill_8 : decode b_F_fill 8 = .ok (.iconst 4, 1) := by decide +kernel
theorem d_F_fill_9 : decode b_F_fill 9 = .ok (.if_icmp .eq 16, 3) := by decide +kernel
theorem d_F_fill_12 : decode b_F_fill 12 = .ok (.iload_n 3, 1) := by decide +kernel
theorem d_F_fill_13 : decode b_F_fill 13 = .ok (.iconst 5, 1) := by decide +kernel
theorem d_F_fill_14 : decode b_F_fill 14 = .ok (.if_icmp .eq 11, 3) := by decide +kernel
theorem d_F_fill_17 : decode b_F_fill 17 = .ok (.new 100, 3) := by decide +kernel
theorem d_F_fill_20 : decode b_F_fill 20 = .ok (.dup, 1) := by decide +kernel
theorem d_F_fill_21 : decode b_F_fill 21 = .ok (.invokespecial 102, 3) := by decide +kernel
theorem d_F_fill_24 : decode b_F_fill 24 = .ok (.athrow, 1) := by decide +kernel
theorem d_F_fill_25 : decode b_F_fill 25 = .ok (.iload_n 3, 1) := by decide +kernel
theorem d_F_fill_26 : decode b_F_fill 26 = .ok (.iconst 5, 1) := by decide +kernel
theorem d_F_fill_27 : decode b_F_fill 27 = .ok (.if_icmp .ne 23, 3) := by decide +kernel
theorem d_F_fill_30 : decode b_F_fill 30 = .ok (.aload_n 0, 1) := by decide +kernel
theorem d_F_fill_31 : decode b_F_fill 31 = .ok (.getfield 26, 3) := by decide +kernel
theorem d_F_fill_34 : decode b_F_fill 34 = .ok (.getfield 114, 3) := by decide +kernel
theorem d_F_fill_37 : decode b_F_fill 37 = .ok (.bipush 8, 2) := by decide +kernel
theorem d_F_fill_39 : decode b_F_fill 39 = .ok (.if_icmp .le 11, 3) := by decide +kernel
theorem d_F_fill_42 : decode b_F_fill 42 = .ok (.new 100, 3) := by decide +kernel
theorem d_F_fill_45 : decode b_F_fill 45 = .ok (.dup, 1) := by decide +kernel
theorem d_F_fill_46 : decode b_F_fill 46 = .ok (.invokespecial 102, 3) := by decide +kernel
theorem d_F_fill_49 : decode b_F_fill 49 = .ok (.athrow, 1) := by decide +kernel
theorem d_F_fill_50 : decode b_F_fill 50 = .ok (.aload_n 0, 1) := by decide +kernel
theorem d_F_fill_51 : decode b_F_fill 51 = .ok (.getfield 26, 3) := by decide +kernel
theorem d_F_fill_54 : decode b_F_fill 54 = .ok (.getfield 114, 3) := by decide +kernel
theorem d_F_fill_57 : decode b_F_fill 57 = .ok (.istore 4, 2) := by decide +kernel
theorem d_F_fill_59 : decode b_F_fill 59 = .ok (.aload_n 0, 1) := by decide +kernel
theorem d_F_fill_60 : decode b_F_fill 60 = .ok (.getfield 19, 3) := by decide +kernel
theorem d_F_fill_63 : decode b_F_fill 63 = .ok (.iload_n 1, 1) := by decide +kernel
theorem d_F_fill_64 : decode b_F_fill 64 = .ok (.iload_n 2, 1) := by decide +kernel
theorem d_F_fill_65 : decode b_F_fill 65 = .ok (.invokestatic 107, 3) := by decide +kernel
theorem d_F_fill_68 : decode b_F_fill 68 = .ok (.aload_n 0, 1) := by decide +kernel
theorem d_F_fill_69 : decode b_F_fill 69 = .ok (.getfield 26, 3) := by decide +kernel
theorem d_F_fill_72 : decode b_F_fill 72 = .ok (.iload_n 3, 1) := by decide +kernel
theorem d_F_fill_73 : decode b_F_fill 73 = .ok (.iconst 4, 1) := by decide +kernel
theorem d_F_fill_74 : decode b_F_fill 74 = .ok (.if_icmp .ne 8, 3) := by decide +kernel
theorem d_F_fill_77 : decode b_F_fill 77 = .ok (.bipush 127, 2) := by decide +kernel
theorem d_F_fill_79 : decode b_F_fill 79 = .ok (.goto 4, 3) := by decide +kernel
theorem d_F_fill_82 : decode b_F_fill 82 = .ok (.iconst (-1), 1) := by decide +kernel
theorem d_F_fill_83 : decode b_F_fill 83 = .ok (.invokevirtual 120, 3) := by decide +kernel
theorem d_F_fill_86 : decode b_F_fill 86 = .ok (.aload_n 0, 1) := by decide +kernel
theorem d_F_fill_87 : decode b_F_fill 87 = .ok (.getfield 26, 3) := by decide +kernel
theorem d_F_fill_90 : decode b_F_fill 90 = .ok (.iconst 0, 1) := by decide +kernel
theorem d_F_fill_91 : decode b_F_fill 91 = .ok (.putfield 114, 3) := by decide +kernel
theorem d_F_fill_94 : decode b_F_fill 94 = .ok (.iload 4, 2) := by decide +kernel
theorem d_F_fill_96 : decode b_F_fill 96 = .ok (.ireturn, 1) := by decide +kernel
theorem d_F_link_0 : decode b_F_link 0 = .ok (.aload_n 0, 1) := by decide +kernel
theorem d_F_link_1 : decode b_F_link 1 = .ok (.iload_n 1, 1) := by decide +kernel
theorem d_F_link_2 : decode b_F_link 2 = .ok (.iload_n 2, 1) := by decide +kernel
theorem d_F_link_3 : decode b_F_link 3 = .ok (.invokevirtual 96, 3) := by decide +kernel
theorem d_F_link_6 : decode b_F_link 6 = .ok (.istore 4, 2) := by decide +kernel
theorem d_F_link_8 : decode b_F_link 8 = .ok (.aload_n 0, 1) := by decide +kernel
theorem d_F_link_9 : decode b_F_link 9 = .ok (.getfield 19, 3) := by decide +kernel
theorem d_F_link_12 : decode b_F_link 12 = .ok (.iload_n 3, 1) := by decide +kernel
theorem d_F_link_13 : decode b_F_link 13 = .ok (.invokevirtual 124, 3) := by decide +kernel
theorem d_F_link_16 : decode b_F_link 16 = .ok (.ifCond .ne 11, 3) := by decide +kernel
theorem d_F_link_19 : decode b_F_link 19 = .ok (.new 127, 3) := by decide +kernel
theorem d_F_link_22 : decode b_F_link 22 = .ok (.dup, 1) := by decide +kernel
theorem d_F_link_23 : decode b_F_link 23 = .ok (.invokespecial 129, 3) := by decide +kernel
theorem d_F_link_26 : decode b_F_link 26 = .ok (.athrow, 1) := by decide +kernel
theorem d_F_link_27 : decode b_F_link 27 = .ok (.iload 4, 2) := by decide +kernel
theorem d_F_link_29 : decode b_F_link 29 = .ok (.bipush 6, 2) := by decide +kernel
theorem d_F_link_31 : decode b_F_link 31 = .ok (.if_icmp .ne 8, 3) := by decide +kernel
theorem d_F_link_34 : decode b_F_link 34 = .ok (.iload_n 3, 1) := by decide +kernel
theorem d_F_link_35 : decode b_F_link 35 = .ok (.iload_n 1, 1) := by decide +kernel
theorem d_F_link_36 : decode b_F_link 36 = .ok (.if_icmp .lt 11, 3) := by decide +kernel
theorem d_F_link_39 : decode b_F_link 39 = .ok (.new 100, 3) := by decide +kernel
theorem d_F_link_42 : decode b_F_link 42 = .ok (.dup, 1) := by decide +kernel
theorem d_F_link_43 : decode b_F_link 43 = .ok (.invokespecial 102, 3) := by decide +kernel
theorem d_F_link_46 : decode b_F_link 46 = .ok (.athrow, 1) := by decide +kernel
theorem d_F_link_47 : decode b_F_link 47 = .ok (.aload_n 0, 1) := by decide +kernel
theorem d_F_link_48 : decode b_F_link 48 = .ok (.getfield 19, 3) := by decide +kernel
theorem d_F_link_51 : decode b_F_link 51 = .ok (.iload_n 3, 1) := by decide +kernel
theorem d_F_link_52 : decode b_F_link 52 = .ok (.invokevirtual 130, 3) := by decide +kernel
theorem d_F_link_55 : decode b_F_link 55 = .ok (.aload_n 0, 1) := by decide +kernel
theorem d_F_link_56 : decode b_F_link 56 = .ok (.getfield 12, 3) := by decide +kernel
theorem d_F_link_59 : decode b_F_link 59 = .ok (.aload_n 0, 1) := by decide +kernel
theorem d_F_link_60 : decode b_F_link 60 = .ok (.getfield 19, 3) := by decide +kernel
theorem d_F_link_63 : decode b_F_link 63 = .ok (.iload_n 1, 1) := by decide +kernel
theorem d_F_link_64 : decode b_F_link 64 = .ok (.invokevirtual 130, 3) := by decide +kernel
theorem d_F_link_67 : decode b_F_link 67 = .ok (.iload_n 2, 1) := by decide +kernel
theorem d_F_link_68 : decode b_F_link 68 = .ok (.invokevirtual 133, 3) := by decide +kernel
theorem d_F_link_71 : decode b_F_link 71 = .ok (.if_icmp .eq 11, 3) := by decide +kernel
theorem d_F_link_74 : decode b_F_link 74 = .ok (.new 100, 3) := by decide +kernel
theorem d_F_link_77 : decode b_F_link 77 = .ok (.dup, 1) := by decide +kernel
theorem d_F_link_78 : decode b_F_link 78 = .ok (.invokespecial 102, 3) := by decide +kernel
theorem d_F_link_81 : decode b_F_link 81 = .ok (.athrow, 1) := by decide +kernel
theorem d_F_link_82 : decode b_F_link 82 = .ok (.aload_n 0, 1) := by decide +kernel
theorem d_F_link_83 : decode b_F_link 83 = .ok (.getfield 19, 3) := by decide +kernel
theorem d_F_link_86 : decode b_F_link 86 = .ok (.iload_n 1, 1) := by decide +kernel
theorem d_F_link_87 : decode b_F_link 87 = .ok (.iload_n 2, 1) := by decide +kernel
theorem d_F_link_88 : decode b_F_link 88 = .ok (.invokestatic 107, 3) := by decide +kernel
theorem d_F_link_91 : decode b_F_link 91 = .ok (.iload_n 3, 1) := by decide +kernel
theorem d_F_link_92 : decode b_F_link 92 = .ok (.invokevirtual 136, 3) := by decide +kernel
theorem d_F_link_95 : decode b_F_link 95 = .ok (.iconst 1, 1) := by decide +kernel
theorem d_F_link_96 : decode b_F_link 96 = .ok (.ireturn, 1) := by decide +kernel
theorem d_F_unset_0 : decode b_F_unset 0 = .ok (.aload_n 0, 1) := by decide +kernel
theorem d_F_unset_1 : decode b_F_unset 1 = .ok (.iload_n 1, 1) := by decide +kernel
theorem d_F_unset_2 : decode b_F_unset 2 = .ok (.iload_n 2, 1) := by decide +kernel
theorem d_F_unset_3 : decode b_F_unset 3 = .ok (.invokevirtual 96, 3) := by decide +kernel
theorem d_F_unset_6 : decode b_F_unset 6 = .ok (.pop, 1) := by decide +kernel
theorem d_F_unset_7 : decode b_F_unset 7 = .ok (.aload_n 0, 1) := by decide +kernel
theorem d_F_unset_8 : decode b_F_unset 8 = .ok (.getfield 19, 3) := by decide +kernel
theorem d_F_unset_11 : decode b_F_unset 11 = .ok (.iload_n 1, 1) := by decide +kernel
theorem d_F_unset_12 : decode b_F_unset 12 = .ok (.iload_n 2, 1) := by decide +kernel
theorem d_F_unset_13 : decode b_F_unset 13 = .ok (.invokestatic 107, 3) := by decide +kernel
theorem d_F_unset_16 : decode b_F_unset 16 = .ok (.invokevirtual 140, 3) := by decide +kernel
theorem d_F_unset_19 : decode b_F_unset 19 = .ok (.ifCond .eq 7, 3) := by decide +kernel
theorem d_F_unset_22 : decode b_F_unset 22 = .ok (.iconst 1, 1) := by decide +kernel
theorem d_F_unset_23 : decode b_F_unset 23 = .ok (.goto 4, 3) := by decide +kernel
theorem d_F_unset_26 : decode b_F_unset 26 = .ok (.iconst 0, 1) := by decide +kernel
theorem d_F_unset_27 : decode b_F_unset 27 = .ok (.ireturn, 1) := by decide +kernel
theorem d_F_at_0 : decode b_F_at 0 = .ok (.aload_n 0, 1) := by decide +kernel
theorem d_F_at_1 : decode b_F_at 1 = .ok (.getfield 33, 3) := by decide +kernel
theorem d_F_at_4 : decode b_F_at 4 = .ok (.iload_n 1, 1) := by decide +kernel
theorem d_F_at_5 : decode b_F_at 5 = .ok (.invokevirtual 166, 3) := by decide +kernel
theorem d_F_at_8 : decode b_F_at 8 = .ok (.ifCond .ne 11, 3) := by decide +kernel
theorem d_F_at_11 : decode b_F_at 11 = .ok (.new 149, 3) := by decide +kernel
theorem d_F_at_14 : decode b_F_at 14 = .ok (.dup, 1) := by decide +kernel
theorem d_F_at_15 : decode b_F_at 15 = .ok (.invokespecial 151, 3) := by decide +kernel
theorem d_F_at_18 : decode b_F_at 18 = .ok (.athrow, 1) := by decide +kernel
theorem d_F_at_19 : decode b_F_at 19 = .ok (.aload_n 0, 1) := by decide +kernel
theorem d_F_at_20 : decode b_F_at 20 = .ok (.getfield 33, 3) := by decide +kernel
theorem d_F_at_23 : decode b_F_at 23 = .ok (.iload_n 1, 1) := by decide +kernel
theorem d_F_at_24 : decode b_F_at 24 = .ok (.invokevirtual 167, 3) := by decide +kernel
theorem d_F_at_27 : decode b_F_at 27 = .ok (.ireturn, 1) := by decide +kernel
theorem d_F_patch_0 : decode b_F_patch 0 = .ok (.aload_n 0, 1) := by decide +kernel
theorem d_F_patch_1 : decode b_F_patch 1 = .ok (.getfield 33, 3) := by decide +kernel
theorem d_F_patch_4 : decode b_F_patch 4 = .ok (.iload_n 1, 1) := by decide +kernel
theorem d_F_patch_5 : decode b_F_patch 5 = .ok (.invokevirtual 166, 3) := by decide +kernel
theorem d_F_patch_8 : decode b_F_patch 8 = .ok (.ifCond .ne 11, 3) := by decide +kernel
theorem d_F_patch_11 : decode b_F_patch 11 = .ok (.new 149, 3) := by decide +kernel
theorem d_F_patch_14 : decode b_F_patch 14 = .ok (.dup, 1) := by decide +kernel
theorem d_F_patch_15 : decode b_F_patch 15 = .ok (.invokespecial 151, 3) := by decide +kernel
theorem d_F_patch_18 : decode b_F_patch 18 = .ok (.athrow, 1) := by decide +kernel
theorem d_F_patch_19 : decode b_F_patch 19 = .ok (.aload_n 0, 1) := by decide +kernel
theorem d_F_patch_20 : decode b_F_patch 20 = .ok (.getfield 58, 3) := by decide +kernel
theorem d_F_patch_23 : decode b_F_patch 23 = .ok (.invokevirtual 84, 3) := by decide +kernel
theorem d_F_patch_26 : decode b_F_patch 26 = .ok (.aload_n 0, 1) := by decide +kernel
theorem d_F_patch_27 : decode b_F_patch 27 = .ok (.getfield 33, 3) := by decide +kernel
theorem d_F_patch_30 : decode b_F_patch 30 = .ok (.iload_n 1, 1) := by decide +kernel
theorem d_F_patch_31 : decode b_F_patch 31 = .ok (.invokevirtual 167, 3) := by decide +kernel
theorem d_F_patch_34 : decode b_F_patch 34 = .ok (.istore_n 3, 1) := by decide +kernel
theorem d_F_patch_35 : decode b_F_patch 35 = .ok (.aload_n 0, 1) := by decide +kernel
theorem d_F_patch_36 : decode b_F_patch 36 = .ok (.getfield 33, 3) := by decide +kernel
theorem d_F_patch_39 : decode b_F_patch 39 = .ok (.iload_n 1, 1) := by decide +kernel
theorem d_F_patch_40 : decode b_F_patch 40 = .ok (.iload_n 2, 1) := by decide +kernel
theorem d_F_patch_41 : decode b_F_patch 41 = .ok (.invokevirtual 170, 3) := by decide +kernel
theorem d_F_patch_44 : decode b_F_patch 44 = .ok (.iload_n 3, 1) := by decide +kernel
theorem d_F_patch_45 : decode b_F_patch 45 = .ok (.ireturn, 1) := by decide +kernel
theorem d_F_cut_0 : decode b_F_cut 0 = .ok (.iload_n 1, 1) := by decide +kernel
theorem d_F_cut_1 : decode b_F_cut 1 = .ok (.ifCond .lt 14, 3) := by decide +kernel
theorem d_F_cut_4 : decode b_F_cut 4 = .ok (.iload_n 1, 1) := by decide +kernel
theorem d_F_cut_5 : decode b_F_cut 5 = .ok (.aload_n 0, 1) := by decide +kernel
theorem d_F_cut_6 : decode b_F_cut 6 = .ok (.getfield 33, 3) := by decide +kernel
theorem d_F_cut_9 : decode b_F_cut 9 = .ok (.getfield 163, 3) := by decide +kernel
theorem d_F_cut_12 : decode b_F_cut 12 = .ok (.if_icmp .le 11, 3) := by decide +kernel
theorem d_F_cut_15 : decode b_F_cut 15 = .ok (.new 149, 3) := by decide +kernel
theorem d_F_cut_18 : decode b_F_cut 18 = .ok (.dup, 1) := by decide +kernel
theorem d_F_cut_19 : decode b_F_cut 19 = .ok (.invokespecial 151, 3) := by decide +kernel
theorem d_F_cut_22 : decode b_F_cut 22 = .ok (.athrow, 1) := by decide +kernel
theorem d_F_cut_23 : decode b_F_cut 23 = .ok (.aload_n 0, 1) := by decide +kernel
theorem d_F_cut_24 : decode b_F_cut 24 = .ok (.getfield 58, 3) := by decide +kernel
theorem d_F_cut_27 : decode b_F_cut 27 = .ok (.invokevirtual 84, 3) := by decide +kernel
theorem d_F_cut_30 : decode b_F_cut 30 = .ok (.aload_n 0, 1) := by decide +kernel
theorem d_F_cut_31 : decode b_F_cut 31 = .ok (.getfield 33, 3) := by decide +kernel
theorem d_F_cut_34 : decode b_F_cut 34 = .ok (.getfield 163, 3) := by decide +kernel
theorem d_F_cut_37 : decode b_F_cut 37 = .ok (.iload_n 1, 1) := by decide +kernel
theorem d_F_cut_38 : decode b_F_cut 38 = .ok (.isub, 1) := by decide +kernel
theorem d_F_cut_39 : decode b_F_cut 39 = .ok (.istore_n 2, 1) := by decide +kernel
theorem d_F_cut_40 : decode b_F_cut 40 = .ok (.aload_n 0, 1) := by decide +kernel
theorem d_F_cut_41 : decode b_F_cut 41 = .ok (.getfield 33, 3) := by decide +kernel
theorem d_F_cut_44 : decode b_F_cut 44 = .ok (.iload_n 1, 1) := by decide +kernel
theorem d_F_cut_45 : decode b_F_cut 45 = .ok (.putfield 163, 3) := by decide +kernel
theorem d_F_cut_48 : decode b_F_cut 48 = .ok (.iload_n 2, 1) := by decide +kernel
theorem d_F_cut_49 : decode b_F_cut 49 = .ok (.ireturn, 1) := by decide +kernel
theorem d_F_fault_0 : decode b_F_fault 0 = .ok (.aload_n 0, 1) := by decide +kernel
theorem d_F_fault_1 : decode b_F_fault 1 = .ok (.getfield 62, 3) := by decide +kernel
theorem d_F_fault_4 : decode b_F_fault 4 = .ok (.ireturn, 1) := by decide +kernel
theorem d_F_top_0 : decode b_F_top 0 = .ok (.aload_n 0, 1) := by decide +kernel
theorem d_F_top_1 : decode b_F_top 1 = .ok (.getfield 58, 3) := by decide +kernel
theorem d_F_top_4 : decode b_F_top 4 = .ok (.getfield 185, 3) := by decide +kernel
theorem d_F_top_7 : decode b_F_top 7 = .ok (.ifCond .ne 11, 3) := by decide +kernel
theorem d_F_top_10 : decode b_F_top 10 = .ok (.new 81, 3) := by decide +kernel
theorem d_F_top_13 : decode b_F_top 13 = .ok (.dup, 1) := by decide +kernel
theorem d_F_top_14 : decode b_F_top 14 = .ok (.invokespecial 83, 3) := by decide +kernel
theorem d_F_top_17 : decode b_F_top 17 = .ok (.athrow, 1) := by decide +kernel
theorem d_F_top_18 : decode b_F_top 18 = .ok (.aload_n 0, 1) := by decide +kernel
theorem d_F_top_19 : decode b_F_top 19 = .ok (.getfield 58, 3) := by decide +kernel
theorem d_F_top_22 : decode b_F_top 22 = .ok (.invokevirtual 189, 3) := by decide +kernel
theorem d_F_top_25 : decode b_F_top 25 = .ok (.iconst 1, 1) := by decide +kernel
theorem d_F_top_26 : decode b_F_top 26 = .ok (.ireturn, 1) := by decide +kernel
theorem d_F_count_0 : decode b_F_count 0 = .ok (.iload_n 1, 1) := by decide +kernel
theorem d_F_count_1 : decode b_F_count 1 = .ok (.tableswitch 109 0 5 #[39, 47, 55, 63, 71, 87], 39) := by decide +kernel
theorem d_F_count_40 : decode b_F_count 40 = .ok (.aload_n 0, 1) := by decide +kernel
theorem d_F_count_41 : decode b_F_count 41 = .ok (.getfield 33, 3) := by decide +kernel
theorem d_F_count_44 : decode b_F_count 44 = .ok (.getfield 163, 3) := by decide +kernel
theorem d_F_count_47 : decode b_F_count 47 = .ok (.ireturn, 1) := by decide +kernel
theorem d_F_count_48 : decode b_F_count 48 = .ok (.aload_n 0, 1) := by decide +kernel
theorem d_F_count_49 : decode b_F_count 49 = .ok (.getfield 19, 3) := by decide +kernel
theorem d_F_count_52 : decode b_F_count 52 = .ok (.getfield 91, 3) := by decide +kernel
theorem d_F_count_55 : decode b_F_count 55 = .ok (.ireturn, 1) := by decide +kernel
theorem d_F_count_56 : decode b_F_count 56 = .ok (.aload_n 0, 1) := by decide +kernel
theorem d_F_count_57 : decode b_F_count 57 = .ok (.getfield 12, 3) := by decide +kernel
theorem d_F_count_60 : decode b_F_count 60 = .ok (.invokevirtual 224, 3) := by decide +kernel
theorem d_F_count_63 : decode b_F_count 63 = .ok (.ireturn, 1) := by decide +kernel
theorem d_F_count_64 : decode b_F_count 64 = .ok (.aload_n 0, 1) := by decide +kernel
theorem d_F_count_65 : decode b_F_count 65 = .ok (.getfield 26, 3) := by decide +kernel
theorem d_F_count_68 : decode b_F_count 68 = .ok (.getfield 114, 3) := by decide +kernel
theorem d_F_count_71 : decode b_F_count 71 = .ok (.ireturn, 1) := by decide +kernel
theorem d_F_count_72 : decode b_F_count 72 = .ok (.aload_n 0, 1) := by decide +kernel
theorem d_F_count_73 : decode b_F_count 73 = .ok (.getfield 58, 3) := by decide +kernel
theorem d_F_count_76 : decode b_F_count 76 = .ok (.getfield 185, 3) := by decide +kernel
theorem d_F_count_79 : decode b_F_count 79 = .ok (.ifCond .eq 7, 3) := by decide +kernel
theorem d_F_count_82 : decode b_F_count 82 = .ok (.iconst 1, 1) := by decide +kernel
theorem d_F_count_83 : decode b_F_count 83 = .ok (.goto 4, 3) := by decide +kernel
theorem d_F_count_86 : decode b_F_count 86 = .ok (.iconst 0, 1) := by decide +kernel
theorem d_F_count_87 : decode b_F_count 87 = .ok (.ireturn, 1) := by decide +kernel
theorem d_F_count_88 : decode b_F_count 88 = .ok (.aload_n 0, 1) := by decide +kernel
theorem d_F_count_89 : decode b_F_count 89 = .ok (.getfield 58, 3) := by decide +kernel
theorem d_F_count_92 : decode b_F_count 92 = .ok (.getfield 185, 3) := by decide +kernel
theorem d_F_count_95 : decode b_F_count 95 = .ok (.ifCond .eq 13, 3) := by decide +kernel
theorem d_F_count_98 : decode b_F_count 98 = .ok (.aload_n 0, 1) := by decide +kernel
theorem d_F_count_99 : decode b_F_count 99 = .ok (.getfield 58, 3) := by decide +kernel
theorem d_F_count_102 : decode b_F_count 102 = .ok (.getfield 204, 3) := by decide +kernel
theorem d_F_count_105 : decode b_F_count 105 = .ok (.goto 4, 3) := by decide +kernel
theorem d_F_count_108 : decode b_F_count 108 = .ok (.iconst (-1), 1) := by decide +kernel
theorem d_F_count_109 : decode b_F_count 109 = .ok (.ireturn, 1) := by decide +kernel
theorem d_F_count_110 : decode b_F_count 110 = .ok (.new 74, 3) := by decide +kernel
theorem d_F_count_113 : decode b_F_count 113 = .ok (.dup, 1) := by decide +kernel
theorem d_F_count_114 : decode b_F_count 114 = .ok (.invokespecial 76, 3) := by decide +kernel
theorem d_F_count_117 : decode b_F_count 117 = .ok (.athrow, 1) := by decide +kernel
theorem m_F_suits : kIS y_F_suits b_F_suits 2 (some .boolean) 2 := ⟨⟨wd_58c0e34d, wd_c1885a87, ⟨by decide, by decide⟩, by decide +kernel⟩, wd_00a71ae3⟩
theorem m_F_field : kIV y_F_field b_F_field 5 (some .int) 4 := ⟨⟨wd_816fac69, wd_c1885a87, ⟨by decide, by decide⟩, by decide +kernel⟩, wd_7f70ac11, wd_8d476144⟩
theorem m_F_make : kIV y_F_make b_F_make 2 (some .int) 1 := ⟨⟨wd_c2ee9d25, wd_c1885a87, ⟨by decide, by decide⟩, by decide +kernel⟩, wd_f85e788f, wd_5adccab3⟩
theorem m_F_kindInRecord : kIV y_F_kindInRecord b_F_kindInRecord 3 (some .int) 2 := ⟨⟨wd_aa0fd909, wd_c1885a87, ⟨by decide, by decide⟩, by decide +kernel⟩, wd_c7dbdfea, wd_1f1f7e0d⟩
theorem m_F_number : kIV y_F_number b_F_number 8 (some .long) 3 := ⟨⟨wd_899fa7ff, wd_c1885a87, ⟨by decide, by decide⟩, by decide +kernel⟩, wd_c947dfcd, wd_a482a27f⟩
theorem m_F_add : kIV y_F_add b_F_add 2 (some .int) 1 := ⟨⟨wd_048f2933, wd_c1885a87, ⟨by decide, by decide⟩, by decide +kernel⟩, wd_757db387, wd_93230b24⟩
theorem m_F_fill : kIV y_F_fill b_F_fill 5 (some .int) 2 := ⟨⟨wd_6baeaeee, wd_c1885a87, ⟨by decide, by decide⟩, by decide +kernel⟩, wd_36512f2d, wd_3b3846e7⟩
theorem m_F_link : kIV y_F_link b_F_link 5 (some .int) 3 := ⟨⟨wd_5ccefc0f, wd_c1885a87, ⟨by decide, by decide⟩, by decide +kernel⟩, wd_23fddc55, wd_ef7e2619⟩
theorem m_F_unset : kIV y_F_unset b_F_unset 3 (some .int) 2 := ⟨⟨wd_85916caa, wd_c1885a87, ⟨by decide, by decide⟩, by decide +kernel⟩, wd_1a632512, wd_98cd2f31⟩
theorem m_F_at : kIV y_F_at b_F_at 2 (some .int) 1 := ⟨⟨wd_26ffcfe9, wd_c1885a87, ⟨by decide, by decide⟩, by decide +kernel⟩, wd_530ec234, wd_9a09ed1a⟩
theorem m_F_patch : kIV y_F_patch b_F_patch 4 (some .int) 2 := ⟨⟨wd_a437fb75, wd_c1885a87, ⟨by decide, by decide⟩, by decide +kernel⟩, wd_b8871b6c, wd_76f7f6e5⟩
theorem m_F_cut : kIV y_F_cut b_F_cut 3 (some .int) 1 := ⟨⟨wd_ab63537c, wd_c1885a87, ⟨by decide, by decide⟩, by decide +kernel⟩, wd_78c80222, wd_695740be⟩
theorem m_F_fault : kIV y_F_fault b_F_fault 1 (some .int) 0 := ⟨⟨wd_17663a26, wd_c1885a87, ⟨by decide, by decide⟩, by decide +kernel⟩, wd_80a1f6fc, wd_48cf7535⟩
theorem m_F_top : kIV y_F_top b_F_top 1 (some .int) 0 := ⟨⟨wd_b48877b4, wd_c1885a87, ⟨by decide, by decide⟩, by decide +kernel⟩, wd_158978ae, wd_0cd1a055⟩
theorem m_F_count : kIV y_F_count b_F_count 2 (some .int) 1 := ⟨⟨wd_83f1b9ab, wd_c1885a87, ⟨by decide, by decide⟩, by decide +kernel⟩, wd_f55e5e10, wd_7bcd61ed⟩
set_option maxHeartbeats 4000000 in
set_option maxRecDepth 100000 in
theorem c_suits (l : Launch) (D : va_G) (a : Nat → Nat) (g : Nat → ClassId) (tw : Nat) (sLen sKind : Nat → Nat) (sExt : Nat → Int32) (sMust : Nat → Bool) (rTab : Nat → Nat) (rFil : Nat → Bool) (rNum : Nat → Int64) (rLnk rLen : Nat → Nat) (rItm : Nat → Int32) (made : Nat) (pItm : Nat → Int32) (held : Nat) (dByt : Nat → Nat) (dLen : Nat) (bByt : Nat → Nat) (bRea : Nat → Bool) (bRec bItm bFld bOff bOfp : Nat → Nat) (kept wrt wid ent : Nat) (ver : Bool) (fAdr fTab adr tab : Nat) (lf : Int32) (k : Nat) (x : Int32)  (hk : k < 7) : kM l y_F_suits b_F_suits 2 (some .boolean) ({ frames := 1, cells := 0, slots := 0, locals := 22 }) D vwCl (WdT g) tw [.int (nI k), .int x] (Wd a g sLen sKind sExt sMust rTab rFil rNum rLnk rLen rItm made pItm held dByt dLen bByt bRea bRec bItm bFld bOff bOfp kept wrt wid ent ver fAdr fTab adr tab lf) (some (.int (bI (suT k x)))) (Wd a g sLen sKind sExt sMust rTab rFil rNum rLnk rLen rItm made pItm held dByt dLen bByt bRea bRec bItm bFld bOff bOfp kept wrt wid ent ver fAdr fTab adr tab lf) := by
  refine k_of (by decide) (Nat.le_of_ble_eq_true rfl) ?_
  intro p e s m below meth c A ls hx hb hr hlocks hml hts hown hin0 hA hP hK hD hS hZ hl
  have hl : lv_has ls 2 [(0, .int (nI k)), (1, .int x)] := hl
  refine lv_iload_n hx hb d_F_suits_0 rfl (lv_at hl 0 rfl) ?_
  refine lv_bipush (v := nI 6) hx hb d_F_suits_1 (by decide) ?_
  refine lv_icmp_ne (tgt := 11) hx hb d_F_suits_3 (by decide) (fun c_3 => ?_) (fun c_3 => ?_)
  · skip
    have c_3 := mt (nI_eq (by omega) (by omega)).mpr c_3
    refine lv_iload_n hx hb d_F_suits_11 rfl (lv_at hl 0 rfl) ?_
    refine lv_iconst (v := nI 4) hx hb d_F_suits_12 (by decide) ?_
    refine lv_icmp_ge (tgt := 28) hx hb d_F_suits_13 (by decide) (fun c_13 => ?_) (fun c_13 => ?_)
    · skip
      have c_13 := (nI_leI (by omega) (by omega)).mp c_13
      refine lv_iconst (v := nI 1) hx hb d_F_suits_28 (by decide) ?_
      refine lv_goto (tgt := 33) hx hb d_F_suits_29 (by decide) ?_
      exact k_zret hx hb hr hlocks hK hP hD hS (trivial) (by rw [nI_bI1]; congr 1; simp [suT, c_3, c_13]) (rfl) (bI_nar _) d_F_suits_33
    · skip
      have c_13 := mt (nI_leI (by omega) (by omega)).mpr c_13
      refine lv_iload_n hx hb d_F_suits_16 rfl (lv_at hl 0 rfl) ?_
      refine lv_iload_n hx hb d_F_suits_17 rfl (lv_at hl 1 rfl) ?_
      refine lv_i2l hx hb d_F_suits_18 rfl ?_
      refine k_callS (c_brought l D a g tw sLen sKind sExt sMust rTab rFil rNum rLnk rLen rItm made pItm held dByt dLen bByt bRea bRec bItm bFld bOff bOfp kept wrt wid ent ver fAdr fTab adr tab lf k x.toInt64  (by omega)) m_F_broughtIntoRange wd_2e172b3e kT hx hb hml hown hts ⟨Nat.le_of_ble_eq_true rfl, Nat.le_of_ble_eq_true rfl⟩ ⟨Nat.le_of_ble_eq_true rfl, Nat.le_of_ble_eq_true rfl⟩ hK hP hD hS hA hZ hl.1 rfl rfl (Nat.le_of_ble_eq_true rfl) d_F_suits_19 (fun H locs hP hD hS => ?_)
      have hP : va_P D vwCl (Wd a g sLen sKind sExt sMust rTab rFil rNum rLnk rLen rItm made pItm held dByt dLen bByt bRea bRec bItm bFld bOff bOfp kept wrt wid ent ver fAdr fTab adr tab lf) H := hP
      have hD : va_D A (Wd a g sLen sKind sExt sMust rTab rFil rNum rLnk rLen rItm made pItm held dByt dLen bByt bRea bRec bItm bFld bOff bOfp kept wrt wid ent ver fAdr fTab adr tab lf) := hD
      refine W.eq (g2 := F0 m 22 ls [.long (brI k x.toInt64)]) rfl ?_
      refine lv_iload_n hx hb d_F_suits_22 rfl (lv_at hl 1 rfl) ?_
      refine lv_i2l hx hb d_F_suits_23 rfl ?_
      refine W.lcmp hx hb d_F_suits_24 ?_
      refine lv_if_ne (tgt := 32) hx hb d_F_suits_25 (by decide) (fun c_25 => ?_) (fun c_25 => ?_)
      · skip
        have c_25 := mt (lg_cmp_eq _ _).mpr c_25
        refine lv_iconst (v := nI 0) hx hb d_F_suits_32 (by decide) ?_
        exact k_zret hx hb hr hlocks hK hP hD hS (trivial) (by rw [nI_bI0]; congr 1; simp [suT, c_3, c_13, c_25]) (rfl) (bI_nar _) d_F_suits_33
      · skip
        have c_25 := (lg_cmp_eq _ _).mp c_25
        refine lv_iconst (v := nI 1) hx hb d_F_suits_28 (by decide) ?_
        refine lv_goto (tgt := 33) hx hb d_F_suits_29 (by decide) ?_
        exact k_zret hx hb hr hlocks hK hP hD hS (trivial) (by rw [nI_bI1]; congr 1; simp [suT, c_3, c_13, c_25]) (rfl) (bI_nar _) d_F_suits_33
  · skip
    have c_3 := (nI_eq (by omega) (by omega)).mp c_3
    refine lv_iload_n hx hb d_F_suits_6 rfl (lv_at hl 1 rfl) ?_
    refine k_callS (c_isTable l D a g tw sLen sKind sExt sMust rTab rFil rNum rLnk rLen rItm made pItm held dByt dLen bByt bRea bRec bItm bFld bOff bOfp kept wrt wid ent ver fAdr fTab adr tab lf x  ) m_F_isTable wd_c78461cc kT hx hb hml hown hts ⟨Nat.le_of_ble_eq_true rfl, Nat.le_of_ble_eq_true rfl⟩ ⟨Nat.le_of_ble_eq_true rfl, Nat.le_of_ble_eq_true rfl⟩ hK hP hD hS hA hZ hl.1 rfl rfl (Nat.le_of_ble_eq_true rfl) d_F_suits_7 (fun H locs hP hD hS => ?_)
    have hP : va_P D vwCl (Wd a g sLen sKind sExt sMust rTab rFil rNum rLnk rLen rItm made pItm held dByt dLen bByt bRea bRec bItm bFld bOff bOfp kept wrt wid ent ver fAdr fTab adr tab lf) H := hP
    have hD : va_D A (Wd a g sLen sKind sExt sMust rTab rFil rNum rLnk rLen rItm made pItm held dByt dLen bByt bRea bRec bItm bFld bOff bOfp kept wrt wid ent ver fAdr fTab adr tab lf) := hD
    refine W.eq (g2 := F0 m 10 ls [.int (bI (okT x))]) rfl ?_
    exact k_zret hx hb hr hlocks hK hP hD hS (trivial) (by congr 1; simp [suT, c_3]) (rfl) (bI_nar _) d_F_suits_10
set_option maxHeartbeats 4000000 in
set_option maxRecDepth 100000 in
theorem c_field (l : Launch) (hl0 : l.stackTraces = false) (D : va_G) (a : Nat → Nat) (g : Nat → ClassId) (tw : Nat) (sLen sKind : Nat → Nat) (sExt : Nat → Int32) (sMust : Nat → Bool) (rTab : Nat → Nat) (rFil : Nat → Bool) (rNum : Nat → Int64) (rLnk rLen : Nat → Nat) (rItm : Nat → Int32) (made : Nat) (pItm : Nat → Int32) (held : Nat) (dByt : Nat → Nat) (dLen : Nat) (bByt : Nat → Nat) (bRea : Nat → Bool) (bRec bItm bFld bOff bOfp : Nat → Nat) (kept wrt wid ent : Nat) (ver : Bool) (fAdr fTab adr tab : Nat) (lf : Int32) (t : Int32) (k : Int32) (x : Int32) (b : Bool)  (hL : ∀ t, t < 4 → sLen t ≤ 6) : kMX l y_F_field b_F_field 5 (some .int) ({ frames := 6, cells := 1, slots := 6, locals := 89 }) D vwCl (WdT g) tw [.ref (a 0), .int t, .int k, .int x, .int (bI b)] (Wd a g sLen sKind sExt sMust rTab rFil rNum rLnk rLen rItm made pItm held dByt dLen bByt bRea bRec bItm bFld bOff bOfp kept wrt wid ent ver fAdr fTab adr tab lf) (cdField sLen t k x b = 0) (some (.int (nI (sLen (cN t))))) (Wd a g (va_up sLen (cN t) (sLen (cN t) + 1)) (va_up sKind (cN t * 6 + sLen (cN t)) (cN k)) (upd sExt (cN t * 6 + sLen (cN t)) x) (va_up sMust (cN t * 6 + sLen (cN t)) b) rTab rFil rNum rLnk rLen rItm made pItm held dByt dLen bByt bRea bRec bItm bFld bOff bOfp kept wrt wid ent false fAdr fTab adr tab lf) (fun E => (E = xIA ∧ cdField sLen t k x b = 1) ∨ (E = xIS ∧ cdField sLen t k x b = 2)) (Wd a g sLen sKind sExt sMust rTab rFil rNum rLnk rLen rItm made pItm held dByt dLen bByt bRea bRec bItm bFld bOff bOfp kept wrt wid ent ver fAdr fTab adr tab lf) := by
  refine k_ofX (by decide) (Nat.le_of_ble_eq_true rfl) ?_
  intro p e s m below meth c A ls hx hb hr hlocks hml hex hts hown hA hP hK hD hS hZ hl
  have hl : lv_has ls 5 [(0, .ref (a 0)), (1, .int t), (2, .int k), (3, .int x), (4, .int (bI b))] := hl
  refine lv_iload_n hx hb d_F_field_0 rfl (lv_at hl 1 rfl) ?_
  refine k_callS (c_isTable l D a g tw sLen sKind sExt sMust rTab rFil rNum rLnk rLen rItm made pItm held dByt dLen bByt bRea bRec bItm bFld bOff bOfp kept wrt wid ent ver fAdr fTab adr tab lf t  ) m_F_isTable wd_c78461cc kT hx hb hml hown hts ⟨Nat.le_of_ble_eq_true rfl, Nat.le_of_ble_eq_true rfl⟩ ⟨Nat.le_of_ble_eq_true rfl, Nat.le_of_ble_eq_true rfl⟩ hK hP hD hS hA hZ hl.1 rfl rfl (Nat.le_of_ble_eq_true rfl) d_F_field_1 (fun H locs hP hD hS => ?_)
  have hP : va_P D vwCl (Wd a g sLen sKind sExt sMust rTab rFil rNum rLnk rLen rItm made pItm held dByt dLen bByt bRea bRec bItm bFld bOff bOfp kept wrt wid ent ver fAdr fTab adr tab lf) H := hP
  have hD : va_D A (Wd a g sLen sKind sExt sMust rTab rFil rNum rLnk rLen rItm made pItm held dByt dLen bByt bRea bRec bItm bFld bOff bOfp kept wrt wid ent ver fAdr fTab adr tab lf) := hD
  refine W.eq (g2 := F0 m 4 ls [.int (bI (okT t))]) rfl ?_
  refine lv_if_eq (tgt := 25) hx hb d_F_field_4 (by decide) (fun c_4 => ?_) (fun c_4 => ?_)
  · skip
    have c_4 := (bI_0).mp c_4
    exact k_throw hl0 hx hb hown kT hts ⟨by decide, by decide⟩ wx_ba67719a hZ hex hlocks hK hP hD hS (hl.1.trans hml.symm) (Or.inl (⟨rfl, by simp [cdField, c_4]⟩)) (rfl) d_F_field_25 d_F_field_28 d_F_field_29 d_F_field_32 ⟨Nat.le_of_ble_eq_true rfl, Nat.le_of_ble_eq_true rfl⟩ ⟨Nat.le_of_ble_eq_true rfl, Nat.le_of_ble_eq_true rfl⟩ (Nat.le_of_ble_eq_true rfl) (Nat.le_of_ble_eq_true rfl)
  · skip
    have c_4 := mt (bI_0).mpr c_4
    have c_4 := eq_true_of_ne_false c_4
    refine lv_iload_n hx hb d_F_field_7 rfl (lv_at hl 2 rfl) ?_
    refine lv_if_lt (tgt := 25) hx hb d_F_field_8 (by decide) (fun c_8 => ?_) (fun c_8 => ?_)
    · skip
      exact k_throw hl0 hx hb hown kT hts ⟨by decide, by decide⟩ wx_ba67719a hZ hex hlocks hK hP hD hS (hl.1.trans hml.symm) (Or.inl (⟨rfl, by simp [cdField, c_4, c_8]⟩)) (rfl) d_F_field_25 d_F_field_28 d_F_field_29 d_F_field_32 ⟨Nat.le_of_ble_eq_true rfl, Nat.le_of_ble_eq_true rfl⟩ ⟨Nat.le_of_ble_eq_true rfl, Nat.le_of_ble_eq_true rfl⟩ (Nat.le_of_ble_eq_true rfl) (Nat.le_of_ble_eq_true rfl)
    · skip
      refine lv_iload_n hx hb d_F_field_11 rfl (lv_at hl 2 rfl) ?_
      refine lv_bipush (v := nI 6) hx hb d_F_field_12 (by decide) ?_
      refine lv_icmp_gt (tgt := 25) hx hb d_F_field_14 (by decide) (fun c_14 => ?_) (fun c_14 => ?_)
      · skip
        exact k_throw hl0 hx hb hown kT hts ⟨by decide, by decide⟩ wx_ba67719a hZ hex hlocks hK hP hD hS (hl.1.trans hml.symm) (Or.inl (⟨rfl, by simp [cdField, c_4, c_8, c_14]⟩)) (rfl) d_F_field_25 d_F_field_28 d_F_field_29 d_F_field_32 ⟨Nat.le_of_ble_eq_true rfl, Nat.le_of_ble_eq_true rfl⟩ ⟨Nat.le_of_ble_eq_true rfl, Nat.le_of_ble_eq_true rfl⟩ (Nat.le_of_ble_eq_true rfl) (Nat.le_of_ble_eq_true rfl)
      · skip
        obtain ⟨n_k, b_k⟩ := k7_spec c_8 c_14
        have hl : lv_has ls 5 [(0, .ref (a 0)), (1, .int t), (2, .int (nI (cN k))), (3, .int x), (4, .int (bI b))] := by rw [← n_k]; exact hl
        refine lv_iload_n hx hb d_F_field_17 rfl (lv_at hl 2 rfl) ?_
        refine lv_iload_n hx hb d_F_field_18 rfl (lv_at hl 3 rfl) ?_
        refine k_callS (c_suits l D a g tw sLen sKind sExt sMust rTab rFil rNum rLnk rLen rItm made pItm held dByt dLen bByt bRea bRec bItm bFld bOff bOfp kept wrt wid ent ver fAdr fTab adr tab lf (cN k) x  (by omega)) m_F_suits wd_5f462329 kT hx hb hml hown hts ⟨Nat.le_of_ble_eq_true rfl, Nat.le_of_ble_eq_true rfl⟩ ⟨Nat.le_of_ble_eq_true rfl, Nat.le_of_ble_eq_true rfl⟩ hK hP hD hS hA hZ hl.1 rfl rfl (Nat.le_of_ble_eq_true rfl) d_F_field_19 (fun H locs hP hD hS => ?_)
        have hP : va_P D vwCl (Wd a g sLen sKind sExt sMust rTab rFil rNum rLnk rLen rItm made pItm held dByt dLen bByt bRea bRec bItm bFld bOff bOfp kept wrt wid ent ver fAdr fTab adr tab lf) H := hP
        have hD : va_D A (Wd a g sLen sKind sExt sMust rTab rFil rNum rLnk rLen rItm made pItm held dByt dLen bByt bRea bRec bItm bFld bOff bOfp kept wrt wid ent ver fAdr fTab adr tab lf) := hD
        refine W.eq (g2 := F0 m 22 ls [.int (bI (suT (cN k) x))]) rfl ?_
        refine lv_if_ne (tgt := 33) hx hb d_F_field_22 (by decide) (fun c_22 => ?_) (fun c_22 => ?_)
        · skip
          have c_22 := mt (bI_0).mpr c_22
          have c_22 := eq_true_of_ne_false c_22
          refine lv_iload hx hb d_F_field_33 (lv_at hl 4 rfl) ?_
          refine lv_if_eq (tgt := 51) hx hb d_F_field_35 (by decide) (fun c_35 => ?_) (fun c_35 => ?_)
          · skip
            have c_35 := (bI_0).mp c_35
            obtain ⟨n_t, b_t⟩ := okT_spec c_4
            have hl : lv_has ls 5 [(0, .ref (a 0)), (1, .int (nI (cN t))), (2, .int (nI (cN k))), (3, .int x), (4, .int (bI b))] := by rw [← n_t]; exact hl
            have hL1 := hL _ b_t
            refine lv_aload_n hx hb d_F_field_51 rfl (lv_at hl 0 rfl) ?_
            refine va_get (D := D) (ci := 0) (C := R_F) (T := T_F) (N := 8) hx hb hts (fun w h => kT w (i_F w h)) hown hK hP 0 rfl rfl 0 (by decide) (hts _ (kT _ wd_61505274)) (fun _ h9 => h9) rfl d_F_field_52 ?_
            refine lv_iload_n hx hb d_F_field_55 rfl (lv_at hl 1 rfl) ?_
            refine k_callV (c_Schema_fieldsOf l D a g tw sLen sKind sExt sMust rTab rFil rNum rLnk rLen rItm made pItm held dByt dLen bByt bRea bRec bItm bFld bOff bOfp kept wrt wid ent ver fAdr fTab adr tab lf (cN t)  (by omega)) m_S_fieldsOf wd_a55bddf7 1 1 rfl rfl rfl kT hx hb hml hown hts ⟨Nat.le_of_ble_eq_true rfl, Nat.le_of_ble_eq_true rfl⟩ ⟨Nat.le_of_ble_eq_true rfl, Nat.le_of_ble_eq_true rfl⟩ hK hP hD hS hA hZ hl.1 rfl rfl (Nat.le_of_ble_eq_true rfl) d_F_field_56 (fun H locs hP hD hS => ?_)
            have hP : va_P D vwCl (Wd a g sLen sKind sExt sMust rTab rFil rNum rLnk rLen rItm made pItm held dByt dLen bByt bRea bRec bItm bFld bOff bOfp kept wrt wid ent ver fAdr fTab adr tab lf) H := hP
            have hD : va_D A (Wd a g sLen sKind sExt sMust rTab rFil rNum rLnk rLen rItm made pItm held dByt dLen bByt bRea bRec bItm bFld bOff bOfp kept wrt wid ent ver fAdr fTab adr tab lf) := hD
            refine W.eq (g2 := F0 m 59 ls [.int (nI (sLen (cN t)))]) rfl ?_
            refine lv_bipush (v := nI 6) hx hb d_F_field_59 (by decide) ?_
            refine lv_icmp_lt (tgt := 72) hx hb d_F_field_61 (by decide) (fun c_61 => ?_) (fun c_61 => ?_)
            · skip
              have c_61 := (nI_ltI (by omega) (by omega)).mp c_61
              refine lv_aload_n hx hb d_F_field_72 rfl (lv_at hl 0 rfl) ?_
              refine va_get (D := D) (ci := 0) (C := R_F) (T := T_F) (N := 8) hx hb hts (fun w h => kT w (i_F w h)) hown hK hP 0 rfl rfl 6 (by decide) (hts _ (kT _ wd_59fc3318)) (fun _ h9 => h9) rfl d_F_field_73 ?_
              refine k_callV (c_Cursor_leave l D a g tw sLen sKind sExt sMust rTab rFil rNum rLnk rLen rItm made pItm held dByt dLen bByt bRea bRec bItm bFld bOff bOfp kept wrt wid ent ver fAdr fTab adr tab lf   ) m_C_leave wd_4ebb4d90 7 7 rfl rfl rfl kT hx hb hml hown hts ⟨Nat.le_of_ble_eq_true rfl, Nat.le_of_ble_eq_true rfl⟩ ⟨Nat.le_of_ble_eq_true rfl, Nat.le_of_ble_eq_true rfl⟩ hK hP hD hS hA hZ hl.1 rfl rfl (Nat.le_of_ble_eq_true rfl) d_F_field_76 (fun H locs hP hD hS => ?_)
              have hP : va_P D vwCl (Wd a g sLen sKind sExt sMust rTab rFil rNum rLnk rLen rItm made pItm held dByt dLen bByt bRea bRec bItm bFld bOff bOfp kept wrt wid ent false fAdr fTab adr tab lf) H := hP
              have hD : va_D A (Wd a g sLen sKind sExt sMust rTab rFil rNum rLnk rLen rItm made pItm held dByt dLen bByt bRea bRec bItm bFld bOff bOfp kept wrt wid ent false fAdr fTab adr tab lf) := hD
              refine W.eq (g2 := F0 m 79 ls []) rfl ?_
              refine lv_aload_n hx hb d_F_field_79 rfl (lv_at hl 0 rfl) ?_
              refine va_get (D := D) (ci := 0) (C := R_F) (T := T_F) (N := 8) hx hb hts (fun w h => kT w (i_F w h)) hown hK hP 0 rfl rfl 0 (by decide) (hts _ (kT _ wd_61505274)) (fun _ h9 => h9) rfl d_F_field_80 ?_
              refine lv_iload_n hx hb d_F_field_83 rfl (lv_at hl 1 rfl) ?_
              refine lv_iload_n hx hb d_F_field_84 rfl (lv_at hl 2 rfl) ?_
              refine lv_iload_n hx hb d_F_field_85 rfl (lv_at hl 3 rfl) ?_
              refine lv_iload hx hb d_F_field_86 (lv_at hl 4 rfl) ?_
              refine k_callV (c_Schema_append l D a g tw sLen sKind sExt sMust rTab rFil rNum rLnk rLen rItm made pItm held dByt dLen bByt bRea bRec bItm bFld bOff bOfp kept wrt wid ent false fAdr fTab adr tab lf (cN t) (cN k) x b  (by omega) (by omega)) m_S_append wd_199e9fa1 1 1 rfl rfl rfl kT hx hb hml hown hts ⟨Nat.le_of_ble_eq_true rfl, Nat.le_of_ble_eq_true rfl⟩ ⟨Nat.le_of_ble_eq_true rfl, Nat.le_of_ble_eq_true rfl⟩ hK hP hD hS hA hZ hl.1 rfl rfl (Nat.le_of_ble_eq_true rfl) d_F_field_88 (fun H locs hP hD hS => ?_)
              have hP : va_P D vwCl (Wd a g (va_up sLen (cN t) (sLen (cN t) + 1)) (va_up sKind ((cN t) * 6 + sLen (cN t)) (cN k)) (upd sExt ((cN t) * 6 + sLen (cN t)) x) (va_up sMust ((cN t) * 6 + sLen (cN t)) b) rTab rFil rNum rLnk rLen rItm made pItm held dByt dLen bByt bRea bRec bItm bFld bOff bOfp kept wrt wid ent false fAdr fTab adr tab lf) H := hP
              have hD : va_D A (Wd a g (va_up sLen (cN t) (sLen (cN t) + 1)) (va_up sKind ((cN t) * 6 + sLen (cN t)) (cN k)) (upd sExt ((cN t) * 6 + sLen (cN t)) x) (va_up sMust ((cN t) * 6 + sLen (cN t)) b) rTab rFil rNum rLnk rLen rItm made pItm held dByt dLen bByt bRea bRec bItm bFld bOff bOfp kept wrt wid ent false fAdr fTab adr tab lf) := hD
              refine W.eq (g2 := F0 m 91 ls [.int (nI (sLen (cN t)))]) rfl ?_
              refine W.widen (k := 1) (n := 6) (Nat.le_of_ble_eq_true rfl) (Nat.le_of_ble_eq_true rfl) ?_
              exact x_ret (k_iret hx hb hr hlocks hK hP hD hS (by simp [cdField, c_4, c_8, c_14, c_22, c_35, c_61]) (rfl) (rfl) d_F_field_91)
            · skip
              have c_61 := mt (nI_ltI (by omega) (by omega)).mpr c_61
              exact k_throw hl0 hx hb hown kT hts ⟨by decide, by decide⟩ wx_f6ab3475 hZ hex hlocks hK hP hD hS (hl.1.trans hml.symm) (Or.inr (⟨rfl, by simp [cdField, c_4, c_8, c_14, c_22, c_35, c_61]⟩)) (rfl) d_F_field_64 d_F_field_67 d_F_field_68 d_F_field_71 ⟨Nat.le_of_ble_eq_true rfl, Nat.le_of_ble_eq_true rfl⟩ ⟨Nat.le_of_ble_eq_true rfl, Nat.le_of_ble_eq_true rfl⟩ (Nat.le_of_ble_eq_true rfl) (Nat.le_of_ble_eq_true rfl)
          · skip
            have c_35 := mt (bI_0).mpr c_35
            have c_35 := eq_true_of_ne_false c_35
            refine lv_iload_n hx hb d_F_field_38 rfl (lv_at hl 2 rfl) ?_
            refine lv_iconst (v := nI 4) hx hb d_F_field_39 (by decide) ?_
            refine lv_icmp_ge (tgt := 51) hx hb d_F_field_40 (by decide) (fun c_40 => ?_) (fun c_40 => ?_)
            · skip
              have c_40 := (nI_leI (by omega) (by omega)).mp c_40
              obtain ⟨n_t, b_t⟩ := okT_spec c_4
              have hl : lv_has ls 5 [(0, .ref (a 0)), (1, .int (nI (cN t))), (2, .int (nI (cN k))), (3, .int x), (4, .int (bI b))] := by rw [← n_t]; exact hl
              have hL1 := hL _ b_t
              refine lv_aload_n hx hb d_F_field_51 rfl (lv_at hl 0 rfl) ?_
              refine va_get (D := D) (ci := 0) (C := R_F) (T := T_F) (N := 8) hx hb hts (fun w h => kT w (i_F w h)) hown hK hP 0 rfl rfl 0 (by decide) (hts _ (kT _ wd_61505274)) (fun _ h9 => h9) rfl d_F_field_52 ?_
              refine lv_iload_n hx hb d_F_field_55 rfl (lv_at hl 1 rfl) ?_
              refine k_callV (c_Schema_fieldsOf l D a g tw sLen sKind sExt sMust rTab rFil rNum rLnk rLen rItm made pItm held dByt dLen bByt bRea bRec bItm bFld bOff bOfp kept wrt wid ent ver fAdr fTab adr tab lf (cN t)  (by omega)) m_S_fieldsOf wd_a55bddf7 1 1 rfl rfl rfl kT hx hb hml hown hts ⟨Nat.le_of_ble_eq_true rfl, Nat.le_of_ble_eq_true rfl⟩ ⟨Nat.le_of_ble_eq_true rfl, Nat.le_of_ble_eq_true rfl⟩ hK hP hD hS hA hZ hl.1 rfl rfl (Nat.le_of_ble_eq_true rfl) d_F_field_56 (fun H locs hP hD hS => ?_)
              have hP : va_P D vwCl (Wd a g sLen sKind sExt sMust rTab rFil rNum rLnk rLen rItm made pItm held dByt dLen bByt bRea bRec bItm bFld bOff bOfp kept wrt wid ent ver fAdr fTab adr tab lf) H := hP
              have hD : va_D A (Wd a g sLen sKind sExt sMust rTab rFil rNum rLnk rLen rItm made pItm held dByt dLen bByt bRea bRec bItm bFld bOff bOfp kept wrt wid ent ver fAdr fTab adr tab lf) := hD
              refine W.eq (g2 := F0 m 59 ls [.int (nI (sLen (cN t)))]) rfl ?_
              refine lv_bipush (v := nI 6) hx hb d_F_field_59 (by decide) ?_
              refine lv_icmp_lt (tgt := 72) hx hb d_F_field_61 (by decide) (fun c_61 => ?_) (fun c_61 => ?_)
              · skip
                have c_61 := (nI_ltI (by omega) (by omega)).mp c_61
                refine lv_aload_n hx hb d_F_field_72 rfl (lv_at hl 0 rfl) ?_
                refine va_get (D := D) (ci := 0) (C := R_F) (T := T_F) (N := 8) hx hb hts (fun w h => kT w (i_F w h)) hown hK hP 0 rfl rfl 6 (by decide) (hts _ (kT _ wd_59fc3318)) (fun _ h9 => h9) rfl d_F_field_73 ?_
                refine k_callV (c_Cursor_leave l D a g tw sLen sKind sExt sMust rTab rFil rNum rLnk rLen rItm made pItm held dByt dLen bByt bRea bRec bItm bFld bOff bOfp kept wrt wid ent ver fAdr fTab adr tab lf   ) m_C_leave wd_4ebb4d90 7 7 rfl rfl rfl kT hx hb hml hown hts ⟨Nat.le_of_ble_eq_true rfl, Nat.le_of_ble_eq_true rfl⟩ ⟨Nat.le_of_ble_eq_true rfl, Nat.le_of_ble_eq_true rfl⟩ hK hP hD hS hA hZ hl.1 rfl rfl (Nat.le_of_ble_eq_true rfl) d_F_field_76 (fun H locs hP hD hS => ?_)
                have hP : va_P D vwCl (Wd a g sLen sKind sExt sMust rTab rFil rNum rLnk rLen rItm made pItm held dByt dLen bByt bRea bRec bItm bFld bOff bOfp kept wrt wid ent false fAdr fTab adr tab lf) H := hP
                have hD : va_D A (Wd a g sLen sKind sExt sMust rTab rFil rNum rLnk rLen rItm made pItm held dByt dLen bByt bRea bRec bItm bFld bOff bOfp kept wrt wid ent false fAdr fTab adr tab lf) := hD
                refine W.eq (g2 := F0 m 79 ls []) rfl ?_
                refine lv_aload_n hx hb d_F_field_79 rfl (lv_at hl 0 rfl) ?_
                refine va_get (D := D) (ci := 0) (C := R_F) (T := T_F) (N := 8) hx hb hts (fun w h => kT w (i_F w h)) hown hK hP 0 rfl rfl 0 (by decide) (hts _ (kT _ wd_61505274)) (fun _ h9 => h9) rfl d_F_field_80 ?_
                refine lv_iload_n hx hb d_F_field_83 rfl (lv_at hl 1 rfl) ?_
                refine lv_iload_n hx hb d_F_field_84 rfl (lv_at hl 2 rfl) ?_
                refine lv_iload_n hx hb d_F_field_85 rfl (lv_at hl 3 rfl) ?_
                refine lv_iload hx hb d_F_field_86 (lv_at hl 4 rfl) ?_
                refine k_callV (c_Schema_append l D a g tw sLen sKind sExt sMust rTab rFil rNum rLnk rLen rItm made pItm held dByt dLen bByt bRea bRec bItm bFld bOff bOfp kept wrt wid ent false fAdr fTab adr tab lf (cN t) (cN k) x b  (by omega) (by omega)) m_S_append wd_199e9fa1 1 1 rfl rfl rfl kT hx hb hml hown hts ⟨Nat.le_of_ble_eq_true rfl, Nat.le_of_ble_eq_true rfl⟩ ⟨Nat.le_of_ble_eq_true rfl, Nat.le_of_ble_eq_true rfl⟩ hK hP hD hS hA hZ hl.1 rfl rfl (Nat.le_of_ble_eq_true rfl) d_F_field_88 (fun H locs hP hD hS => ?_)
                have hP : va_P D vwCl (Wd a g (va_up sLen (cN t) (sLen (cN t) + 1)) (va_up sKind ((cN t) * 6 + sLen (cN t)) (cN k)) (upd sExt ((cN t) * 6 + sLen (cN t)) x) (va_up sMust ((cN t) * 6 + sLen (cN t)) b) rTab rFil rNum rLnk rLen rItm made pItm held dByt dLen bByt bRea bRec bItm bFld bOff bOfp kept wrt wid ent false fAdr fTab adr tab lf) H := hP
                have hD : va_D A (Wd a g (va_up sLen (cN t) (sLen (cN t) + 1)) (va_up sKind ((cN t) * 6 + sLen (cN t)) (cN k)) (upd sExt ((cN t) * 6 + sLen (cN t)) x) (va_up sMust ((cN t) * 6 + sLen (cN t)) b) rTab rFil rNum rLnk rLen rItm made pItm held dByt dLen bByt bRea bRec bItm bFld bOff bOfp kept wrt wid ent false fAdr fTab adr tab lf) := hD
                refine W.eq (g2 := F0 m 91 ls [.int (nI (sLen (cN t)))]) rfl ?_
                refine W.widen (k := 1) (n := 6) (Nat.le_of_ble_eq_true rfl) (Nat.le_of_ble_eq_true rfl) ?_
                exact x_ret (k_iret hx hb hr hlocks hK hP hD hS (by simp [cdField, c_4, c_8, c_14, c_22, c_35, c_40, c_61]) (rfl) (rfl) d_F_field_91)
              · skip
                have c_61 := mt (nI_ltI (by omega) (by omega)).mpr c_61
                exact k_throw hl0 hx hb hown kT hts ⟨by decide, by decide⟩ wx_f6ab3475 hZ hex hlocks hK hP hD hS (hl.1.trans hml.symm) (Or.inr (⟨rfl, by simp [cdField, c_4, c_8, c_14, c_22, c_35, c_40, c_61]⟩)) (rfl) d_F_field_64 d_F_field_67 d_F_field_68 d_F_field_71 ⟨Nat.le_of_ble_eq_true rfl, Nat.le_of_ble_eq_true rfl⟩ ⟨Nat.le_of_ble_eq_true rfl, Nat.le_of_ble_eq_true rfl⟩ (Nat.le_of_ble_eq_true rfl) (Nat.le_of_ble_eq_true rfl)
            · skip
              have c_40 := mt (nI_leI (by omega) (by omega)).mpr c_40
              exact k_throw hl0 hx hb hown kT hts ⟨by decide, by decide⟩ wx_ba67719a hZ hex hlocks hK hP hD hS (hl.1.trans hml.symm) (Or.inl (⟨rfl, by simp [cdField, c_4, c_8, c_14, c_22, c_35, c_40]⟩)) (rfl) d_F_field_43 d_F_field_46 d_F_field_47 d_F_field_50 ⟨Nat.le_of_ble_eq_true rfl, Nat.le_of_ble_eq_true rfl⟩ ⟨Nat.le_of_ble_eq_true rfl, Nat.le_of_ble_eq_true rfl⟩ (Nat.le_of_ble_eq_true rfl) (Nat.le_of_ble_eq_true rfl)
        · skip
          have c_22 := (bI_0).mp c_22
          exact k_throw hl0 hx hb hown kT hts ⟨by decide, by decide⟩ wx_ba67719a hZ hex hlocks hK hP hD hS (hl.1.trans hml.symm) (Or.inl (⟨rfl, by simp [cdField, c_4, c_8, c_14, c_22]⟩)) (rfl) d_F_field_25 d_F_field_28 d_F_field_29 d_F_field_32 ⟨Nat.le_of_ble_eq_true rfl, Nat.le_of_ble_eq_true rfl⟩ ⟨Nat.le_of_ble_eq_true rfl, Nat.le_of_ble_eq_true rfl⟩ (Nat.le_of_ble_eq_true rfl) (Nat.le_of_ble_eq_true rfl)
set_option maxHeartbeats 4000000 in
set_option maxRecDepth 100000 in
theorem c_make (l : Launch) (hl0 : l.stackTraces = false) (D : va_G) (a : Nat → Nat) (g : Nat → ClassId) (tw : Nat) (sLen sKind : Nat → Nat) (sExt : Nat → Int32) (sMust : Nat → Bool) (rTab : Nat → Nat) (rFil : Nat → Bool) (rNum : Nat → Int64) (rLnk rLen : Nat → Nat) (rItm : Nat → Int32) (made : Nat) (pItm : Nat → Int32) (held : Nat) (dByt : Nat → Nat) (dLen : Nat) (bByt : Nat → Nat) (bRea : Nat → Bool) (bRec bItm bFld bOff bOfp : Nat → Nat) (kept wrt wid ent : Nat) (ver : Bool) (fAdr fTab adr tab : Nat) (lf : Int32) (x : Int32)  (hm : made ≤ 16) : kMX l y_F_make b_F_make 2 (some .int) ({ frames := 6, cells := 1, slots := 6, locals := 89 }) D vwCl (WdT g) tw [.ref (a 0), .int x] (Wd a g sLen sKind sExt sMust rTab rFil rNum rLnk rLen rItm made pItm held dByt dLen bByt bRea bRec bItm bFld bOff bOfp kept wrt wid ent ver fAdr fTab adr tab lf) (cdMake made x = 0) (some (.int (nI made))) (Wd a g sLen sKind sExt sMust (va_up rTab made (cN x)) rFil rNum rLnk rLen rItm (made + 1) pItm held dByt dLen bByt bRea bRec bItm bFld bOff bOfp kept wrt wid ent ver fAdr fTab adr tab lf) (fun E => (E = xIA ∧ cdMake made x = 1) ∨ (E = xIS ∧ cdMake made x = 2)) (Wd a g sLen sKind sExt sMust rTab rFil rNum rLnk rLen rItm made pItm held dByt dLen bByt bRea bRec bItm bFld bOff bOfp kept wrt wid ent ver fAdr fTab adr tab lf) := by
  refine k_ofX (by decide) (Nat.le_of_ble_eq_true rfl) ?_
  intro p e s m below meth c A ls hx hb hr hlocks hml hex hts hown hA hP hK hD hS hZ hl
  have hl : lv_has ls 2 [(0, .ref (a 0)), (1, .int x)] := hl
  refine lv_iload_n hx hb d_F_make_0 rfl (lv_at hl 1 rfl) ?_
  refine k_callS (c_isTable l D a g tw sLen sKind sExt sMust rTab rFil rNum rLnk rLen rItm made pItm held dByt dLen bByt bRea bRec bItm bFld bOff bOfp kept wrt wid ent ver fAdr fTab adr tab lf x  ) m_F_isTable wd_c78461cc kT hx hb hml hown hts ⟨Nat.le_of_ble_eq_true rfl, Nat.le_of_ble_eq_true rfl⟩ ⟨Nat.le_of_ble_eq_true rfl, Nat.le_of_ble_eq_true rfl⟩ hK hP hD hS hA hZ hl.1 rfl rfl (Nat.le_of_ble_eq_true rfl) d_F_make_1 (fun H locs hP hD hS => ?_)
  have hP : va_P D vwCl (Wd a g sLen sKind sExt sMust rTab rFil rNum rLnk rLen rItm made pItm held dByt dLen bByt bRea bRec bItm bFld bOff bOfp kept wrt wid ent ver fAdr fTab adr tab lf) H := hP
  have hD : va_D A (Wd a g sLen sKind sExt sMust rTab rFil rNum rLnk rLen rItm made pItm held dByt dLen bByt bRea bRec bItm bFld bOff bOfp kept wrt wid ent ver fAdr fTab adr tab lf) := hD
  refine W.eq (g2 := F0 m 4 ls [.int (bI (okT x))]) rfl ?_
  refine lv_if_ne (tgt := 15) hx hb d_F_make_4 (by decide) (fun c_4 => ?_) (fun c_4 => ?_)
  · skip
    have c_4 := mt (bI_0).mpr c_4
    have c_4 := eq_true_of_ne_false c_4
    refine lv_aload_n hx hb d_F_make_15 rfl (lv_at hl 0 rfl) ?_
    refine va_get (D := D) (ci := 0) (C := R_F) (T := T_F) (N := 8) hx hb hts (fun w h => kT w (i_F w h)) hown hK hP 0 rfl rfl 1 (by decide) (hts _ (kT _ wd_20c3854e)) (fun _ h9 => h9) rfl d_F_make_16 ?_
    refine va_getN (D := D) (ci := 2) (C := R_R) (T := T_R) (N := 7) hx hb hts (fun w h => kT w (i_R w h)) hown hK hP 2 rfl rfl 6 (by decide) (va_Nw.use rfl (hZ.2.2.1 _ wn_7137b64e)) (fun _ h9 => h9) rfl d_F_make_19 ?_
    refine lv_bipush (v := nI 16) hx hb d_F_make_22 (by decide) ?_
    refine lv_icmp_lt (tgt := 35) hx hb d_F_make_24 (by decide) (fun c_24 => ?_) (fun c_24 => ?_)
    · skip
      have c_24 := (nI_ltI (by omega) (by omega)).mp c_24
      obtain ⟨n_x, b_x⟩ := okT_spec c_4
      have hl : lv_has ls 2 [(0, .ref (a 0)), (1, .int (nI (cN x)))] := by rw [← n_x]; exact hl
      refine lv_aload_n hx hb d_F_make_35 rfl (lv_at hl 0 rfl) ?_
      refine va_get (D := D) (ci := 0) (C := R_F) (T := T_F) (N := 8) hx hb hts (fun w h => kT w (i_F w h)) hown hK hP 0 rfl rfl 1 (by decide) (hts _ (kT _ wd_20c3854e)) (fun _ h9 => h9) rfl d_F_make_36 ?_
      refine lv_iload_n hx hb d_F_make_39 rfl (lv_at hl 1 rfl) ?_
      refine k_callV (c_Records_append l D a g tw sLen sKind sExt sMust rTab rFil rNum rLnk rLen rItm made pItm held dByt dLen bByt bRea bRec bItm bFld bOff bOfp kept wrt wid ent ver fAdr fTab adr tab lf (cN x)  (by omega)) m_R_append wd_e4c15174 2 2 rfl rfl rfl kT hx hb hml hown hts ⟨Nat.le_of_ble_eq_true rfl, Nat.le_of_ble_eq_true rfl⟩ ⟨Nat.le_of_ble_eq_true rfl, Nat.le_of_ble_eq_true rfl⟩ hK hP hD hS hA hZ hl.1 rfl rfl (Nat.le_of_ble_eq_true rfl) d_F_make_40 (fun H locs hP hD hS => ?_)
      have hP : va_P D vwCl (Wd a g sLen sKind sExt sMust (va_up rTab made (cN x)) rFil rNum rLnk rLen rItm (made + 1) pItm held dByt dLen bByt bRea bRec bItm bFld bOff bOfp kept wrt wid ent ver fAdr fTab adr tab lf) H := hP
      have hD : va_D A (Wd a g sLen sKind sExt sMust (va_up rTab made (cN x)) rFil rNum rLnk rLen rItm (made + 1) pItm held dByt dLen bByt bRea bRec bItm bFld bOff bOfp kept wrt wid ent ver fAdr fTab adr tab lf) := hD
      refine W.eq (g2 := F0 m 43 ls [.int (nI made)]) rfl ?_
      refine W.widen (k := 1) (n := 6) (Nat.le_of_ble_eq_true rfl) (Nat.le_of_ble_eq_true rfl) ?_
      exact x_ret (k_iret hx hb hr hlocks hK hP hD hS (by simp [cdMake, c_4, c_24]) (rfl) (rfl) d_F_make_43)
    · skip
      have c_24 := mt (nI_ltI (by omega) (by omega)).mpr c_24
      exact k_throw hl0 hx hb hown kT hts ⟨by decide, by decide⟩ wx_f6ab3475 hZ hex hlocks hK hP hD hS (hl.1.trans hml.symm) (Or.inr (⟨rfl, by simp [cdMake, c_4, c_24]⟩)) (rfl) d_F_make_27 d_F_make_30 d_F_make_31 d_F_make_34 ⟨Nat.le_of_ble_eq_true rfl, Nat.le_of_ble_eq_true rfl⟩ ⟨Nat.le_of_ble_eq_true rfl, Nat.le_of_ble_eq_true rfl⟩ (Nat.le_of_ble_eq_true rfl) (Nat.le_of_ble_eq_true rfl)
  · skip
    have c_4 := (bI_0).mp c_4
    exact k_throw hl0 hx hb hown kT hts ⟨by decide, by decide⟩ wx_ba67719a hZ hex hlocks hK hP hD hS (hl.1.trans hml.symm) (Or.inl (⟨rfl, by simp [cdMake, c_4]⟩)) (rfl) d_F_make_7 d_F_make_10 d_F_make_11 d_F_make_14 ⟨Nat.le_of_ble_eq_true rfl, Nat.le_of_ble_eq_true rfl⟩ ⟨Nat.le_of_ble_eq_true rfl, Nat.le_of_ble_eq_true rfl⟩ (Nat.le_of_ble_eq_true rfl) (Nat.le_of_ble_eq_true rfl)
set_option maxHeartbeats 4000000 in
set_option maxRecDepth 100000 in
theorem c_kindInRecord (l : Launch) (hl0 : l.stackTraces = false) (D : va_G) (a : Nat → Nat) (g : Nat → ClassId) (tw : Nat) (sLen sKind : Nat → Nat) (sExt : Nat → Int32) (sMust : Nat → Bool) (rTab : Nat → Nat) (rFil : Nat → Bool) (rNum : Nat → Int64) (rLnk rLen : Nat → Nat) (rItm : Nat → Int32) (made : Nat) (pItm : Nat → Int32) (held : Nat) (dByt : Nat → Nat) (dLen : Nat) (bByt : Nat → Nat) (bRea : Nat → Bool) (bRec bItm bFld bOff bOfp : Nat → Nat) (kept wrt wid ent : Nat) (ver : Bool) (fAdr fTab adr tab : Nat) (lf : Int32) (x : Int32) (y : Int32)  (hm : made ≤ 16) (hT : ∀ r, r < made → rTab r < 4) (hL : ∀ t, t < 4 → sLen t ≤ 6) : kMX l y_F_kindInRecord b_F_kindInRecord 3 (some .int) ({ frames := 6, cells := 1, slots := 6, locals := 89 }) D vwCl (WdT g) tw [.ref (a 0), .int x, .int y] (Wd a g sLen sKind sExt sMust rTab rFil rNum rLnk rLen rItm made pItm held dByt dLen bByt bRea bRec bItm bFld bOff bOfp kept wrt wid ent ver fAdr fTab adr tab lf) (inR sLen rTab made x y = true) (some (.int (nI (kdR sKind rTab x y)))) (Wd a g sLen sKind sExt sMust rTab rFil rNum rLnk rLen rItm made pItm held dByt dLen bByt bRea bRec bItm bFld bOff bOfp kept wrt wid ent ver fAdr fTab adr tab lf) (fun E => E = xNS ∧ inR sLen rTab made x y = false) (Wd a g sLen sKind sExt sMust rTab rFil rNum rLnk rLen rItm made pItm held dByt dLen bByt bRea bRec bItm bFld bOff bOfp kept wrt wid ent ver fAdr fTab adr tab lf) := by
  refine k_ofX (by decide) (Nat.le_of_ble_eq_true rfl) ?_
  intro p e s m below meth c A ls hx hb hr hlocks hml hex hts hown hA hP hK hD hS hZ hl
  have hl : lv_has ls 3 [(0, .ref (a 0)), (1, .int x), (2, .int y)] := hl
  refine lv_aload_n hx hb d_F_kindInRecord_0 rfl (lv_at hl 0 rfl) ?_
  refine va_get (D := D) (ci := 0) (C := R_F) (T := T_F) (N := 8) hx hb hts (fun w h => kT w (i_F w h)) hown hK hP 0 rfl rfl 1 (by decide) (hts _ (kT _ wd_20c3854e)) (fun _ h9 => h9) rfl d_F_kindInRecord_1 ?_
  refine lv_iload_n hx hb d_F_kindInRecord_4 rfl (lv_at hl 1 rfl) ?_
  refine k_callV (c_Records_holds l D a g tw sLen sKind sExt sMust rTab rFil rNum rLnk rLen rItm made pItm held dByt dLen bByt bRea bRec bItm bFld bOff bOfp kept wrt wid ent ver fAdr fTab adr tab lf x  ) m_R_holds wd_bd0a1414 2 2 rfl rfl rfl kT hx hb hml hown hts ⟨Nat.le_of_ble_eq_true rfl, Nat.le_of_ble_eq_true rfl⟩ ⟨Nat.le_of_ble_eq_true rfl, Nat.le_of_ble_eq_true rfl⟩ hK hP hD hS hA hZ hl.1 rfl rfl (Nat.le_of_ble_eq_true rfl) d_F_kindInRecord_5 (fun H locs hP hD hS => ?_)
  have hP : va_P D vwCl (Wd a g sLen sKind sExt sMust rTab rFil rNum rLnk rLen rItm made pItm held dByt dLen bByt bRea bRec bItm bFld bOff bOfp kept wrt wid ent ver fAdr fTab adr tab lf) H := hP
  have hD : va_D A (Wd a g sLen sKind sExt sMust rTab rFil rNum rLnk rLen rItm made pItm held dByt dLen bByt bRea bRec bItm bFld bOff bOfp kept wrt wid ent ver fAdr fTab adr tab lf) := hD
  refine W.eq (g2 := F0 m 8 ls [.int (bI (hasF made x))]) rfl ?_
  refine lv_if_eq (tgt := 30) hx hb d_F_kindInRecord_8 (by decide) (fun c_8 => ?_) (fun c_8 => ?_)
  · skip
    have c_8 := (bI_0).mp c_8
    exact k_throw hl0 hx hb hown kT hts ⟨by decide, by decide⟩ wx_81160be2 hZ hex hlocks hK hP hD hS (hl.1.trans hml.symm) (⟨rfl, by simp [inR, c_8]⟩) (rfl) d_F_kindInRecord_30 d_F_kindInRecord_33 d_F_kindInRecord_34 d_F_kindInRecord_37 ⟨Nat.le_of_ble_eq_true rfl, Nat.le_of_ble_eq_true rfl⟩ ⟨Nat.le_of_ble_eq_true rfl, Nat.le_of_ble_eq_true rfl⟩ (Nat.le_of_ble_eq_true rfl) (Nat.le_of_ble_eq_true rfl)
  · skip
    have c_8 := mt (bI_0).mpr c_8
    have c_8 := eq_true_of_ne_false c_8
    obtain ⟨n_x, b_x⟩ := hasF_spec (by omega) c_8
    have hl : lv_has ls 3 [(0, .ref (a 0)), (1, .int (nI (cN x))), (2, .int y)] := by rw [← n_x]; exact hl
    have hT1 := hT _ b_x
    have hL1 := hL _ hT1
    refine lv_aload_n hx hb d_F_kindInRecord_11 rfl (lv_at hl 0 rfl) ?_
    refine va_get (D := D) (ci := 0) (C := R_F) (T := T_F) (N := 8) hx hb hts (fun w h => kT w (i_F w h)) hown hK hP 0 rfl rfl 0 (by decide) (hts _ (kT _ wd_61505274)) (fun _ h9 => h9) rfl d_F_kindInRecord_12 ?_
    refine lv_aload_n hx hb d_F_kindInRecord_15 rfl (lv_at hl 0 rfl) ?_
    refine va_get (D := D) (ci := 0) (C := R_F) (T := T_F) (N := 8) hx hb hts (fun w h => kT w (i_F w h)) hown hK hP 0 rfl rfl 1 (by decide) (hts _ (kT _ wd_20c3854e)) (fun _ h9 => h9) rfl d_F_kindInRecord_16 ?_
    refine lv_iload_n hx hb d_F_kindInRecord_19 rfl (lv_at hl 1 rfl) ?_
    refine k_callV (c_Records_tableOf l D a g tw sLen sKind sExt sMust rTab rFil rNum rLnk rLen rItm made pItm held dByt dLen bByt bRea bRec bItm bFld bOff bOfp kept wrt wid ent ver fAdr fTab adr tab lf (cN x)  (by omega)) m_R_tableOf wd_611a78bf 2 2 rfl rfl rfl kT hx hb hml hown hts ⟨Nat.le_of_ble_eq_true rfl, Nat.le_of_ble_eq_true rfl⟩ ⟨Nat.le_of_ble_eq_true rfl, Nat.le_of_ble_eq_true rfl⟩ hK hP hD hS hA hZ hl.1 rfl rfl (Nat.le_of_ble_eq_true rfl) d_F_kindInRecord_20 (fun H locs hP hD hS => ?_)
    have hP : va_P D vwCl (Wd a g sLen sKind sExt sMust rTab rFil rNum rLnk rLen rItm made pItm held dByt dLen bByt bRea bRec bItm bFld bOff bOfp kept wrt wid ent ver fAdr fTab adr tab lf) H := hP
    have hD : va_D A (Wd a g sLen sKind sExt sMust rTab rFil rNum rLnk rLen rItm made pItm held dByt dLen bByt bRea bRec bItm bFld bOff bOfp kept wrt wid ent ver fAdr fTab adr tab lf) := hD
    refine W.eq (g2 := F0 m 23 ls [.int (nI (rTab (cN x))), .ref (a 1)]) rfl ?_
    refine lv_iload_n hx hb d_F_kindInRecord_23 rfl (lv_at hl 2 rfl) ?_
    refine k_callV (c_Schema_holds l D a g tw sLen sKind sExt sMust rTab rFil rNum rLnk rLen rItm made pItm held dByt dLen bByt bRea bRec bItm bFld bOff bOfp kept wrt wid ent ver fAdr fTab adr tab lf (rTab (cN x)) y  (by omega)) m_S_holds wd_9d5f0e8d 1 1 rfl rfl rfl kT hx hb hml hown hts ⟨Nat.le_of_ble_eq_true rfl, Nat.le_of_ble_eq_true rfl⟩ ⟨Nat.le_of_ble_eq_true rfl, Nat.le_of_ble_eq_true rfl⟩ hK hP hD hS hA hZ hl.1 rfl rfl (Nat.le_of_ble_eq_true rfl) d_F_kindInRecord_24 (fun H locs hP hD hS => ?_)
    have hP : va_P D vwCl (Wd a g sLen sKind sExt sMust rTab rFil rNum rLnk rLen rItm made pItm held dByt dLen bByt bRea bRec bItm bFld bOff bOfp kept wrt wid ent ver fAdr fTab adr tab lf) H := hP
    have hD : va_D A (Wd a g sLen sKind sExt sMust rTab rFil rNum rLnk rLen rItm made pItm held dByt dLen bByt bRea bRec bItm bFld bOff bOfp kept wrt wid ent ver fAdr fTab adr tab lf) := hD
    refine W.eq (g2 := F0 m 27 ls [.int (bI (hasF (sLen (rTab (cN x))) y))]) rfl ?_
    refine lv_if_ne (tgt := 38) hx hb d_F_kindInRecord_27 (by decide) (fun c_27 => ?_) (fun c_27 => ?_)
    · skip
      have c_27 := mt (bI_0).mpr c_27
      have c_27 := eq_true_of_ne_false c_27
      obtain ⟨n_y, b_y⟩ := hasF_spec (by omega) c_27
      have hl : lv_has ls 3 [(0, .ref (a 0)), (1, .int (nI (cN x))), (2, .int (nI (cN y)))] := by rw [← n_y]; exact hl
      refine lv_aload_n hx hb d_F_kindInRecord_38 rfl (lv_at hl 0 rfl) ?_
      refine va_get (D := D) (ci := 0) (C := R_F) (T := T_F) (N := 8) hx hb hts (fun w h => kT w (i_F w h)) hown hK hP 0 rfl rfl 0 (by decide) (hts _ (kT _ wd_61505274)) (fun _ h9 => h9) rfl d_F_kindInRecord_39 ?_
      refine lv_aload_n hx hb d_F_kindInRecord_42 rfl (lv_at hl 0 rfl) ?_
      refine va_get (D := D) (ci := 0) (C := R_F) (T := T_F) (N := 8) hx hb hts (fun w h => kT w (i_F w h)) hown hK hP 0 rfl rfl 1 (by decide) (hts _ (kT _ wd_20c3854e)) (fun _ h9 => h9) rfl d_F_kindInRecord_43 ?_
      refine lv_iload_n hx hb d_F_kindInRecord_46 rfl (lv_at hl 1 rfl) ?_
      refine k_callV (c_Records_tableOf l D a g tw sLen sKind sExt sMust rTab rFil rNum rLnk rLen rItm made pItm held dByt dLen bByt bRea bRec bItm bFld bOff bOfp kept wrt wid ent ver fAdr fTab adr tab lf (cN x)  (by omega)) m_R_tableOf wd_611a78bf 2 2 rfl rfl rfl kT hx hb hml hown hts ⟨Nat.le_of_ble_eq_true rfl, Nat.le_of_ble_eq_true rfl⟩ ⟨Nat.le_of_ble_eq_true rfl, Nat.le_of_ble_eq_true rfl⟩ hK hP hD hS hA hZ hl.1 rfl rfl (Nat.le_of_ble_eq_true rfl) d_F_kindInRecord_47 (fun H locs hP hD hS => ?_)
      have hP : va_P D vwCl (Wd a g sLen sKind sExt sMust rTab rFil rNum rLnk rLen rItm made pItm held dByt dLen bByt bRea bRec bItm bFld bOff bOfp kept wrt wid ent ver fAdr fTab adr tab lf) H := hP
      have hD : va_D A (Wd a g sLen sKind sExt sMust rTab rFil rNum rLnk rLen rItm made pItm held dByt dLen bByt bRea bRec bItm bFld bOff bOfp kept wrt wid ent ver fAdr fTab adr tab lf) := hD
      refine W.eq (g2 := F0 m 50 ls [.int (nI (rTab (cN x))), .ref (a 1)]) rfl ?_
      refine lv_iload_n hx hb d_F_kindInRecord_50 rfl (lv_at hl 2 rfl) ?_
      refine k_callV (c_Schema_kindOf l D a g tw sLen sKind sExt sMust rTab rFil rNum rLnk rLen rItm made pItm held dByt dLen bByt bRea bRec bItm bFld bOff bOfp kept wrt wid ent ver fAdr fTab adr tab lf (rTab (cN x)) (cN y)  (by omega) (by omega)) m_S_kindOf wd_98c1bc35 1 1 rfl rfl rfl kT hx hb hml hown hts ⟨Nat.le_of_ble_eq_true rfl, Nat.le_of_ble_eq_true rfl⟩ ⟨Nat.le_of_ble_eq_true rfl, Nat.le_of_ble_eq_true rfl⟩ hK hP hD hS hA hZ hl.1 rfl rfl (Nat.le_of_ble_eq_true rfl) d_F_kindInRecord_51 (fun H locs hP hD hS => ?_)
      have hP : va_P D vwCl (Wd a g sLen sKind sExt sMust rTab rFil rNum rLnk rLen rItm made pItm held dByt dLen bByt bRea bRec bItm bFld bOff bOfp kept wrt wid ent ver fAdr fTab adr tab lf) H := hP
      have hD : va_D A (Wd a g sLen sKind sExt sMust rTab rFil rNum rLnk rLen rItm made pItm held dByt dLen bByt bRea bRec bItm bFld bOff bOfp kept wrt wid ent ver fAdr fTab adr tab lf) := hD
      refine W.eq (g2 := F0 m 54 ls [.int (nI (sKind ((rTab (cN x)) * 6 + (cN y))))]) rfl ?_
      refine W.widen (k := 1) (n := 6) (Nat.le_of_ble_eq_true rfl) (Nat.le_of_ble_eq_true rfl) ?_
      exact x_ret (k_iret hx hb hr hlocks hK hP hD hS (by simp [inR, c_8, c_27]) (rfl) (rfl) d_F_kindInRecord_54)
    · skip
      have c_27 := (bI_0).mp c_27
      exact k_throw hl0 hx hb hown kT hts ⟨by decide, by decide⟩ wx_81160be2 hZ hex hlocks hK hP hD hS (hl.1.trans hml.symm) (⟨rfl, by simp [inR, c_8, c_27]⟩) (rfl) d_F_kindInRecord_30 d_F_kindInRecord_33 d_F_kindInRecord_34 d_F_kindInRecord_37 ⟨Nat.le_of_ble_eq_true rfl, Nat.le_of_ble_eq_true rfl⟩ ⟨Nat.le_of_ble_eq_true rfl, Nat.le_of_ble_eq_true rfl⟩ (Nat.le_of_ble_eq_true rfl) (Nat.le_of_ble_eq_true rfl)
set_option maxHeartbeats 4000000 in
set_option maxRecDepth 100000 in
theorem c_number (l : Launch) (hl0 : l.stackTraces = false) (D : va_G) (a : Nat → Nat) (g : Nat → ClassId) (tw : Nat) (sLen sKind : Nat → Nat) (sExt : Nat → Int32) (sMust : Nat → Bool) (rTab : Nat → Nat) (rFil : Nat → Bool) (rNum : Nat → Int64) (rLnk rLen : Nat → Nat) (rItm : Nat → Int32) (made : Nat) (pItm : Nat → Int32) (held : Nat) (dByt : Nat → Nat) (dLen : Nat) (bByt : Nat → Nat) (bRea : Nat → Bool) (bRec bItm bFld bOff bOfp : Nat → Nat) (kept wrt wid ent : Nat) (ver : Bool) (fAdr fTab adr tab : Nat) (lf : Int32) (x : Int32) (y : Int32) (v : Int64)  (hm : made ≤ 16) (hT : ∀ r, r < made → rTab r < 4) (hL : ∀ t, t < 4 → sLen t ≤ 6) (hk : ∀ j, sKind j < 7) : kMX l y_F_number b_F_number 8 (some .long) ({ frames := 7, cells := 2, slots := 12, locals := 111 }) D vwCl (WdT g) tw [.ref (a 0), .int x, .int y, .long v] (Wd a g sLen sKind sExt sMust rTab rFil rNum rLnk rLen rItm made pItm held dByt dLen bByt bRea bRec bItm bFld bOff bOfp kept wrt wid ent ver fAdr fTab adr tab lf) (cdNum sLen sKind rTab made x y = 0) (some (.long (brI (kdR sKind rTab x y) v))) (Wd a g sLen sKind sExt sMust rTab (va_up rFil (cN x * 6 + cN y) true) (vp_updL rNum (cN x * 6 + cN y) (brI (kdR sKind rTab x y) v)) rLnk rLen rItm made pItm held dByt dLen bByt bRea bRec bItm bFld bOff bOfp kept wrt wid ent ver fAdr fTab adr tab lf) (fun E => (E = xNS ∧ cdNum sLen sKind rTab made x y = 1) ∨ (E = xUO ∧ cdNum sLen sKind rTab made x y = 2)) (Wd a g sLen sKind sExt sMust rTab rFil rNum rLnk rLen rItm made pItm held dByt dLen bByt bRea bRec bItm bFld bOff bOfp kept wrt wid ent ver fAdr fTab adr tab lf) := by
  refine k_ofX (by decide) (Nat.le_of_ble_eq_true rfl) ?_
  intro p e s m below meth c A ls hx hb hr hlocks hml hex hts hown hA hP hK hD hS hZ hl
  have hl : lv_has ls 8 [(0, .ref (a 0)), (1, .int x), (2, .int y), (3, .long v)] := hl
  refine lv_aload_n hx hb d_F_number_0 rfl (lv_at hl 0 rfl) ?_
  refine lv_iload_n hx hb d_F_number_1 rfl (lv_at hl 1 rfl) ?_
  refine lv_iload_n hx hb d_F_number_2 rfl (lv_at hl 2 rfl) ?_
  refine k_callVX (c_kindInRecord l hl0 D a g tw sLen sKind sExt sMust rTab rFil rNum rLnk rLen rItm made pItm held dByt dLen bByt bRea bRec bItm bFld bOff bOfp kept wrt wid ent ver fAdr fTab adr tab lf x y  hm hT hL) m_F_kindInRecord wd_2ea462ee 0 0 rfl rfl rfl kT hx hb hml hown hts ⟨Nat.le_of_ble_eq_true rfl, Nat.le_of_ble_eq_true rfl⟩ ⟨Nat.le_of_ble_eq_true rfl, Nat.le_of_ble_eq_true rfl⟩ hK hP hD hS hA hZ hl.1 rfl rfl (Nat.le_of_ble_eq_true rfl) d_F_number_3 (fun E ce q9 H locs hE hP hD hS hq9 hcv hcl => ?_) (fun H locs hC hP hD hS => ?_)
  · skip
    have hP : va_P D vwCl (Wd a g sLen sKind sExt sMust rTab rFil rNum rLnk rLen rItm made pItm held dByt dLen bByt bRea bRec bItm bFld bOff bOfp kept wrt wid ent ver fAdr fTab adr tab lf) H := hP
    have hD : va_D A (Wd a g sLen sKind sExt sMust rTab rFil rNum rLnk rLen rItm made pItm held dByt dLen bByt bRea bRec bItm bFld bOff bOfp kept wrt wid ent ver fAdr fTab adr tab lf) := hD
    exact k_out hex hlocks hK hP hD hS (by exact Or.inl ⟨hE.1, by simp [cdNum, hE.2]⟩) (by rfl) hq9 hcv hcl (Nat.le_of_ble_eq_true rfl) (Nat.le_of_ble_eq_true rfl)
  · skip
    have hC_3 : inR sLen rTab made x y = true := hC
    have hP : va_P D vwCl (Wd a g sLen sKind sExt sMust rTab rFil rNum rLnk rLen rItm made pItm held dByt dLen bByt bRea bRec bItm bFld bOff bOfp kept wrt wid ent ver fAdr fTab adr tab lf) H := hP
    have hD : va_D A (Wd a g sLen sKind sExt sMust rTab rFil rNum rLnk rLen rItm made pItm held dByt dLen bByt bRea bRec bItm bFld bOff bOfp kept wrt wid ent ver fAdr fTab adr tab lf) := hD
    refine W.eq (g2 := F0 m 6 ls [.int (nI (kdR sKind rTab x y))]) rfl ?_
    obtain ⟨n_x, b_x⟩ := (inR_spec hm hT hL hC_3).1
    have hl : lv_has ls 8 [(0, .ref (a 0)), (1, .int (nI (cN x))), (2, .int y), (3, .long v)] := by rw [← n_x]; exact hl
    obtain ⟨n_y, b_y⟩ := (inR_spec hm hT hL hC_3).2.1
    have hl : lv_has ls 8 [(0, .ref (a 0)), (1, .int (nI (cN x))), (2, .int (nI (cN y))), (3, .long v)] := by rw [← n_y]; exact hl
    have hT1 := (inR_spec hm hT hL hC_3).2.2.1
    have hL1 := (inR_spec hm hT hL hC_3).2.2.2
    have hk1 : kdR sKind rTab x y < 7 := hk _
    refine lv_istore (lv' := [(5, .int (nI (kdR sKind rTab x y))), (0, .ref (a 0)), (1, .int (nI (cN x))), (2, .int (nI (cN y))), (3, .long v)]) hx hb d_F_number_6 hl (by decide) rfl (fun ls hl => ?_)
    refine lv_iload hx hb d_F_number_8 (lv_at hl 0 rfl) ?_
    refine lv_iconst (v := nI 4) hx hb d_F_number_10 (by decide) ?_
    refine lv_icmp_lt (tgt := 22) hx hb d_F_number_11 (by decide) (fun c_11 => ?_) (fun c_11 => ?_)
    · skip
      have c_11 := (nI_ltI (by omega) (by omega)).mp c_11
      refine lv_iload hx hb d_F_number_22 (lv_at hl 0 rfl) ?_
      refine lv_lload_n hx hb d_F_number_24 rfl (lv_at hl 4 rfl) ?_
      refine k_callS (c_brought l D a g tw sLen sKind sExt sMust rTab rFil rNum rLnk rLen rItm made pItm held dByt dLen bByt bRea bRec bItm bFld bOff bOfp kept wrt wid ent ver fAdr fTab adr tab lf (kdR sKind rTab x y) v  (by omega)) m_F_broughtIntoRange wd_2e172b3e kT hx hb hml hown hts ⟨Nat.le_of_ble_eq_true rfl, Nat.le_of_ble_eq_true rfl⟩ ⟨Nat.le_of_ble_eq_true rfl, Nat.le_of_ble_eq_true rfl⟩ hK hP hD hS hA hZ hl.1 rfl rfl (Nat.le_of_ble_eq_true rfl) d_F_number_25 (fun H locs hP hD hS => ?_)
      have hP : va_P D vwCl (Wd a g sLen sKind sExt sMust rTab rFil rNum rLnk rLen rItm made pItm held dByt dLen bByt bRea bRec bItm bFld bOff bOfp kept wrt wid ent ver fAdr fTab adr tab lf) H := hP
      have hD : va_D A (Wd a g sLen sKind sExt sMust rTab rFil rNum rLnk rLen rItm made pItm held dByt dLen bByt bRea bRec bItm bFld bOff bOfp kept wrt wid ent ver fAdr fTab adr tab lf) := hD
      refine W.eq (g2 := F0 m 28 ls [.long (brI (kdR sKind rTab x y) v)]) rfl ?_
      refine lv_lstore (lv' := [(6, .long (brI (kdR sKind rTab x y) v)), (5, .int (nI (kdR sKind rTab x y))), (0, .ref (a 0)), (1, .int (nI (cN x))), (2, .int (nI (cN y))), (3, .long v)]) hx hb d_F_number_28 hl (by decide) rfl (fun ls hl => ?_)
      refine lv_aload_n hx hb d_F_number_30 rfl (lv_at hl 2 rfl) ?_
      refine va_get (D := D) (ci := 0) (C := R_F) (T := T_F) (N := 8) hx hb hts (fun w h => kT w (i_F w h)) hown hK hP 0 rfl rfl 1 (by decide) (hts _ (kT _ wd_20c3854e)) (fun _ h9 => h9) rfl d_F_number_31 ?_
      refine lv_iload_n hx hb d_F_number_34 rfl (lv_at hl 3 rfl) ?_
      refine lv_iload_n hx hb d_F_number_35 rfl (lv_at hl 4 rfl) ?_
      refine k_callS (c_slotOf l D a g tw sLen sKind sExt sMust rTab rFil rNum rLnk rLen rItm made pItm held dByt dLen bByt bRea bRec bItm bFld bOff bOfp kept wrt wid ent ver fAdr fTab adr tab lf (cN x) (cN y)  ) m_F_slotOf wd_26ede6b8 kT hx hb hml hown hts ⟨Nat.le_of_ble_eq_true rfl, Nat.le_of_ble_eq_true rfl⟩ ⟨Nat.le_of_ble_eq_true rfl, Nat.le_of_ble_eq_true rfl⟩ hK hP hD hS hA hZ hl.1 rfl rfl (Nat.le_of_ble_eq_true rfl) d_F_number_36 (fun H locs hP hD hS => ?_)
      have hP : va_P D vwCl (Wd a g sLen sKind sExt sMust rTab rFil rNum rLnk rLen rItm made pItm held dByt dLen bByt bRea bRec bItm bFld bOff bOfp kept wrt wid ent ver fAdr fTab adr tab lf) H := hP
      have hD : va_D A (Wd a g sLen sKind sExt sMust rTab rFil rNum rLnk rLen rItm made pItm held dByt dLen bByt bRea bRec bItm bFld bOff bOfp kept wrt wid ent ver fAdr fTab adr tab lf) := hD
      refine W.eq (g2 := F0 m 39 ls [.int (nI ((cN x) * 6 + (cN y))), .ref (a 2)]) rfl ?_
      refine lv_lload hx hb d_F_number_39 (lv_at hl 0 rfl) ?_
      refine k_callV (c_Records_keepNumber l D a g tw sLen sKind sExt sMust rTab rFil rNum rLnk rLen rItm made pItm held dByt dLen bByt bRea bRec bItm bFld bOff bOfp kept wrt wid ent ver fAdr fTab adr tab lf ((cN x) * 6 + (cN y)) (brI (kdR sKind rTab x y) v)  (by omega)) m_R_keepNumber wd_cb2a251a 2 2 rfl rfl rfl kT hx hb hml hown hts ⟨Nat.le_of_ble_eq_true rfl, Nat.le_of_ble_eq_true rfl⟩ ⟨Nat.le_of_ble_eq_true rfl, Nat.le_of_ble_eq_true rfl⟩ hK hP hD hS hA hZ hl.1 rfl rfl (Nat.le_of_ble_eq_true rfl) d_F_number_41 (fun H locs hP hD hS => ?_)
      have hP : va_P D vwCl (Wd a g sLen sKind sExt sMust rTab (va_up rFil ((cN x) * 6 + (cN y)) true) (vp_updL rNum ((cN x) * 6 + (cN y)) (brI (kdR sKind rTab x y) v)) rLnk rLen rItm made pItm held dByt dLen bByt bRea bRec bItm bFld bOff bOfp kept wrt wid ent ver fAdr fTab adr tab lf) H := hP
      have hD : va_D A (Wd a g sLen sKind sExt sMust rTab (va_up rFil ((cN x) * 6 + (cN y)) true) (vp_updL rNum ((cN x) * 6 + (cN y)) (brI (kdR sKind rTab x y) v)) rLnk rLen rItm made pItm held dByt dLen bByt bRea bRec bItm bFld bOff bOfp kept wrt wid ent ver fAdr fTab adr tab lf) := hD
      refine W.eq (g2 := F0 m 44 ls []) rfl ?_
      refine lv_lload hx hb d_F_number_44 (lv_at hl 0 rfl) ?_
      refine W.widen (k := 2) (n := 12) (Nat.le_of_ble_eq_true rfl) (Nat.le_of_ble_eq_true rfl) ?_
      exact x_ret (k_lret hx hb hr hlocks hK hP hD hS (by simp [cdNum, hC_3, c_11]) (rfl) (rfl) d_F_number_46)
    · skip
      have c_11 := mt (nI_ltI (by omega) (by omega)).mpr c_11
      exact k_throw hl0 hx hb hown kT hts ⟨by decide, by decide⟩ wx_b1304150 hZ hex hlocks hK hP hD hS (hl.1.trans hml.symm) (Or.inr (⟨rfl, by simp [cdNum, c_11, hC_3]⟩)) (rfl) d_F_number_14 d_F_number_17 d_F_number_18 d_F_number_21 ⟨Nat.le_of_ble_eq_true rfl, Nat.le_of_ble_eq_true rfl⟩ ⟨Nat.le_of_ble_eq_true rfl, Nat.le_of_ble_eq_true rfl⟩ (Nat.le_of_ble_eq_true rfl) (Nat.le_of_ble_eq_true rfl)
set_option maxHeartbeats 4000000 in
set_option maxRecDepth 100000 in
theorem c_add (l : Launch) (hl0 : l.stackTraces = false) (D : va_G) (a : Nat → Nat) (g : Nat → ClassId) (tw : Nat) (sLen sKind : Nat → Nat) (sExt : Nat → Int32) (sMust : Nat → Bool) (rTab : Nat → Nat) (rFil : Nat → Bool) (rNum : Nat → Int64) (rLnk rLen : Nat → Nat) (rItm : Nat → Int32) (made : Nat) (pItm : Nat → Int32) (held : Nat) (dByt : Nat → Nat) (dLen : Nat) (bByt : Nat → Nat) (bRea : Nat → Bool) (bRec bItm bFld bOff bOfp : Nat → Nat) (kept wrt wid ent : Nat) (ver : Bool) (fAdr fTab adr tab : Nat) (lf : Int32) (x : Int32)  (hh : held ≤ 12) : kMX l y_F_add b_F_add 2 (some .int) ({ frames := 6, cells := 1, slots := 6, locals := 89 }) D vwCl (WdT g) tw [.ref (a 0), .int x] (Wd a g sLen sKind sExt sMust rTab rFil rNum rLnk rLen rItm made pItm held dByt dLen bByt bRea bRec bItm bFld bOff bOfp kept wrt wid ent ver fAdr fTab adr tab lf) (cdAdd held = 0) (some (.int (nI (held + 1)))) (Wd a g sLen sKind sExt sMust rTab rFil rNum rLnk rLen rItm made (upd pItm held x.toInt16.toInt32) (held + 1) dByt dLen bByt bRea bRec bItm bFld bOff bOfp kept wrt wid ent ver fAdr fTab adr tab lf) (fun E => E = xIS ∧ cdAdd held = 1) (Wd a g sLen sKind sExt sMust rTab rFil rNum rLnk rLen rItm made pItm held dByt dLen bByt bRea bRec bItm bFld bOff bOfp kept wrt wid ent ver fAdr fTab adr tab lf) := by
  refine k_ofX (by decide) (Nat.le_of_ble_eq_true rfl) ?_
  intro p e s m below meth c A ls hx hb hr hlocks hml hex hts hown hA hP hK hD hS hZ hl
  have hl : lv_has ls 2 [(0, .ref (a 0)), (1, .int x)] := hl
  refine lv_aload_n hx hb d_F_add_0 rfl (lv_at hl 0 rfl) ?_
  refine va_get (D := D) (ci := 0) (C := R_F) (T := T_F) (N := 8) hx hb hts (fun w h => kT w (i_F w h)) hown hK hP 0 rfl rfl 2 (by decide) (hts _ (kT _ wd_e9e83da4)) (fun _ h9 => h9) rfl d_F_add_1 ?_
  refine va_getN (D := D) (ci := 3) (C := R_P) (T := T_P) (N := 2) hx hb hts (fun w h => kT w (i_P w h)) hown hK hP 3 rfl rfl 1 (by decide) (va_Nw.use rfl (hZ.2.2.1 _ wn_6d58f88b)) (fun _ h9 => h9) rfl d_F_add_4 ?_
  refine lv_bipush (v := nI 12) hx hb d_F_add_7 (by decide) ?_
  refine lv_icmp_lt (tgt := 20) hx hb d_F_add_9 (by decide) (fun c_9 => ?_) (fun c_9 => ?_)
  · skip
    have c_9 := (nI_ltI (by omega) (by omega)).mp c_9
    refine lv_aload_n hx hb d_F_add_20 rfl (lv_at hl 0 rfl) ?_
    refine va_get (D := D) (ci := 0) (C := R_F) (T := T_F) (N := 8) hx hb hts (fun w h => kT w (i_F w h)) hown hK hP 0 rfl rfl 2 (by decide) (hts _ (kT _ wd_e9e83da4)) (fun _ h9 => h9) rfl d_F_add_21 ?_
    refine lv_iload_n hx hb d_F_add_24 rfl (lv_at hl 1 rfl) ?_
    refine lv_i2s hx hb d_F_add_25 rfl ?_
    refine k_callV (c_Pending_append l D a g tw sLen sKind sExt sMust rTab rFil rNum rLnk rLen rItm made pItm held dByt dLen bByt bRea bRec bItm bFld bOff bOfp kept wrt wid ent ver fAdr fTab adr tab lf x.toInt16.toInt32  (pk_vs _) (by omega)) m_P_append wd_72044d2f 3 3 rfl rfl rfl kT hx hb hml hown hts ⟨Nat.le_of_ble_eq_true rfl, Nat.le_of_ble_eq_true rfl⟩ ⟨Nat.le_of_ble_eq_true rfl, Nat.le_of_ble_eq_true rfl⟩ hK hP hD hS hA hZ hl.1 rfl rfl (Nat.le_of_ble_eq_true rfl) d_F_add_26 (fun H locs hP hD hS => ?_)
    have hP : va_P D vwCl (Wd a g sLen sKind sExt sMust rTab rFil rNum rLnk rLen rItm made (upd pItm held x.toInt16.toInt32) (held + 1) dByt dLen bByt bRea bRec bItm bFld bOff bOfp kept wrt wid ent ver fAdr fTab adr tab lf) H := hP
    have hD : va_D A (Wd a g sLen sKind sExt sMust rTab rFil rNum rLnk rLen rItm made (upd pItm held x.toInt16.toInt32) (held + 1) dByt dLen bByt bRea bRec bItm bFld bOff bOfp kept wrt wid ent ver fAdr fTab adr tab lf) := hD
    refine W.eq (g2 := F0 m 29 ls []) rfl ?_
    refine lv_aload_n hx hb d_F_add_29 rfl (lv_at hl 0 rfl) ?_
    refine va_get (D := D) (ci := 0) (C := R_F) (T := T_F) (N := 8) hx hb hts (fun w h => kT w (i_F w h)) hown hK hP 0 rfl rfl 2 (by decide) (hts _ (kT _ wd_e9e83da4)) (fun _ h9 => h9) rfl d_F_add_30 ?_
    refine va_getN (D := D) (ci := 3) (C := R_P) (T := T_P) (N := 2) hx hb hts (fun w h => kT w (i_P w h)) hown hK hP 3 rfl rfl 1 (by decide) (va_Nw.use rfl (hZ.2.2.1 _ wn_6d58f88b)) (fun _ h9 => h9) rfl d_F_add_33 ?_
    refine W.widen (k := 1) (n := 6) (Nat.le_of_ble_eq_true rfl) (Nat.le_of_ble_eq_true rfl) ?_
    exact x_ret (k_iret hx hb hr hlocks hK hP hD hS (by simp [cdAdd, c_9]) (rfl) (rfl) d_F_add_36)
  · skip
    have c_9 := mt (nI_ltI (by omega) (by omega)).mpr c_9
    exact k_throw hl0 hx hb hown kT hts ⟨by decide, by decide⟩ wx_f6ab3475 hZ hex hlocks hK hP hD hS (hl.1.trans hml.symm) (⟨rfl, by simp [cdAdd, c_9]⟩) (rfl) d_F_add_12 d_F_add_15 d_F_add_16 d_F_add_19 ⟨Nat.le_of_ble_eq_true rfl, Nat.le_of_ble_eq_true rfl⟩ ⟨Nat.le_of_ble_eq_true rfl, Nat.le_of_ble_eq_true rfl⟩ (Nat.le_of_ble_eq_true rfl) (Nat.le_of_ble_eq_true rfl)
set_option maxHeartbeats 4000000 in
set_option maxRecDepth 100000 in
theorem c_fill (l : Launch) (hl0 : l.stackTraces = false) (D : va_G) (a : Nat → Nat) (g : Nat → ClassId) (tw : Nat) (sLen sKind : Nat → Nat) (sExt : Nat → Int32) (sMust : Nat → Bool) (rTab : Nat → Nat) (rFil : Nat → Bool) (rNum : Nat → Int64) (rLnk rLen : Nat → Nat) (rItm : Nat → Int32) (made : Nat) (pItm : Nat → Int32) (held : Nat) (dByt : Nat → Nat) (dLen : Nat) (bByt : Nat → Nat) (bRea : Nat → Bool) (bRec bItm bFld bOff bOfp : Nat → Nat) (kept wrt wid ent : Nat) (ver : Bool) (fAdr fTab adr tab : Nat) (lf : Int32) (x : Int32) (y : Int32)  (hm : made ≤ 16) (hT : ∀ r, r < made → rTab r < 4) (hL : ∀ t, t < 4 → sLen t ≤ 6) (hk : ∀ j, sKind j < 7) (hh : held ≤ 12) : kMX l y_F_fill b_F_fill 5 (some .int) ({ frames := 7, cells := 2, slots := 12, locals := 111 }) D vwCl (WdT g) tw [.ref (a 0), .int x, .int y] (Wd a g sLen sKind sExt sMust rTab rFil rNum rLnk rLen rItm made pItm held dByt dLen bByt bRea bRec bItm bFld bOff bOfp kept wrt wid ent ver fAdr fTab adr tab lf) (cdFill sLen sKind rTab made held x y = 0) (some (.int (nI held))) (Wd a g sLen sKind sExt sMust rTab (va_up rFil (cN x * 6 + cN y) true) rNum rLnk (va_up rLen (cN x * 6 + cN y) held) (cpI rItm pItm (if kdR sKind rTab x y = 4 then nI 127 else -1) ((cN x * 6 + cN y) * 12) held) made pItm 0 dByt dLen bByt bRea bRec bItm bFld bOff bOfp kept wrt wid ent ver fAdr fTab adr tab lf) (fun E => (E = xNS ∧ cdFill sLen sKind rTab made held x y = 1) ∨ (E = xUO ∧ cdFill sLen sKind rTab made held x y = 2)) (Wd a g sLen sKind sExt sMust rTab rFil rNum rLnk rLen rItm made pItm held dByt dLen bByt bRea bRec bItm bFld bOff bOfp kept wrt wid ent ver fAdr fTab adr tab lf) := by
  refine k_ofX (by decide) (Nat.le_of_ble_eq_true rfl) ?_
  intro p e s m below meth c A ls hx hb hr hlocks hml hex hts hown hA hP hK hD hS hZ hl
  have hl : lv_has ls 5 [(0, .ref (a 0)), (1, .int x), (2, .int y)] := hl
  refine lv_aload_n hx hb d_F_fill_0 rfl (lv_at hl 0 rfl) ?_
  refine lv_iload_n hx hb d_F_fill_1 rfl (lv_at hl 1 rfl) ?_
  refine lv_iload_n hx hb d_F_fill_2 rfl (lv_at hl 2 rfl) ?_
  refine k_callVX (c_kindInRecord l hl0 D a g tw sLen sKind sExt sMust rTab rFil rNum rLnk rLen rItm made pItm held dByt dLen bByt bRea bRec bItm bFld bOff bOfp kept wrt wid ent ver fAdr fTab adr tab lf x y  hm hT hL) m_F_kindInRecord wd_2ea462ee 0 0 rfl rfl rfl kT hx hb hml hown hts ⟨Nat.le_of_ble_eq_true rfl, Nat.le_of_ble_eq_true rfl⟩ ⟨Nat.le_of_ble_eq_true rfl, Nat.le_of_ble_eq_true rfl⟩ hK hP hD hS hA hZ hl.1 rfl rfl (Nat.le_of_ble_eq_true rfl) d_F_fill_3 (fun E ce q9 H locs hE hP hD hS hq9 hcv hcl => ?_) (fun H locs hC hP hD hS => ?_)
  · skip
    have hP : va_P D vwCl (Wd a g sLen sKind sExt sMust rTab rFil rNum rLnk rLen rItm made pItm held dByt dLen bByt bRea bRec bItm bFld bOff bOfp kept wrt wid ent ver fAdr fTab adr tab lf) H := hP
    have hD : va_D A (Wd a g sLen sKind sExt sMust rTab rFil rNum rLnk rLen rItm made pItm held dByt dLen bByt bRea bRec bItm bFld bOff bOfp kept wrt wid ent ver fAdr fTab adr tab lf) := hD
    exact k_out hex hlocks hK hP hD hS (by exact Or.inl ⟨hE.1, by simp [cdFill, hE.2]⟩) (by rfl) hq9 hcv hcl (Nat.le_of_ble_eq_true rfl) (Nat.le_of_ble_eq_true rfl)
  · skip
    have hC_3 : inR sLen rTab made x y = true := hC
    have hP : va_P D vwCl (Wd a g sLen sKind sExt sMust rTab rFil rNum rLnk rLen rItm made pItm held dByt dLen bByt bRea bRec bItm bFld bOff bOfp kept wrt wid ent ver fAdr fTab adr tab lf) H := hP
    have hD : va_D A (Wd a g sLen sKind sExt sMust rTab rFil rNum rLnk rLen rItm made pItm held dByt dLen bByt bRea bRec bItm bFld bOff bOfp kept wrt wid ent ver fAdr fTab adr tab lf) := hD
    refine W.eq (g2 := F0 m 6 ls [.int (nI (kdR sKind rTab x y))]) rfl ?_
    obtain ⟨n_x, b_x⟩ := (inR_spec hm hT hL hC_3).1
    have hl : lv_has ls 5 [(0, .ref (a 0)), (1, .int (nI (cN x))), (2, .int y)] := by rw [← n_x]; exact hl
    obtain ⟨n_y, b_y⟩ := (inR_spec hm hT hL hC_3).2.1
    have hl : lv_has ls 5 [(0, .ref (a 0)), (1, .int (nI (cN x))), (2, .int (nI (cN y)))] := by rw [← n_y]; exact hl
    have hT1 := (inR_spec hm hT hL hC_3).2.2.1
    have hL1 := (inR_spec hm hT hL hC_3).2.2.2
    have hk1 : kdR sKind rTab x y < 7 := hk _
    refine lv_istore_n (lv' := [(3, .int (nI (kdR sKind rTab x y))), (0, .ref (a 0)), (1, .int (nI (cN x))), (2, .int (nI (cN y)))]) hx hb d_F_fill_6 rfl hl (by decide) rfl (fun ls hl => ?_)
    refine lv_iload_n hx hb d_F_fill_7 rfl (lv_at hl 0 rfl) ?_
    refine lv_iconst (v := nI 4) hx hb d_F_fill_8 (by decide) ?_
    refine lv_icmp_eq (tgt := 25) hx hb d_F_fill_9 (by decide) (fun c_9 => ?_) (fun c_9 => ?_)
    · skip
      have c_9 := (nI_eq (by omega) (by omega)).mp c_9
      refine lv_iload_n hx hb d_F_fill_25 rfl (lv_at hl 0 rfl) ?_
      refine lv_iconst (v := nI 5) hx hb d_F_fill_26 (by decide) ?_
      refine lv_icmp_ne (tgt := 50) hx hb d_F_fill_27 (by decide) (fun c_27 => ?_) (fun c_27 => ?_)
      · skip
        have c_27 := mt (nI_eq (by omega) (by omega)).mpr c_27
        refine lv_aload_n hx hb d_F_fill_50 rfl (lv_at hl 1 rfl) ?_
        refine va_get (D := D) (ci := 0) (C := R_F) (T := T_F) (N := 8) hx hb hts (fun w h => kT w (i_F w h)) hown hK hP 0 rfl rfl 2 (by decide) (hts _ (kT _ wd_e9e83da4)) (fun _ h9 => h9) rfl d_F_fill_51 ?_
        refine va_getN (D := D) (ci := 3) (C := R_P) (T := T_P) (N := 2) hx hb hts (fun w h => kT w (i_P w h)) hown hK hP 3 rfl rfl 1 (by decide) (va_Nw.use rfl (hZ.2.2.1 _ wn_6d58f88b)) (fun _ h9 => h9) rfl d_F_fill_54 ?_
        refine lv_istore (lv' := [(4, .int (nI held)), (3, .int (nI (kdR sKind rTab x y))), (0, .ref (a 0)), (1, .int (nI (cN x))), (2, .int (nI (cN y)))]) hx hb d_F_fill_57 hl (by decide) rfl (fun ls hl => ?_)
        refine lv_aload_n hx hb d_F_fill_59 rfl (lv_at hl 2 rfl) ?_
        refine va_get (D := D) (ci := 0) (C := R_F) (T := T_F) (N := 8) hx hb hts (fun w h => kT w (i_F w h)) hown hK hP 0 rfl rfl 1 (by decide) (hts _ (kT _ wd_20c3854e)) (fun _ h9 => h9) rfl d_F_fill_60 ?_
        refine lv_iload_n hx hb d_F_fill_63 rfl (lv_at hl 3 rfl) ?_
        refine lv_iload_n hx hb d_F_fill_64 rfl (lv_at hl 4 rfl) ?_
        refine k_callS (c_slotOf l D a g tw sLen sKind sExt sMust rTab rFil rNum rLnk rLen rItm made pItm held dByt dLen bByt bRea bRec bItm bFld bOff bOfp kept wrt wid ent ver fAdr fTab adr tab lf (cN x) (cN y)  ) m_F_slotOf wd_26ede6b8 kT hx hb hml hown hts ⟨Nat.le_of_ble_eq_true rfl, Nat.le_of_ble_eq_true rfl⟩ ⟨Nat.le_of_ble_eq_true rfl, Nat.le_of_ble_eq_true rfl⟩ hK hP hD hS hA hZ hl.1 rfl rfl (Nat.le_of_ble_eq_true rfl) d_F_fill_65 (fun H locs hP hD hS => ?_)
        have hP : va_P D vwCl (Wd a g sLen sKind sExt sMust rTab rFil rNum rLnk rLen rItm made pItm held dByt dLen bByt bRea bRec bItm bFld bOff bOfp kept wrt wid ent ver fAdr fTab adr tab lf) H := hP
        have hD : va_D A (Wd a g sLen sKind sExt sMust rTab rFil rNum rLnk rLen rItm made pItm held dByt dLen bByt bRea bRec bItm bFld bOff bOfp kept wrt wid ent ver fAdr fTab adr tab lf) := hD
        refine W.eq (g2 := F0 m 68 ls [.int (nI ((cN x) * 6 + (cN y))), .ref (a 2)]) rfl ?_
        refine lv_aload_n hx hb d_F_fill_68 rfl (lv_at hl 2 rfl) ?_
        refine va_get (D := D) (ci := 0) (C := R_F) (T := T_F) (N := 8) hx hb hts (fun w h => kT w (i_F w h)) hown hK hP 0 rfl rfl 2 (by decide) (hts _ (kT _ wd_e9e83da4)) (fun _ h9 => h9) rfl d_F_fill_69 ?_
        refine lv_iload_n hx hb d_F_fill_72 rfl (lv_at hl 1 rfl) ?_
        refine lv_iconst (v := nI 4) hx hb d_F_fill_73 (by decide) ?_
        refine lv_icmp_ne (tgt := 82) hx hb d_F_fill_74 (by decide) (fun c_74 => ?_) (fun c_74 => ?_)
        · skip
          have c_74 := mt (nI_eq (by omega) (by omega)).mpr c_74
          refine lv_iconst (v := -1) hx hb d_F_fill_82 (by decide) ?_
          refine k_callV (c_Records_keepItems l D a g tw sLen sKind sExt sMust rTab rFil rNum rLnk rLen rItm made pItm held dByt dLen bByt bRea bRec bItm bFld bOff bOfp kept wrt wid ent ver fAdr fTab adr tab lf ((cN x) * 6 + (cN y)) (-1)  (by omega) (by omega)) m_R_keepItems wd_62c7d309 2 2 rfl rfl rfl kT hx hb hml hown hts ⟨Nat.le_of_ble_eq_true rfl, Nat.le_of_ble_eq_true rfl⟩ ⟨Nat.le_of_ble_eq_true rfl, Nat.le_of_ble_eq_true rfl⟩ hK hP hD hS hA hZ hl.1 rfl rfl (Nat.le_of_ble_eq_true rfl) d_F_fill_83 (fun H locs hP hD hS => ?_)
          have hP : va_P D vwCl (Wd a g sLen sKind sExt sMust rTab (va_up rFil ((cN x) * 6 + (cN y)) true) rNum rLnk (va_up rLen ((cN x) * 6 + (cN y)) held) (cpI rItm pItm (-1) (((cN x) * 6 + (cN y)) * 12) held) made pItm held dByt dLen bByt bRea bRec bItm bFld bOff bOfp kept wrt wid ent ver fAdr fTab adr tab lf) H := hP
          have hD : va_D A (Wd a g sLen sKind sExt sMust rTab (va_up rFil ((cN x) * 6 + (cN y)) true) rNum rLnk (va_up rLen ((cN x) * 6 + (cN y)) held) (cpI rItm pItm (-1) (((cN x) * 6 + (cN y)) * 12) held) made pItm held dByt dLen bByt bRea bRec bItm bFld bOff bOfp kept wrt wid ent ver fAdr fTab adr tab lf) := hD
          refine W.eq (g2 := F0 m 86 ls []) rfl ?_
          refine lv_aload_n hx hb d_F_fill_86 rfl (lv_at hl 2 rfl) ?_
          refine va_get (D := D) (ci := 0) (C := R_F) (T := T_F) (N := 8) hx hb hts (fun w h => kT w (i_F w h)) hown hK hP 0 rfl rfl 2 (by decide) (hts _ (kT _ wd_e9e83da4)) (fun _ h9 => h9) rfl d_F_fill_87 ?_
          refine lv_iconst (v := nI 0) hx hb d_F_fill_90 (by decide) ?_
          refine va_putN (D := D) (ci := 3) (ty := .int) (C := R_P) (T := T_P) (N := 2) hx hb hts (fun w h => kT w (i_P w h)) ty_P tyk_P nm_P hown hK hP hD hS 3 rfl rfl 1 (by decide) (va_Nw.use rfl (hZ.2.2.1 _ wn_6d58f88b)) (fun _ h9 => h9) rfl (by decide +kernel) rfl rfl (Nat.le_of_ble_eq_true rfl) d_F_fill_91 (fun H locs hP hD hS => ?_)
          have hP : va_P D vwCl (Wd a g sLen sKind sExt sMust rTab (va_up rFil ((cN x) * 6 + (cN y)) true) rNum rLnk (va_up rLen ((cN x) * 6 + (cN y)) held) (cpI rItm pItm (-1) (((cN x) * 6 + (cN y)) * 12) held) made pItm 0 dByt dLen bByt bRea bRec bItm bFld bOff bOfp kept wrt wid ent ver fAdr fTab adr tab lf) H := hP
          have hD : va_D A (Wd a g sLen sKind sExt sMust rTab (va_up rFil ((cN x) * 6 + (cN y)) true) rNum rLnk (va_up rLen ((cN x) * 6 + (cN y)) held) (cpI rItm pItm (-1) (((cN x) * 6 + (cN y)) * 12) held) made pItm 0 dByt dLen bByt bRea bRec bItm bFld bOff bOfp kept wrt wid ent ver fAdr fTab adr tab lf) := hD
          refine lv_iload hx hb d_F_fill_94 (lv_at hl 0 rfl) ?_
          refine W.widen (k := 2) (n := 12) (Nat.le_of_ble_eq_true rfl) (Nat.le_of_ble_eq_true rfl) ?_
          exact x_ret (k_iret hx hb hr hlocks hK hP hD hS (by simp [cdFill, hC_3, c_9, c_27, c_74] <;> omega) (rfl) (by first | rw [if_pos c_74] | rw [if_neg c_74]) d_F_fill_96)
        · skip
          have c_74 := (nI_eq (by omega) (by omega)).mp c_74
          refine lv_bipush (v := nI 127) hx hb d_F_fill_77 (by decide) ?_
          refine lv_goto (tgt := 83) hx hb d_F_fill_79 (by decide) ?_
          refine k_callV (c_Records_keepItems l D a g tw sLen sKind sExt sMust rTab rFil rNum rLnk rLen rItm made pItm held dByt dLen bByt bRea bRec bItm bFld bOff bOfp kept wrt wid ent ver fAdr fTab adr tab lf ((cN x) * 6 + (cN y)) (nI 127)  (by omega) (by omega)) m_R_keepItems wd_62c7d309 2 2 rfl rfl rfl kT hx hb hml hown hts ⟨Nat.le_of_ble_eq_true rfl, Nat.le_of_ble_eq_true rfl⟩ ⟨Nat.le_of_ble_eq_true rfl, Nat.le_of_ble_eq_true rfl⟩ hK hP hD hS hA hZ hl.1 rfl rfl (Nat.le_of_ble_eq_true rfl) d_F_fill_83 (fun H locs hP hD hS => ?_)
          have hP : va_P D vwCl (Wd a g sLen sKind sExt sMust rTab (va_up rFil ((cN x) * 6 + (cN y)) true) rNum rLnk (va_up rLen ((cN x) * 6 + (cN y)) held) (cpI rItm pItm (nI 127) (((cN x) * 6 + (cN y)) * 12) held) made pItm held dByt dLen bByt bRea bRec bItm bFld bOff bOfp kept wrt wid ent ver fAdr fTab adr tab lf) H := hP
          have hD : va_D A (Wd a g sLen sKind sExt sMust rTab (va_up rFil ((cN x) * 6 + (cN y)) true) rNum rLnk (va_up rLen ((cN x) * 6 + (cN y)) held) (cpI rItm pItm (nI 127) (((cN x) * 6 + (cN y)) * 12) held) made pItm held dByt dLen bByt bRea bRec bItm bFld bOff bOfp kept wrt wid ent ver fAdr fTab adr tab lf) := hD
          refine W.eq (g2 := F0 m 86 ls []) rfl ?_
          refine lv_aload_n hx hb d_F_fill_86 rfl (lv_at hl 2 rfl) ?_
          refine va_get (D := D) (ci := 0) (C := R_F) (T := T_F) (N := 8) hx hb hts (fun w h => kT w (i_F w h)) hown hK hP 0 rfl rfl 2 (by decide) (hts _ (kT _ wd_e9e83da4)) (fun _ h9 => h9) rfl d_F_fill_87 ?_
          refine lv_iconst (v := nI 0) hx hb d_F_fill_90 (by decide) ?_
          refine va_putN (D := D) (ci := 3) (ty := .int) (C := R_P) (T := T_P) (N := 2) hx hb hts (fun w h => kT w (i_P w h)) ty_P tyk_P nm_P hown hK hP hD hS 3 rfl rfl 1 (by decide) (va_Nw.use rfl (hZ.2.2.1 _ wn_6d58f88b)) (fun _ h9 => h9) rfl (by decide +kernel) rfl rfl (Nat.le_of_ble_eq_true rfl) d_F_fill_91 (fun H locs hP hD hS => ?_)
          have hP : va_P D vwCl (Wd a g sLen sKind sExt sMust rTab (va_up rFil ((cN x) * 6 + (cN y)) true) rNum rLnk (va_up rLen ((cN x) * 6 + (cN y)) held) (cpI rItm pItm (nI 127) (((cN x) * 6 + (cN y)) * 12) held) made pItm 0 dByt dLen bByt bRea bRec bItm bFld bOff bOfp kept wrt wid ent ver fAdr fTab adr tab lf) H := hP
          have hD : va_D A (Wd a g sLen sKind sExt sMust rTab (va_up rFil ((cN x) * 6 + (cN y)) true) rNum rLnk (va_up rLen ((cN x) * 6 + (cN y)) held) (cpI rItm pItm (nI 127) (((cN x) * 6 + (cN y)) * 12) held) made pItm 0 dByt dLen bByt bRea bRec bItm bFld bOff bOfp kept wrt wid ent ver fAdr fTab adr tab lf) := hD
          refine lv_iload hx hb d_F_fill_94 (lv_at hl 0 rfl) ?_
          refine W.widen (k := 2) (n := 12) (Nat.le_of_ble_eq_true rfl) (Nat.le_of_ble_eq_true rfl) ?_
          exact x_ret (k_iret hx hb hr hlocks hK hP hD hS (by simp [cdFill, hC_3, c_9, c_27, c_74] <;> omega) (rfl) (by first | rw [if_pos c_74] | rw [if_neg c_74]) d_F_fill_96)
      · skip
        have c_27 := (nI_eq (by omega) (by omega)).mp c_27
        refine lv_aload_n hx hb d_F_fill_30 rfl (lv_at hl 1 rfl) ?_
        refine va_get (D := D) (ci := 0) (C := R_F) (T := T_F) (N := 8) hx hb hts (fun w h => kT w (i_F w h)) hown hK hP 0 rfl rfl 2 (by decide) (hts _ (kT _ wd_e9e83da4)) (fun _ h9 => h9) rfl d_F_fill_31 ?_
        refine va_getN (D := D) (ci := 3) (C := R_P) (T := T_P) (N := 2) hx hb hts (fun w h => kT w (i_P w h)) hown hK hP 3 rfl rfl 1 (by decide) (va_Nw.use rfl (hZ.2.2.1 _ wn_6d58f88b)) (fun _ h9 => h9) rfl d_F_fill_34 ?_
        refine lv_bipush (v := nI 8) hx hb d_F_fill_37 (by decide) ?_
        refine lv_icmp_le (tgt := 50) hx hb d_F_fill_39 (by decide) (fun c_39 => ?_) (fun c_39 => ?_)
        · skip
          have c_39 := (nI_leI (by omega) (by omega)).mp c_39
          refine lv_aload_n hx hb d_F_fill_50 rfl (lv_at hl 1 rfl) ?_
          refine va_get (D := D) (ci := 0) (C := R_F) (T := T_F) (N := 8) hx hb hts (fun w h => kT w (i_F w h)) hown hK hP 0 rfl rfl 2 (by decide) (hts _ (kT _ wd_e9e83da4)) (fun _ h9 => h9) rfl d_F_fill_51 ?_
          refine va_getN (D := D) (ci := 3) (C := R_P) (T := T_P) (N := 2) hx hb hts (fun w h => kT w (i_P w h)) hown hK hP 3 rfl rfl 1 (by decide) (va_Nw.use rfl (hZ.2.2.1 _ wn_6d58f88b)) (fun _ h9 => h9) rfl d_F_fill_54 ?_
          refine lv_istore (lv' := [(4, .int (nI held)), (3, .int (nI (kdR sKind rTab x y))), (0, .ref (a 0)), (1, .int (nI (cN x))), (2, .int (nI (cN y)))]) hx hb d_F_fill_57 hl (by decide) rfl (fun ls hl => ?_)
          refine lv_aload_n hx hb d_F_fill_59 rfl (lv_at hl 2 rfl) ?_
          refine va_get (D := D) (ci := 0) (C := R_F) (T := T_F) (N := 8) hx hb hts (fun w h => kT w (i_F w h)) hown hK hP 0 rfl rfl 1 (by decide) (hts _ (kT _ wd_20c3854e)) (fun _ h9 => h9) rfl d_F_fill_60 ?_
          refine lv_iload_n hx hb d_F_fill_63 rfl (lv_at hl 3 rfl) ?_
          refine lv_iload_n hx hb d_F_fill_64 rfl (lv_at hl 4 rfl) ?_
          refine k_callS (c_slotOf l D a g tw sLen sKind sExt sMust rTab rFil rNum rLnk rLen rItm made pItm held dByt dLen bByt bRea bRec bItm bFld bOff bOfp kept wrt wid ent ver fAdr fTab adr tab lf (cN x) (cN y)  ) m_F_slotOf wd_26ede6b8 kT hx hb hml hown hts ⟨Nat.le_of_ble_eq_true rfl, Nat.le_of_ble_eq_true rfl⟩ ⟨Nat.le_of_ble_eq_true rfl, Nat.le_of_ble_eq_true rfl⟩ hK hP hD hS hA hZ hl.1 rfl rfl (Nat.le_of_ble_eq_true rfl) d_F_fill_65 (fun H locs hP hD hS => ?_)
          have hP : va_P D vwCl (Wd a g sLen sKind sExt sMust rTab rFil rNum rLnk rLen rItm made pItm held dByt dLen bByt bRea bRec bItm bFld bOff bOfp kept wrt wid ent ver fAdr fTab adr tab lf) H := hP
          have hD : va_D A (Wd a g sLen sKind sExt sMust rTab rFil rNum rLnk rLen rItm made pItm held dByt dLen bByt bRea bRec bItm bFld bOff bOfp kept wrt wid ent ver fAdr fTab adr tab lf) := hD
          refine W.eq (g2 := F0 m 68 ls [.int (nI ((cN x) * 6 + (cN y))), .ref (a 2)]) rfl ?_
          refine lv_aload_n hx hb d_F_fill_68 rfl (lv_at hl 2 rfl) ?_
          refine va_get (D := D) (ci := 0) (C := R_F) (T := T_F) (N := 8) hx hb hts (fun w h => kT w (i_F w h)) hown hK hP 0 rfl rfl 2 (by decide) (hts _ (kT _ wd_e9e83da4)) (fun _ h9 => h9) rfl d_F_fill_69 ?_
          refine lv_iload_n hx hb d_F_fill_72 rfl (lv_at hl 1 rfl) ?_
          refine lv_iconst (v := nI 4) hx hb d_F_fill_73 (by decide) ?_
          refine lv_icmp_ne (tgt := 82) hx hb d_F_fill_74 (by decide) (fun c_74 => ?_) (fun c_74 => ?_)
          · skip
            have c_74 := mt (nI_eq (by omega) (by omega)).mpr c_74
            refine lv_iconst (v := -1) hx hb d_F_fill_82 (by decide) ?_
            refine k_callV (c_Records_keepItems l D a g tw sLen sKind sExt sMust rTab rFil rNum rLnk rLen rItm made pItm held dByt dLen bByt bRea bRec bItm bFld bOff bOfp kept wrt wid ent ver fAdr fTab adr tab lf ((cN x) * 6 + (cN y)) (-1)  (by omega) (by omega)) m_R_keepItems wd_62c7d309 2 2 rfl rfl rfl kT hx hb hml hown hts ⟨Nat.le_of_ble_eq_true rfl, Nat.le_of_ble_eq_true rfl⟩ ⟨Nat.le_of_ble_eq_true rfl, Nat.le_of_ble_eq_true rfl⟩ hK hP hD hS hA hZ hl.1 rfl rfl (Nat.le_of_ble_eq_true rfl) d_F_fill_83 (fun H locs hP hD hS => ?_)
            have hP : va_P D vwCl (Wd a g sLen sKind sExt sMust rTab (va_up rFil ((cN x) * 6 + (cN y)) true) rNum rLnk (va_up rLen ((cN x) * 6 + (cN y)) held) (cpI rItm pItm (-1) (((cN x) * 6 + (cN y)) * 12) held) made pItm held dByt dLen bByt bRea bRec bItm bFld bOff bOfp kept wrt wid ent ver fAdr fTab adr tab lf) H := hP
            have hD : va_D A (Wd a g sLen sKind sExt sMust rTab (va_up rFil ((cN x) * 6 + (cN y)) true) rNum rLnk (va_up rLen ((cN x) * 6 + (cN y)) held) (cpI rItm pItm (-1) (((cN x) * 6 + (cN y)) * 12) held) made pItm held dByt dLen bByt bRea bRec bItm bFld bOff bOfp kept wrt wid ent ver fAdr fTab adr tab lf) := hD
            refine W.eq (g2 := F0 m 86 ls []) rfl ?_
            refine lv_aload_n hx hb d_F_fill_86 rfl (lv_at hl 2 rfl) ?_
            refine va_get (D := D) (ci := 0) (C := R_F) (T := T_F) (N := 8) hx hb hts (fun w h => kT w (i_F w h)) hown hK hP 0 rfl rfl 2 (by decide) (hts _ (kT _ wd_e9e83da4)) (fun _ h9 => h9) rfl d_F_fill_87 ?_
            refine lv_iconst (v := nI 0) hx hb d_F_fill_90 (by decide) ?_
            refine va_putN (D := D) (ci := 3) (ty := .int) (C := R_P) (T := T_P) (N := 2) hx hb hts (fun w h => kT w (i_P w h)) ty_P tyk_P nm_P hown hK hP hD hS 3 rfl rfl 1 (by decide) (va_Nw.use rfl (hZ.2.2.1 _ wn_6d58f88b)) (fun _ h9 => h9) rfl (by decide +kernel) rfl rfl (Nat.le_of_ble_eq_true rfl) d_F_fill_91 (fun H locs hP hD hS => ?_)
            have hP : va_P D vwCl (Wd a g sLen sKind sExt sMust rTab (va_up rFil ((cN x) * 6 + (cN y)) true) rNum rLnk (va_up rLen ((cN x) * 6 + (cN y)) held) (cpI rItm pItm (-1) (((cN x) * 6 + (cN y)) * 12) held) made pItm 0 dByt dLen bByt bRea bRec bItm bFld bOff bOfp kept wrt wid ent ver fAdr fTab adr tab lf) H := hP
            have hD : va_D A (Wd a g sLen sKind sExt sMust rTab (va_up rFil ((cN x) * 6 + (cN y)) true) rNum rLnk (va_up rLen ((cN x) * 6 + (cN y)) held) (cpI rItm pItm (-1) (((cN x) * 6 + (cN y)) * 12) held) made pItm 0 dByt dLen bByt bRea bRec bItm bFld bOff bOfp kept wrt wid ent ver fAdr fTab adr tab lf) := hD
            refine lv_iload hx hb d_F_fill_94 (lv_at hl 0 rfl) ?_
            refine W.widen (k := 2) (n := 12) (Nat.le_of_ble_eq_true rfl) (Nat.le_of_ble_eq_true rfl) ?_
            exact x_ret (k_iret hx hb hr hlocks hK hP hD hS (by simp [cdFill, hC_3, c_9, c_27, c_39, c_74] <;> omega) (rfl) (by first | rw [if_pos c_74] | rw [if_neg c_74]) d_F_fill_96)
          · skip
            have c_74 := (nI_eq (by omega) (by omega)).mp c_74
            refine lv_bipush (v := nI 127) hx hb d_F_fill_77 (by decide) ?_
            refine lv_goto (tgt := 83) hx hb d_F_fill_79 (by decide) ?_
            refine k_callV (c_Records_keepItems l D a g tw sLen sKind sExt sMust rTab rFil rNum rLnk rLen rItm made pItm held dByt dLen bByt bRea bRec bItm bFld bOff bOfp kept wrt wid ent ver fAdr fTab adr tab lf ((cN x) * 6 + (cN y)) (nI 127)  (by omega) (by omega)) m_R_keepItems wd_62c7d309 2 2 rfl rfl rfl kT hx hb hml hown hts ⟨Nat.le_of_ble_eq_true rfl, Nat.le_of_ble_eq_true rfl⟩ ⟨Nat.le_of_ble_eq_true rfl, Nat.le_of_ble_eq_true rfl⟩ hK hP hD hS hA hZ hl.1 rfl rfl (Nat.le_of_ble_eq_true rfl) d_F_fill_83 (fun H locs hP hD hS => ?_)
            have hP : va_P D vwCl (Wd a g sLen sKind sExt sMust rTab (va_up rFil ((cN x) * 6 + (cN y)) true) rNum rLnk (va_up rLen ((cN x) * 6 + (cN y)) held) (cpI rItm pItm (nI 127) (((cN x) * 6 + (cN y)) * 12) held) made pItm held dByt dLen bByt bRea bRec bItm bFld bOff bOfp kept wrt wid ent ver fAdr fTab adr tab lf) H := hP
            have hD : va_D A (Wd a g sLen sKind sExt sMust rTab (va_up rFil ((cN x) * 6 + (cN y)) true) rNum rLnk (va_up rLen ((cN x) * 6 + (cN y)) held) (cpI rItm pItm (nI 127) (((cN x) * 6 + (cN y)) * 12) held) made pItm held dByt dLen bByt bRea bRec bItm bFld bOff bOfp kept wrt wid ent ver fAdr fTab adr tab lf) := hD
            refine W.eq (g2 := F0 m 86 ls []) rfl ?_
            refine lv_aload_n hx hb d_F_fill_86 rfl (lv_at hl 2 rfl) ?_
            refine va_get (D := D) (ci := 0) (C := R_F) (T := T_F) (N := 8) hx hb hts (fun w h => kT w (i_F w h)) hown hK hP 0 rfl rfl 2 (by decide) (hts _ (kT _ wd_e9e83da4)) (fun _ h9 => h9) rfl d_F_fill_87 ?_
            refine lv_iconst (v := nI 0) hx hb d_F_fill_90 (by decide) ?_
            refine va_putN (D := D) (ci := 3) (ty := .int) (C := R_P) (T := T_P) (N := 2) hx hb hts (fun w h => kT w (i_P w h)) ty_P tyk_P nm_P hown hK hP hD hS 3 rfl rfl 1 (by decide) (va_Nw.use rfl (hZ.2.2.1 _ wn_6d58f88b)) (fun _ h9 => h9) rfl (by decide +kernel) rfl rfl (Nat.le_of_ble_eq_true rfl) d_F_fill_91 (fun H locs hP hD hS => ?_)
            have hP : va_P D vwCl (Wd a g sLen sKind sExt sMust rTab (va_up rFil ((cN x) * 6 + (cN y)) true) rNum rLnk (va_up rLen ((cN x) * 6 + (cN y)) held) (cpI rItm pItm (nI 127) (((cN x) * 6 + (cN y)) * 12) held) made pItm 0 dByt dLen bByt bRea bRec bItm bFld bOff bOfp kept wrt wid ent ver fAdr fTab adr tab lf) H := hP
            have hD : va_D A (Wd a g sLen sKind sExt sMust rTab (va_up rFil ((cN x) * 6 + (cN y)) true) rNum rLnk (va_up rLen ((cN x) * 6 + (cN y)) held) (cpI rItm pItm (nI 127) (((cN x) * 6 + (cN y)) * 12) held) made pItm 0 dByt dLen bByt bRea bRec bItm bFld bOff bOfp kept wrt wid ent ver fAdr fTab adr tab lf) := hD
            refine lv_iload hx hb d_F_fill_94 (lv_at hl 0 rfl) ?_
            refine W.widen (k := 2) (n := 12) (Nat.le_of_ble_eq_true rfl) (Nat.le_of_ble_eq_true rfl) ?_
            exact x_ret (k_iret hx hb hr hlocks hK hP hD hS (by simp [cdFill, hC_3, c_9, c_27, c_39, c_74] <;> omega) (rfl) (by first | rw [if_pos c_74] | rw [if_neg c_74]) d_F_fill_96)
        · skip
          have c_39 := mt (nI_leI (by omega) (by omega)).mpr c_39
          exact k_throw hl0 hx hb hown kT hts ⟨by decide, by decide⟩ wx_b1304150 hZ hex hlocks hK hP hD hS (hl.1.trans hml.symm) (Or.inr ⟨rfl, by simp [cdFill, c_9, c_27, c_39, hC_3] <;> omega⟩) (rfl) d_F_fill_42 d_F_fill_45 d_F_fill_46 d_F_fill_49 ⟨Nat.le_of_ble_eq_true rfl, Nat.le_of_ble_eq_true rfl⟩ ⟨Nat.le_of_ble_eq_true rfl, Nat.le_of_ble_eq_true rfl⟩ (Nat.le_of_ble_eq_true rfl) (Nat.le_of_ble_eq_true rfl)
    · skip
      have c_9 := mt (nI_eq (by omega) (by omega)).mpr c_9
      refine lv_iload_n hx hb d_F_fill_12 rfl (lv_at hl 0 rfl) ?_
      refine lv_iconst (v := nI 5) hx hb d_F_fill_13 (by decide) ?_
      refine lv_icmp_eq (tgt := 25) hx hb d_F_fill_14 (by decide) (fun c_14 => ?_) (fun c_14 => ?_)
      · skip
        have c_14 := (nI_eq (by omega) (by omega)).mp c_14
        refine lv_iload_n hx hb d_F_fill_25 rfl (lv_at hl 0 rfl) ?_
        refine lv_iconst (v := nI 5) hx hb d_F_fill_26 (by decide) ?_
        refine lv_icmp_ne (tgt := 50) hx hb d_F_fill_27 (by decide) (fun c_27 => ?_) (fun c_27 => ?_)
        · skip
          have c_27 := mt (nI_eq (by omega) (by omega)).mpr c_27
          refine lv_aload_n hx hb d_F_fill_50 rfl (lv_at hl 1 rfl) ?_
          refine va_get (D := D) (ci := 0) (C := R_F) (T := T_F) (N := 8) hx hb hts (fun w h => kT w (i_F w h)) hown hK hP 0 rfl rfl 2 (by decide) (hts _ (kT _ wd_e9e83da4)) (fun _ h9 => h9) rfl d_F_fill_51 ?_
          refine va_getN (D := D) (ci := 3) (C := R_P) (T := T_P) (N := 2) hx hb hts (fun w h => kT w (i_P w h)) hown hK hP 3 rfl rfl 1 (by decide) (va_Nw.use rfl (hZ.2.2.1 _ wn_6d58f88b)) (fun _ h9 => h9) rfl d_F_fill_54 ?_
          refine lv_istore (lv' := [(4, .int (nI held)), (3, .int (nI (kdR sKind rTab x y))), (0, .ref (a 0)), (1, .int (nI (cN x))), (2, .int (nI (cN y)))]) hx hb d_F_fill_57 hl (by decide) rfl (fun ls hl => ?_)
          refine lv_aload_n hx hb d_F_fill_59 rfl (lv_at hl 2 rfl) ?_
          refine va_get (D := D) (ci := 0) (C := R_F) (T := T_F) (N := 8) hx hb hts (fun w h => kT w (i_F w h)) hown hK hP 0 rfl rfl 1 (by decide) (hts _ (kT _ wd_20c3854e)) (fun _ h9 => h9) rfl d_F_fill_60 ?_
          refine lv_iload_n hx hb d_F_fill_63 rfl (lv_at hl 3 rfl) ?_
          refine lv_iload_n hx hb d_F_fill_64 rfl (lv_at hl 4 rfl) ?_
          refine k_callS (c_slotOf l D a g tw sLen sKind sExt sMust rTab rFil rNum rLnk rLen rItm made pItm held dByt dLen bByt bRea bRec bItm bFld bOff bOfp kept wrt wid ent ver fAdr fTab adr tab lf (cN x) (cN y)  ) m_F_slotOf wd_26ede6b8 kT hx hb hml hown hts ⟨Nat.le_of_ble_eq_true rfl, Nat.le_of_ble_eq_true rfl⟩ ⟨Nat.le_of_ble_eq_true rfl, Nat.le_of_ble_eq_true rfl⟩ hK hP hD hS hA hZ hl.1 rfl rfl (Nat.le_of_ble_eq_true rfl) d_F_fill_65 (fun H locs hP hD hS => ?_)
          have hP : va_P D vwCl (Wd a g sLen sKind sExt sMust rTab rFil rNum rLnk rLen rItm made pItm held dByt dLen bByt bRea bRec bItm bFld bOff bOfp kept wrt wid ent ver fAdr fTab adr tab lf) H := hP
          have hD : va_D A (Wd a g sLen sKind sExt sMust rTab rFil rNum rLnk rLen rItm made pItm held dByt dLen bByt bRea bRec bItm bFld bOff bOfp kept wrt wid ent ver fAdr fTab adr tab lf) := hD
          refine W.eq (g2 := F0 m 68 ls [.int (nI ((cN x) * 6 + (cN y))), .ref (a 2)]) rfl ?_
          refine lv_aload_n hx hb d_F_fill_68 rfl (lv_at hl 2 rfl) ?_
          refine va_get (D := D) (ci := 0) (C := R_F) (T := T_F) (N := 8) hx hb hts (fun w h => kT w (i_F w h)) hown hK hP 0 rfl rfl 2 (by decide) (hts _ (kT _ wd_e9e83da4)) (fun _ h9 => h9) rfl d_F_fill_69 ?_
          refine lv_iload_n hx hb d_F_fill_72 rfl (lv_at hl 1 rfl) ?_
          refine lv_iconst (v := nI 4) hx hb d_F_fill_73 (by decide) ?_
          refine lv_icmp_ne (tgt := 82) hx hb d_F_fill_74 (by decide) (fun c_74 => ?_) (fun c_74 => ?_)
          · skip
            have c_74 := mt (nI_eq (by omega) (by omega)).mpr c_74
            refine lv_iconst (v := -1) hx hb d_F_fill_82 (by decide) ?_
            refine k_callV (c_Records_keepItems l D a g tw sLen sKind sExt sMust rTab rFil rNum rLnk rLen rItm made pItm held dByt dLen bByt bRea bRec bItm bFld bOff bOfp kept wrt wid ent ver fAdr fTab adr tab lf ((cN x) * 6 + (cN y)) (-1)  (by omega) (by omega)) m_R_keepItems wd_62c7d309 2 2 rfl rfl rfl kT hx hb hml hown hts ⟨Nat.le_of_ble_eq_true rfl, Nat.le_of_ble_eq_true rfl⟩ ⟨Nat.le_of_ble_eq_true rfl, Nat.le_of_ble_eq_true rfl⟩ hK hP hD hS hA hZ hl.1 rfl rfl (Nat.le_of_ble_eq_true rfl) d_F_fill_83 (fun H locs hP hD hS => ?_)
            have hP : va_P D vwCl (Wd a g sLen sKind sExt sMust rTab (va_up rFil ((cN x) * 6 + (cN y)) true) rNum rLnk (va_up rLen ((cN x) * 6 + (cN y)) held) (cpI rItm pItm (-1) (((cN x) * 6 + (cN y)) * 12) held) made pItm held dByt dLen bByt bRea bRec bItm bFld bOff bOfp kept wrt wid ent ver fAdr fTab adr tab lf) H := hP
            have hD : va_D A (Wd a g sLen sKind sExt sMust rTab (va_up rFil ((cN x) * 6 + (cN y)) true) rNum rLnk (va_up rLen ((cN x) * 6 + (cN y)) held) (cpI rItm pItm (-1) (((cN x) * 6 + (cN y)) * 12) held) made pItm held dByt dLen bByt bRea bRec bItm bFld bOff bOfp kept wrt wid ent ver fAdr fTab adr tab lf) := hD
            refine W.eq (g2 := F0 m 86 ls []) rfl ?_
            refine lv_aload_n hx hb d_F_fill_86 rfl (lv_at hl 2 rfl) ?_
            refine va_get (D := D) (ci := 0) (C := R_F) (T := T_F) (N := 8) hx hb hts (fun w h => kT w (i_F w h)) hown hK hP 0 rfl rfl 2 (by decide) (hts _ (kT _ wd_e9e83da4)) (fun _ h9 => h9) rfl d_F_fill_87 ?_
            refine lv_iconst (v := nI 0) hx hb d_F_fill_90 (by decide) ?_
            refine va_putN (D := D) (ci := 3) (ty := .int) (C := R_P) (T := T_P) (N := 2) hx hb hts (fun w h => kT w (i_P w h)) ty_P tyk_P nm_P hown hK hP hD hS 3 rfl rfl 1 (by decide) (va_Nw.use rfl (hZ.2.2.1 _ wn_6d58f88b)) (fun _ h9 => h9) rfl (by decide +kernel) rfl rfl (Nat.le_of_ble_eq_true rfl) d_F_fill_91 (fun H locs hP hD hS => ?_)
            have hP : va_P D vwCl (Wd a g sLen sKind sExt sMust rTab (va_up rFil ((cN x) * 6 + (cN y)) true) rNum rLnk (va_up rLen ((cN x) * 6 + (cN y)) held) (cpI rItm pItm (-1) (((cN x) * 6 + (cN y)) * 12) held) made pItm 0 dByt dLen bByt bRea bRec bItm bFld bOff bOfp kept wrt wid ent ver fAdr fTab adr tab lf) H := hP
            have hD : va_D A (Wd a g sLen sKind sExt sMust rTab (va_up rFil ((cN x) * 6 + (cN y)) true) rNum rLnk (va_up rLen ((cN x) * 6 + (cN y)) held) (cpI rItm pItm (-1) (((cN x) * 6 + (cN y)) * 12) held) made pItm 0 dByt dLen bByt bRea bRec bItm bFld bOff bOfp kept wrt wid ent ver fAdr fTab adr tab lf) := hD
            refine lv_iload hx hb d_F_fill_94 (lv_at hl 0 rfl) ?_
            refine W.widen (k := 2) (n := 12) (Nat.le_of_ble_eq_true rfl) (Nat.le_of_ble_eq_true rfl) ?_
            exact x_ret (k_iret hx hb hr hlocks hK hP hD hS (by simp [cdFill, hC_3, c_9, c_14, c_27, c_74] <;> omega) (rfl) (by first | rw [if_pos c_74] | rw [if_neg c_74]) d_F_fill_96)
          · skip
            have c_74 := (nI_eq (by omega) (by omega)).mp c_74
            refine lv_bipush (v := nI 127) hx hb d_F_fill_77 (by decide) ?_
            refine lv_goto (tgt := 83) hx hb d_F_fill_79 (by decide) ?_
            refine k_callV (c_Records_keepItems l D a g tw sLen sKind sExt sMust rTab rFil rNum rLnk rLen rItm made pItm held dByt dLen bByt bRea bRec bItm bFld bOff bOfp kept wrt wid ent ver fAdr fTab adr tab lf ((cN x) * 6 + (cN y)) (nI 127)  (by omega) (by omega)) m_R_keepItems wd_62c7d309 2 2 rfl rfl rfl kT hx hb hml hown hts ⟨Nat.le_of_ble_eq_true rfl, Nat.le_of_ble_eq_true rfl⟩ ⟨Nat.le_of_ble_eq_true rfl, Nat.le_of_ble_eq_true rfl⟩ hK hP hD hS hA hZ hl.1 rfl rfl (Nat.le_of_ble_eq_true rfl) d_F_fill_83 (fun H locs hP hD hS => ?_)
            have hP : va_P D vwCl (Wd a g sLen sKind sExt sMust rTab (va_up rFil ((cN x) * 6 + (cN y)) true) rNum rLnk (va_up rLen ((cN x) * 6 + (cN y)) held) (cpI rItm pItm (nI 127) (((cN x) * 6 + (cN y)) * 12) held) made pItm held dByt dLen bByt bRea bRec bItm bFld bOff bOfp kept wrt wid ent ver fAdr fTab adr tab lf) H := hP
            have hD : va_D A (Wd a g sLen sKind sExt sMust rTab (va_up rFil ((cN x) * 6 + (cN y)) true) rNum rLnk (va_up rLen ((cN x) * 6 + (cN y)) held) (cpI rItm pItm (nI 127) (((cN x) * 6 + (cN y)) * 12) held) made pItm held dByt dLen bByt bRea bRec bItm bFld bOff bOfp kept wrt wid ent ver fAdr fTab adr tab lf) := hD
            refine W.eq (g2 := F0 m 86 ls []) rfl ?_
            refine lv_aload_n hx hb d_F_fill_86 rfl (lv_at hl 2 rfl) ?_
            refine va_get (D := D) (ci := 0) (C := R_F) (T := T_F) (N := 8) hx hb hts (fun w h => kT w (i_F w h)) hown hK hP 0 rfl rfl 2 (by decide) (hts _ (kT _ wd_e9e83da4)) (fun _ h9 => h9) rfl d_F_fill_87 ?_
            refine lv_iconst (v := nI 0) hx hb d_F_fill_90 (by decide) ?_
            refine va_putN (D := D) (ci := 3) (ty := .int) (C := R_P) (T := T_P) (N := 2) hx hb hts (fun w h => kT w (i_P w h)) ty_P tyk_P nm_P hown hK hP hD hS 3 rfl rfl 1 (by decide) (va_Nw.use rfl (hZ.2.2.1 _ wn_6d58f88b)) (fun _ h9 => h9) rfl (by decide +kernel) rfl rfl (Nat.le_of_ble_eq_true rfl) d_F_fill_91 (fun H locs hP hD hS => ?_)
            have hP : va_P D vwCl (Wd a g sLen sKind sExt sMust rTab (va_up rFil ((cN x) * 6 + (cN y)) true) rNum rLnk (va_up rLen ((cN x) * 6 + (cN y)) held) (cpI rItm pItm (nI 127) (((cN x) * 6 + (cN y)) * 12) held) made pItm 0 dByt dLen bByt bRea bRec bItm bFld bOff bOfp kept wrt wid ent ver fAdr fTab adr tab lf) H := hP
            have hD : va_D A (Wd a g sLen sKind sExt sMust rTab (va_up rFil ((cN x) * 6 + (cN y)) true) rNum rLnk (va_up rLen ((cN x) * 6 + (cN y)) held) (cpI rItm pItm (nI 127) (((cN x) * 6 + (cN y)) * 12) held) made pItm 0 dByt dLen bByt bRea bRec bItm bFld bOff bOfp kept wrt wid ent ver fAdr fTab adr tab lf) := hD
            refine lv_iload hx hb d_F_fill_94 (lv_at hl 0 rfl) ?_
            refine W.widen (k := 2) (n := 12) (Nat.le_of_ble_eq_true rfl) (Nat.le_of_ble_eq_true rfl) ?_
            exact x_ret (k_iret hx hb hr hlocks hK hP hD hS (by simp [cdFill, hC_3, c_9, c_14, c_27, c_74] <;> omega) (rfl) (by first | rw [if_pos c_74] | rw [if_neg c_74]) d_F_fill_96)
        · skip
          have c_27 := (nI_eq (by omega) (by omega)).mp c_27
          refine lv_aload_n hx hb d_F_fill_30 rfl (lv_at hl 1 rfl) ?_
          refine va_get (D := D) (ci := 0) (C := R_F) (T := T_F) (N := 8) hx hb hts (fun w h => kT w (i_F w h)) hown hK hP 0 rfl rfl 2 (by decide) (hts _ (kT _ wd_e9e83da4)) (fun _ h9 => h9) rfl d_F_fill_31 ?_
          refine va_getN (D := D) (ci := 3) (C := R_P) (T := T_P) (N := 2) hx hb hts (fun w h => kT w (i_P w h)) hown hK hP 3 rfl rfl 1 (by decide) (va_Nw.use rfl (hZ.2.2.1 _ wn_6d58f88b)) (fun _ h9 => h9) rfl d_F_fill_34 ?_
          refine lv_bipush (v := nI 8) hx hb d_F_fill_37 (by decide) ?_
          refine lv_icmp_le (tgt := 50) hx hb d_F_fill_39 (by decide) (fun c_39 => ?_) (fun c_39 => ?_)
          · skip
            have c_39 := (nI_leI (by omega) (by omega)).mp c_39
            refine lv_aload_n hx hb d_F_fill_50 rfl (lv_at hl 1 rfl) ?_
            refine va_get (D := D) (ci := 0) (C := R_F) (T := T_F) (N := 8) hx hb hts (fun w h => kT w (i_F w h)) hown hK hP 0 rfl rfl 2 (by decide) (hts _ (kT _ wd_e9e83da4)) (fun _ h9 => h9) rfl d_F_fill_51 ?_
            refine va_getN (D := D) (ci := 3) (C := R_P) (T := T_P) (N := 2) hx hb hts (fun w h => kT w (i_P w h)) hown hK hP 3 rfl rfl 1 (by decide) (va_Nw.use rfl (hZ.2.2.1 _ wn_6d58f88b)) (fun _ h9 => h9) rfl d_F_fill_54 ?_
            refine lv_istore (lv' := [(4, .int (nI held)), (3, .int (nI (kdR sKind rTab x y))), (0, .ref (a 0)), (1, .int (nI (cN x))), (2, .int (nI (cN y)))]) hx hb d_F_fill_57 hl (by decide) rfl (fun ls hl => ?_)
            refine lv_aload_n hx hb d_F_fill_59 rfl (lv_at hl 2 rfl) ?_
            refine va_get (D := D) (ci := 0) (C := R_F) (T := T_F) (N := 8) hx hb hts (fun w h => kT w (i_F w h)) hown hK hP 0 rfl rfl 1 (by decide) (hts _ (kT _ wd_20c3854e)) (fun _ h9 => h9) rfl d_F_fill_60 ?_
            refine lv_iload_n hx hb d_F_fill_63 rfl (lv_at hl 3 rfl) ?_
            refine lv_iload_n hx hb d_F_fill_64 rfl (lv_at hl 4 rfl) ?_
            refine k_callS (c_slotOf l D a g tw sLen sKind sExt sMust rTab rFil rNum rLnk rLen rItm made pItm held dByt dLen bByt bRea bRec bItm bFld bOff bOfp kept wrt wid ent ver fAdr fTab adr tab lf (cN x) (cN y)  ) m_F_slotOf wd_26ede6b8 kT hx hb hml hown hts ⟨Nat.le_of_ble_eq_true rfl, Nat.le_of_ble_eq_true rfl⟩ ⟨Nat.le_of_ble_eq_true rfl, Nat.le_of_ble_eq_true rfl⟩ hK hP hD hS hA hZ hl.1 rfl rfl (Nat.le_of_ble_eq_true rfl) d_F_fill_65 (fun H locs hP hD hS => ?_)
            have hP : va_P D vwCl (Wd a g sLen sKind sExt sMust rTab rFil rNum rLnk rLen rItm made pItm held dByt dLen bByt bRea bRec bItm bFld bOff bOfp kept wrt wid ent ver fAdr fTab adr tab lf) H := hP
            have hD : va_D A (Wd a g sLen sKind sExt sMust rTab rFil rNum rLnk rLen rItm made pItm held dByt dLen bByt bRea bRec bItm bFld bOff bOfp kept wrt wid ent ver fAdr fTab adr tab lf) := hD
            refine W.eq (g2 := F0 m 68 ls [.int (nI ((cN x) * 6 + (cN y))), .ref (a 2)]) rfl ?_
            refine lv_aload_n hx hb d_F_fill_68 rfl (lv_at hl 2 rfl) ?_
            refine va_get (D := D) (ci := 0) (C := R_F) (T := T_F) (N := 8) hx hb hts (fun w h => kT w (i_F w h)) hown hK hP 0 rfl rfl 2 (by decide) (hts _ (kT _ wd_e9e83da4)) (fun _ h9 => h9) rfl d_F_fill_69 ?_
            refine lv_iload_n hx hb d_F_fill_72 rfl (lv_at hl 1 rfl) ?_
            refine lv_iconst (v := nI 4) hx hb d_F_fill_73 (by decide) ?_
            refine lv_icmp_ne (tgt := 82) hx hb d_F_fill_74 (by decide) (fun c_74 => ?_) (fun c_74 => ?_)
            · skip
              have c_74 := mt (nI_eq (by omega) (by omega)).mpr c_74
              refine lv_iconst (v := -1) hx hb d_F_fill_82 (by decide) ?_
              refine k_callV (c_Records_keepItems l D a g tw sLen sKind sExt sMust rTab rFil rNum rLnk rLen rItm made pItm held dByt dLen bByt bRea bRec bItm bFld bOff bOfp kept wrt wid ent ver fAdr fTab adr tab lf ((cN x) * 6 + (cN y)) (-1)  (by omega) (by omega)) m_R_keepItems wd_62c7d309 2 2 rfl rfl rfl kT hx hb hml hown hts ⟨Nat.le_of_ble_eq_true rfl, Nat.le_of_ble_eq_true rfl⟩ ⟨Nat.le_of_ble_eq_true rfl, Nat.le_of_ble_eq_true rfl⟩ hK hP hD hS hA hZ hl.1 rfl rfl (Nat.le_of_ble_eq_true rfl) d_F_fill_83 (fun H locs hP hD hS => ?_)
              have hP : va_P D vwCl (Wd a g sLen sKind sExt sMust rTab (va_up rFil ((cN x) * 6 + (cN y)) true) rNum rLnk (va_up rLen ((cN x) * 6 + (cN y)) held) (cpI rItm pItm (-1) (((cN x) * 6 + (cN y)) * 12) held) made pItm held dByt dLen bByt bRea bRec bItm bFld bOff bOfp kept wrt wid ent ver fAdr fTab adr tab lf) H := hP
              have hD : va_D A (Wd a g sLen sKind sExt sMust rTab (va_up rFil ((cN x) * 6 + (cN y)) true) rNum rLnk (va_up rLen ((cN x) * 6 + (cN y)) held) (cpI rItm pItm (-1) (((cN x) * 6 + (cN y)) * 12) held) made pItm held dByt dLen bByt bRea bRec bItm bFld bOff bOfp kept wrt wid ent ver fAdr fTab adr tab lf) := hD
              refine W.eq (g2 := F0 m 86 ls []) rfl ?_
              refine lv_aload_n hx hb d_F_fill_86 rfl (lv_at hl 2 rfl) ?_
              refine va_get (D := D) (ci := 0) (C := R_F) (T := T_F) (N := 8) hx hb hts (fun w h => kT w (i_F w h)) hown hK hP 0 rfl rfl 2 (by decide) (hts _ (kT _ wd_e9e83da4)) (fun _ h9 => h9) rfl d_F_fill_87 ?_
              refine lv_iconst (v := nI 0) hx hb d_F_fill_90 (by decide) ?_
              refine va_putN (D := D) (ci := 3) (ty := .int) (C := R_P) (T := T_P) (N := 2) hx hb hts (fun w h => kT w (i_P w h)) ty_P tyk_P nm_P hown hK hP hD hS 3 rfl rfl 1 (by decide) (va_Nw.use rfl (hZ.2.2.1 _ wn_6d58f88b)) (fun _ h9 => h9) rfl (by decide +kernel) rfl rfl (Nat.le_of_ble_eq_true rfl) d_F_fill_91 (fun H locs hP hD hS => ?_)
              have hP : va_P D vwCl (Wd a g sLen sKind sExt sMust rTab (va_up rFil ((cN x) * 6 + (cN y)) true) rNum rLnk (va_up rLen ((cN x) * 6 + (cN y)) held) (cpI rItm pItm (-1) (((cN x) * 6 + (cN y)) * 12) held) made pItm 0 dByt dLen bByt bRea bRec bItm bFld bOff bOfp kept wrt wid ent ver fAdr fTab adr tab lf) H := hP
              have hD : va_D A (Wd a g sLen sKind sExt sMust rTab (va_up rFil ((cN x) * 6 + (cN y)) true) rNum rLnk (va_up rLen ((cN x) * 6 + (cN y)) held) (cpI rItm pItm (-1) (((cN x) * 6 + (cN y)) * 12) held) made pItm 0 dByt dLen bByt bRea bRec bItm bFld bOff bOfp kept wrt wid ent ver fAdr fTab adr tab lf) := hD
              refine lv_iload hx hb d_F_fill_94 (lv_at hl 0 rfl) ?_
              refine W.widen (k := 2) (n := 12) (Nat.le_of_ble_eq_true rfl) (Nat.le_of_ble_eq_true rfl) ?_
              exact x_ret (k_iret hx hb hr hlocks hK hP hD hS (by simp [cdFill, hC_3, c_9, c_14, c_27, c_39, c_74] <;> omega) (rfl) (by first | rw [if_pos c_74] | rw [if_neg c_74]) d_F_fill_96)
            · skip
              have c_74 := (nI_eq (by omega) (by omega)).mp c_74
              refine lv_bipush (v := nI 127) hx hb d_F_fill_77 (by decide) ?_
              refine lv_goto (tgt := 83) hx hb d_F_fill_79 (by decide) ?_
              refine k_callV (c_Records_keepItems l D a g tw sLen sKind sExt sMust rTab rFil rNum rLnk rLen rItm made pItm held dByt dLen bByt bRea bRec bItm bFld bOff bOfp kept wrt wid ent ver fAdr fTab adr tab lf ((cN x) * 6 + (cN y)) (nI 127)  (by omega) (by omega)) m_R_keepItems wd_62c7d309 2 2 rfl rfl rfl kT hx hb hml hown hts ⟨Nat.le_of_ble_eq_true rfl, Nat.le_of_ble_eq_true rfl⟩ ⟨Nat.le_of_ble_eq_true rfl, Nat.le_of_ble_eq_true rfl⟩ hK hP hD hS hA hZ hl.1 rfl rfl (Nat.le_of_ble_eq_true rfl) d_F_fill_83 (fun H locs hP hD hS => ?_)
              have hP : va_P D vwCl (Wd a g sLen sKind sExt sMust rTab (va_up rFil ((cN x) * 6 + (cN y)) true) rNum rLnk (va_up rLen ((cN x) * 6 + (cN y)) held) (cpI rItm pItm (nI 127) (((cN x) * 6 + (cN y)) * 12) held) made pItm held dByt dLen bByt bRea bRec bItm bFld bOff bOfp kept wrt wid ent ver fAdr fTab adr tab lf) H := hP
              have hD : va_D A (Wd a g sLen sKind sExt sMust rTab (va_up rFil ((cN x) * 6 + (cN y)) true) rNum rLnk (va_up rLen ((cN x) * 6 + (cN y)) held) (cpI rItm pItm (nI 127) (((cN x) * 6 + (cN y)) * 12) held) made pItm held dByt dLen bByt bRea bRec bItm bFld bOff bOfp kept wrt wid ent ver fAdr fTab adr tab lf) := hD
              refine W.eq (g2 := F0 m 86 ls []) rfl ?_
              refine lv_aload_n hx hb d_F_fill_86 rfl (lv_at hl 2 rfl) ?_
              refine va_get (D := D) (ci := 0) (C := R_F) (T := T_F) (N := 8) hx hb hts (fun w h => kT w (i_F w h)) hown hK hP 0 rfl rfl 2 (by decide) (hts _ (kT _ wd_e9e83da4)) (fun _ h9 => h9) rfl d_F_fill_87 ?_
              refine lv_iconst (v := nI 0) hx hb d_F_fill_90 (by decide) ?_
              refine va_putN (D := D) (ci := 3) (ty := .int) (C := R_P) (T := T_P) (N := 2) hx hb hts (fun w h => kT w (i_P w h)) ty_P tyk_P nm_P hown hK hP hD hS 3 rfl rfl 1 (by decide) (va_Nw.use rfl (hZ.2.2.1 _ wn_6d58f88b)) (fun _ h9 => h9) rfl (by decide +kernel) rfl rfl (Nat.le_of_ble_eq_true rfl) d_F_fill_91 (fun H locs hP hD hS => ?_)
              have hP : va_P D vwCl (Wd a g sLen sKind sExt sMust rTab (va_up rFil ((cN x) * 6 + (cN y)) true) rNum rLnk (va_up rLen ((cN x) * 6 + (cN y)) held) (cpI rItm pItm (nI 127) (((cN x) * 6 + (cN y)) * 12) held) made pItm 0 dByt dLen bByt bRea bRec bItm bFld bOff bOfp kept wrt wid ent ver fAdr fTab adr tab lf) H := hP
              have hD : va_D A (Wd a g sLen sKind sExt sMust rTab (va_up rFil ((cN x) * 6 + (cN y)) true) rNum rLnk (va_up rLen ((cN x) * 6 + (cN y)) held) (cpI rItm pItm (nI 127) (((cN x) * 6 + (cN y)) * 12) held) made pItm 0 dByt dLen bByt bRea bRec bItm bFld bOff bOfp kept wrt wid ent ver fAdr fTab adr tab lf) := hD
              refine lv_iload hx hb d_F_fill_94 (lv_at hl 0 rfl) ?_
              refine W.widen (k := 2) (n := 12) (Nat.le_of_ble_eq_true rfl) (Nat.le_of_ble_eq_true rfl) ?_
              exact x_ret (k_iret hx hb hr hlocks hK hP hD hS (by simp [cdFill, hC_3, c_9, c_14, c_27, c_39, c_74] <;> omega) (rfl) (by first | rw [if_pos c_74] | rw [if_neg c_74]) d_F_fill_96)
          · skip
            have c_39 := mt (nI_leI (by omega) (by omega)).mpr c_39
            exact k_throw hl0 hx hb hown kT hts ⟨by decide, by decide⟩ wx_b1304150 hZ hex hlocks hK hP hD hS (hl.1.trans hml.symm) (Or.inr ⟨rfl, by simp [cdFill, c_9, c_14, c_27, c_39, hC_3] <;> omega⟩) (rfl) d_F_fill_42 d_F_fill_45 d_F_fill_46 d_F_fill_49 ⟨Nat.le_of_ble_eq_true rfl, Nat.le_of_ble_eq_true rfl⟩ ⟨Nat.le_of_ble_eq_true rfl, Nat.le_of_ble_eq_true rfl⟩ (Nat.le_of_ble_eq_true rfl) (Nat.le_of_ble_eq_true rfl)
      · skip
        have c_14 := mt (nI_eq (by omega) (by omega)).mpr c_14
        exact k_throw hl0 hx hb hown kT hts ⟨by decide, by decide⟩ wx_b1304150 hZ hex hlocks hK hP hD hS (hl.1.trans hml.symm) (Or.inr (⟨rfl, by simp [cdFill, c_9, c_14, hC_3]⟩)) (rfl) d_F_fill_17 d_F_fill_20 d_F_fill_21 d_F_fill_24 ⟨Nat.le_of_ble_eq_true rfl, Nat.le_of_ble_eq_true rfl⟩ ⟨Nat.le_of_ble_eq_true rfl, Nat.le_of_ble_eq_true rfl⟩ (Nat.le_of_ble_eq_true rfl) (Nat.le_of_ble_eq_true rfl)
set_option maxHeartbeats 4000000 in
set_option maxRecDepth 100000 in
theorem c_link (l : Launch) (hl0 : l.stackTraces = false) (D : va_G) (a : Nat → Nat) (g : Nat → ClassId) (tw : Nat) (sLen sKind : Nat → Nat) (sExt : Nat → Int32) (sMust : Nat → Bool) (rTab : Nat → Nat) (rFil : Nat → Bool) (rNum : Nat → Int64) (rLnk rLen : Nat → Nat) (rItm : Nat → Int32) (made : Nat) (pItm : Nat → Int32) (held : Nat) (dByt : Nat → Nat) (dLen : Nat) (bByt : Nat → Nat) (bRea : Nat → Bool) (bRec bItm bFld bOff bOfp : Nat → Nat) (kept wrt wid ent : Nat) (ver : Bool) (fAdr fTab adr tab : Nat) (lf : Int32) (x : Int32) (y : Int32) (z : Int32)  (hm : made ≤ 16) (hT : ∀ r, r < made → rTab r < 4) (hL : ∀ t, t < 4 → sLen t ≤ 6) (hk : ∀ j, sKind j < 7) : kMX l y_F_link b_F_link 5 (some .int) ({ frames := 7, cells := 2, slots := 12, locals := 111 }) D vwCl (WdT g) tw [.ref (a 0), .int x, .int y, .int z] (Wd a g sLen sKind sExt sMust rTab rFil rNum rLnk rLen rItm made pItm held dByt dLen bByt bRea bRec bItm bFld bOff bOfp kept wrt wid ent ver fAdr fTab adr tab lf) (cdLink sLen sKind sExt rTab made x y z = 0) (some (.int (nI 1))) (Wd a g sLen sKind sExt sMust rTab (va_up rFil (cN x * 6 + cN y) true) rNum (va_up rLnk (cN x * 6 + cN y) (cN z)) rLen rItm made pItm held dByt dLen bByt bRea bRec bItm bFld bOff bOfp kept wrt wid ent ver fAdr fTab adr tab lf) (fun E => (E = xNS ∧ cdLink sLen sKind sExt rTab made x y z = 1) ∨ (E = xUO ∧ cdLink sLen sKind sExt rTab made x y z = 2)) (Wd a g sLen sKind sExt sMust rTab rFil rNum rLnk rLen rItm made pItm held dByt dLen bByt bRea bRec bItm bFld bOff bOfp kept wrt wid ent ver fAdr fTab adr tab lf) := by
  refine k_ofX (by decide) (Nat.le_of_ble_eq_true rfl) ?_
  intro p e s m below meth c A ls hx hb hr hlocks hml hex hts hown hA hP hK hD hS hZ hl
  have hl : lv_has ls 5 [(0, .ref (a 0)), (1, .int x), (2, .int y), (3, .int z)] := hl
  refine lv_aload_n hx hb d_F_link_0 rfl (lv_at hl 0 rfl) ?_
  refine lv_iload_n hx hb d_F_link_1 rfl (lv_at hl 1 rfl) ?_
  refine lv_iload_n hx hb d_F_link_2 rfl (lv_at hl 2 rfl) ?_
  refine k_callVX (c_kindInRecord l hl0 D a g tw sLen sKind sExt sMust rTab rFil rNum rLnk rLen rItm made pItm held dByt dLen bByt bRea bRec bItm bFld bOff bOfp kept wrt wid ent ver fAdr fTab adr tab lf x y  hm hT hL) m_F_kindInRecord wd_2ea462ee 0 0 rfl rfl rfl kT hx hb hml hown hts ⟨Nat.le_of_ble_eq_true rfl, Nat.le_of_ble_eq_true rfl⟩ ⟨Nat.le_of_ble_eq_true rfl, Nat.le_of_ble_eq_true rfl⟩ hK hP hD hS hA hZ hl.1 rfl rfl (Nat.le_of_ble_eq_true rfl) d_F_link_3 (fun E ce q9 H locs hE hP hD hS hq9 hcv hcl => ?_) (fun H locs hC hP hD hS => ?_)
  · skip
    have hP : va_P D vwCl (Wd a g sLen sKind sExt sMust rTab rFil rNum rLnk rLen rItm made pItm held dByt dLen bByt bRea bRec bItm bFld bOff bOfp kept wrt wid ent ver fAdr fTab adr tab lf) H := hP
    have hD : va_D A (Wd a g sLen sKind sExt sMust rTab rFil rNum rLnk rLen rItm made pItm held dByt dLen bByt bRea bRec bItm bFld bOff bOfp kept wrt wid ent ver fAdr fTab adr tab lf) := hD
    exact k_out hex hlocks hK hP hD hS (by exact Or.inl ⟨hE.1, by simp [cdLink, hE.2]⟩) (by rfl) hq9 hcv hcl (Nat.le_of_ble_eq_true rfl) (Nat.le_of_ble_eq_true rfl)
  · skip
    have hC_3 : inR sLen rTab made x y = true := hC
    have hP : va_P D vwCl (Wd a g sLen sKind sExt sMust rTab rFil rNum rLnk rLen rItm made pItm held dByt dLen bByt bRea bRec bItm bFld bOff bOfp kept wrt wid ent ver fAdr fTab adr tab lf) H := hP
    have hD : va_D A (Wd a g sLen sKind sExt sMust rTab rFil rNum rLnk rLen rItm made pItm held dByt dLen bByt bRea bRec bItm bFld bOff bOfp kept wrt wid ent ver fAdr fTab adr tab lf) := hD
    refine W.eq (g2 := F0 m 6 ls [.int (nI (kdR sKind rTab x y))]) rfl ?_
    obtain ⟨n_x, b_x⟩ := (inR_spec hm hT hL hC_3).1
    have hl : lv_has ls 5 [(0, .ref (a 0)), (1, .int (nI (cN x))), (2, .int y), (3, .int z)] := by rw [← n_x]; exact hl
    obtain ⟨n_y, b_y⟩ := (inR_spec hm hT hL hC_3).2.1
    have hl : lv_has ls 5 [(0, .ref (a 0)), (1, .int (nI (cN x))), (2, .int (nI (cN y))), (3, .int z)] := by rw [← n_y]; exact hl
    have hT1 := (inR_spec hm hT hL hC_3).2.2.1
    have hL1 := (inR_spec hm hT hL hC_3).2.2.2
    have hk1 : kdR sKind rTab x y < 7 := hk _
    refine lv_istore (lv' := [(4, .int (nI (kdR sKind rTab x y))), (0, .ref (a 0)), (1, .int (nI (cN x))), (2, .int (nI (cN y))), (3, .int z)]) hx hb d_F_link_6 hl (by decide) rfl (fun ls hl => ?_)
    refine lv_aload_n hx hb d_F_link_8 rfl (lv_at hl 1 rfl) ?_
    refine va_get (D := D) (ci := 0) (C := R_F) (T := T_F) (N := 8) hx hb hts (fun w h => kT w (i_F w h)) hown hK hP 0 rfl rfl 1 (by decide) (hts _ (kT _ wd_20c3854e)) (fun _ h9 => h9) rfl d_F_link_9 ?_
    refine lv_iload_n hx hb d_F_link_12 rfl (lv_at hl 4 rfl) ?_
    refine k_callV (c_Records_holds l D a g tw sLen sKind sExt sMust rTab rFil rNum rLnk rLen rItm made pItm held dByt dLen bByt bRea bRec bItm bFld bOff bOfp kept wrt wid ent ver fAdr fTab adr tab lf z  ) m_R_holds wd_bd0a1414 2 2 rfl rfl rfl kT hx hb hml hown hts ⟨Nat.le_of_ble_eq_true rfl, Nat.le_of_ble_eq_true rfl⟩ ⟨Nat.le_of_ble_eq_true rfl, Nat.le_of_ble_eq_true rfl⟩ hK hP hD hS hA hZ hl.1 rfl rfl (Nat.le_of_ble_eq_true rfl) d_F_link_13 (fun H locs hP hD hS => ?_)
    have hP : va_P D vwCl (Wd a g sLen sKind sExt sMust rTab rFil rNum rLnk rLen rItm made pItm held dByt dLen bByt bRea bRec bItm bFld bOff bOfp kept wrt wid ent ver fAdr fTab adr tab lf) H := hP
    have hD : va_D A (Wd a g sLen sKind sExt sMust rTab rFil rNum rLnk rLen rItm made pItm held dByt dLen bByt bRea bRec bItm bFld bOff bOfp kept wrt wid ent ver fAdr fTab adr tab lf) := hD
    refine W.eq (g2 := F0 m 16 ls [.int (bI (hasF made z))]) rfl ?_
    refine lv_if_ne (tgt := 27) hx hb d_F_link_16 (by decide) (fun c_16 => ?_) (fun c_16 => ?_)
    · skip
      have c_16 := mt (bI_0).mpr c_16
      have c_16 := eq_true_of_ne_false c_16
      obtain ⟨n_z, b_z⟩ := hasF_spec (by omega) c_16
      have hl : lv_has ls 5 [(4, .int (nI (kdR sKind rTab x y))), (0, .ref (a 0)), (1, .int (nI (cN x))), (2, .int (nI (cN y))), (3, .int (nI (cN z)))] := by rw [← n_z]; exact hl
      have hTz := hT _ b_z
      refine lv_iload hx hb d_F_link_27 (lv_at hl 0 rfl) ?_
      refine lv_bipush (v := nI 6) hx hb d_F_link_29 (by decide) ?_
      refine lv_icmp_ne (tgt := 39) hx hb d_F_link_31 (by decide) (fun c_31 => ?_) (fun c_31 => ?_)
      · skip
        have c_31 := mt (nI_eq (by omega) (by omega)).mpr c_31
        exact k_throw hl0 hx hb hown kT hts ⟨by decide, by decide⟩ wx_b1304150 hZ hex hlocks hK hP hD hS (hl.1.trans hml.symm) (Or.inr (⟨rfl, by simp [cdLink, c_16, c_31, hC_3]⟩)) (rfl) d_F_link_39 d_F_link_42 d_F_link_43 d_F_link_46 ⟨Nat.le_of_ble_eq_true rfl, Nat.le_of_ble_eq_true rfl⟩ ⟨Nat.le_of_ble_eq_true rfl, Nat.le_of_ble_eq_true rfl⟩ (Nat.le_of_ble_eq_true rfl) (Nat.le_of_ble_eq_true rfl)
      · skip
        have c_31 := (nI_eq (by omega) (by omega)).mp c_31
        refine lv_iload_n hx hb d_F_link_34 rfl (lv_at hl 4 rfl) ?_
        refine lv_iload_n hx hb d_F_link_35 rfl (lv_at hl 2 rfl) ?_
        refine lv_icmp_lt (tgt := 47) hx hb d_F_link_36 (by decide) (fun c_36 => ?_) (fun c_36 => ?_)
        · skip
          have c_36 := (nI_ltI (by omega) (by omega)).mp c_36
          refine lv_aload_n hx hb d_F_link_47 rfl (lv_at hl 1 rfl) ?_
          refine va_get (D := D) (ci := 0) (C := R_F) (T := T_F) (N := 8) hx hb hts (fun w h => kT w (i_F w h)) hown hK hP 0 rfl rfl 1 (by decide) (hts _ (kT _ wd_20c3854e)) (fun _ h9 => h9) rfl d_F_link_48 ?_
          refine lv_iload_n hx hb d_F_link_51 rfl (lv_at hl 4 rfl) ?_
          refine k_callV (c_Records_tableOf l D a g tw sLen sKind sExt sMust rTab rFil rNum rLnk rLen rItm made pItm held dByt dLen bByt bRea bRec bItm bFld bOff bOfp kept wrt wid ent ver fAdr fTab adr tab lf (cN z)  (by omega)) m_R_tableOf wd_611a78bf 2 2 rfl rfl rfl kT hx hb hml hown hts ⟨Nat.le_of_ble_eq_true rfl, Nat.le_of_ble_eq_true rfl⟩ ⟨Nat.le_of_ble_eq_true rfl, Nat.le_of_ble_eq_true rfl⟩ hK hP hD hS hA hZ hl.1 rfl rfl (Nat.le_of_ble_eq_true rfl) d_F_link_52 (fun H locs hP hD hS => ?_)
          have hP : va_P D vwCl (Wd a g sLen sKind sExt sMust rTab rFil rNum rLnk rLen rItm made pItm held dByt dLen bByt bRea bRec bItm bFld bOff bOfp kept wrt wid ent ver fAdr fTab adr tab lf) H := hP
          have hD : va_D A (Wd a g sLen sKind sExt sMust rTab rFil rNum rLnk rLen rItm made pItm held dByt dLen bByt bRea bRec bItm bFld bOff bOfp kept wrt wid ent ver fAdr fTab adr tab lf) := hD
          refine W.eq (g2 := F0 m 55 ls [.int (nI (rTab (cN z)))]) rfl ?_
          refine lv_aload_n hx hb d_F_link_55 rfl (lv_at hl 1 rfl) ?_
          refine va_get (D := D) (ci := 0) (C := R_F) (T := T_F) (N := 8) hx hb hts (fun w h => kT w (i_F w h)) hown hK hP 0 rfl rfl 0 (by decide) (hts _ (kT _ wd_61505274)) (fun _ h9 => h9) rfl d_F_link_56 ?_
          refine lv_aload_n hx hb d_F_link_59 rfl (lv_at hl 1 rfl) ?_
          refine va_get (D := D) (ci := 0) (C := R_F) (T := T_F) (N := 8) hx hb hts (fun w h => kT w (i_F w h)) hown hK hP 0 rfl rfl 1 (by decide) (hts _ (kT _ wd_20c3854e)) (fun _ h9 => h9) rfl d_F_link_60 ?_
          refine lv_iload_n hx hb d_F_link_63 rfl (lv_at hl 2 rfl) ?_
          refine k_callV (c_Records_tableOf l D a g tw sLen sKind sExt sMust rTab rFil rNum rLnk rLen rItm made pItm held dByt dLen bByt bRea bRec bItm bFld bOff bOfp kept wrt wid ent ver fAdr fTab adr tab lf (cN x)  (by omega)) m_R_tableOf wd_611a78bf 2 2 rfl rfl rfl kT hx hb hml hown hts ⟨Nat.le_of_ble_eq_true rfl, Nat.le_of_ble_eq_true rfl⟩ ⟨Nat.le_of_ble_eq_true rfl, Nat.le_of_ble_eq_true rfl⟩ hK hP hD hS hA hZ hl.1 rfl rfl (Nat.le_of_ble_eq_true rfl) d_F_link_64 (fun H locs hP hD hS => ?_)
          have hP : va_P D vwCl (Wd a g sLen sKind sExt sMust rTab rFil rNum rLnk rLen rItm made pItm held dByt dLen bByt bRea bRec bItm bFld bOff bOfp kept wrt wid ent ver fAdr fTab adr tab lf) H := hP
          have hD : va_D A (Wd a g sLen sKind sExt sMust rTab rFil rNum rLnk rLen rItm made pItm held dByt dLen bByt bRea bRec bItm bFld bOff bOfp kept wrt wid ent ver fAdr fTab adr tab lf) := hD
          refine W.eq (g2 := F0 m 67 ls [.int (nI (rTab (cN x))), .ref (a 1), .int (nI (rTab (cN z)))]) rfl ?_
          refine lv_iload_n hx hb d_F_link_67 rfl (lv_at hl 3 rfl) ?_
          refine k_callV (c_Schema_extraOf l D a g tw sLen sKind sExt sMust rTab rFil rNum rLnk rLen rItm made pItm held dByt dLen bByt bRea bRec bItm bFld bOff bOfp kept wrt wid ent ver fAdr fTab adr tab lf (rTab (cN x)) (cN y)  (by omega) (by omega)) m_S_extraOf wd_c41b2e2f 1 1 rfl rfl rfl kT hx hb hml hown hts ⟨Nat.le_of_ble_eq_true rfl, Nat.le_of_ble_eq_true rfl⟩ ⟨Nat.le_of_ble_eq_true rfl, Nat.le_of_ble_eq_true rfl⟩ hK hP hD hS hA hZ hl.1 rfl rfl (Nat.le_of_ble_eq_true rfl) d_F_link_68 (fun H locs hP hD hS => ?_)
          have hP : va_P D vwCl (Wd a g sLen sKind sExt sMust rTab rFil rNum rLnk rLen rItm made pItm held dByt dLen bByt bRea bRec bItm bFld bOff bOfp kept wrt wid ent ver fAdr fTab adr tab lf) H := hP
          have hD : va_D A (Wd a g sLen sKind sExt sMust rTab rFil rNum rLnk rLen rItm made pItm held dByt dLen bByt bRea bRec bItm bFld bOff bOfp kept wrt wid ent ver fAdr fTab adr tab lf) := hD
          refine W.eq (g2 := F0 m 71 ls [.int (sExt ((rTab (cN x)) * 6 + (cN y))), .int (nI (rTab (cN z)))]) rfl ?_
          refine lv_icmp_eq (tgt := 82) hx hb d_F_link_71 (by decide) (fun c_71 => ?_) (fun c_71 => ?_)
          · skip
            refine lv_aload_n hx hb d_F_link_82 rfl (lv_at hl 1 rfl) ?_
            refine va_get (D := D) (ci := 0) (C := R_F) (T := T_F) (N := 8) hx hb hts (fun w h => kT w (i_F w h)) hown hK hP 0 rfl rfl 1 (by decide) (hts _ (kT _ wd_20c3854e)) (fun _ h9 => h9) rfl d_F_link_83 ?_
            refine lv_iload_n hx hb d_F_link_86 rfl (lv_at hl 2 rfl) ?_
            refine lv_iload_n hx hb d_F_link_87 rfl (lv_at hl 3 rfl) ?_
            refine k_callS (c_slotOf l D a g tw sLen sKind sExt sMust rTab rFil rNum rLnk rLen rItm made pItm held dByt dLen bByt bRea bRec bItm bFld bOff bOfp kept wrt wid ent ver fAdr fTab adr tab lf (cN x) (cN y)  ) m_F_slotOf wd_26ede6b8 kT hx hb hml hown hts ⟨Nat.le_of_ble_eq_true rfl, Nat.le_of_ble_eq_true rfl⟩ ⟨Nat.le_of_ble_eq_true rfl, Nat.le_of_ble_eq_true rfl⟩ hK hP hD hS hA hZ hl.1 rfl rfl (Nat.le_of_ble_eq_true rfl) d_F_link_88 (fun H locs hP hD hS => ?_)
            have hP : va_P D vwCl (Wd a g sLen sKind sExt sMust rTab rFil rNum rLnk rLen rItm made pItm held dByt dLen bByt bRea bRec bItm bFld bOff bOfp kept wrt wid ent ver fAdr fTab adr tab lf) H := hP
            have hD : va_D A (Wd a g sLen sKind sExt sMust rTab rFil rNum rLnk rLen rItm made pItm held dByt dLen bByt bRea bRec bItm bFld bOff bOfp kept wrt wid ent ver fAdr fTab adr tab lf) := hD
            refine W.eq (g2 := F0 m 91 ls [.int (nI ((cN x) * 6 + (cN y))), .ref (a 2)]) rfl ?_
            refine lv_iload_n hx hb d_F_link_91 rfl (lv_at hl 4 rfl) ?_
            refine k_callV (c_Records_keepLink l D a g tw sLen sKind sExt sMust rTab rFil rNum rLnk rLen rItm made pItm held dByt dLen bByt bRea bRec bItm bFld bOff bOfp kept wrt wid ent ver fAdr fTab adr tab lf ((cN x) * 6 + (cN y)) (cN z)  (by omega)) m_R_keepLink wd_d691543e 2 2 rfl rfl rfl kT hx hb hml hown hts ⟨Nat.le_of_ble_eq_true rfl, Nat.le_of_ble_eq_true rfl⟩ ⟨Nat.le_of_ble_eq_true rfl, Nat.le_of_ble_eq_true rfl⟩ hK hP hD hS hA hZ hl.1 rfl rfl (Nat.le_of_ble_eq_true rfl) d_F_link_92 (fun H locs hP hD hS => ?_)
            have hP : va_P D vwCl (Wd a g sLen sKind sExt sMust rTab (va_up rFil ((cN x) * 6 + (cN y)) true) rNum (va_up rLnk ((cN x) * 6 + (cN y)) (cN z)) rLen rItm made pItm held dByt dLen bByt bRea bRec bItm bFld bOff bOfp kept wrt wid ent ver fAdr fTab adr tab lf) H := hP
            have hD : va_D A (Wd a g sLen sKind sExt sMust rTab (va_up rFil ((cN x) * 6 + (cN y)) true) rNum (va_up rLnk ((cN x) * 6 + (cN y)) (cN z)) rLen rItm made pItm held dByt dLen bByt bRea bRec bItm bFld bOff bOfp kept wrt wid ent ver fAdr fTab adr tab lf) := hD
            refine W.eq (g2 := F0 m 95 ls []) rfl ?_
            refine lv_iconst (v := nI 1) hx hb d_F_link_95 (by decide) ?_
            refine W.widen (k := 2) (n := 12) (Nat.le_of_ble_eq_true rfl) (Nat.le_of_ble_eq_true rfl) ?_
            exact x_ret (k_iret hx hb hr hlocks hK hP hD hS (by simp [cdLink, hC_3, c_16, c_31, c_36, c_71]) (rfl) (rfl) d_F_link_96)
          · skip
            exact k_throw hl0 hx hb hown kT hts ⟨by decide, by decide⟩ wx_b1304150 hZ hex hlocks hK hP hD hS (hl.1.trans hml.symm) (Or.inr (⟨rfl, by simp [cdLink, c_16, c_31, c_36, c_71, hC_3]⟩)) (rfl) d_F_link_74 d_F_link_77 d_F_link_78 d_F_link_81 ⟨Nat.le_of_ble_eq_true rfl, Nat.le_of_ble_eq_true rfl⟩ ⟨Nat.le_of_ble_eq_true rfl, Nat.le_of_ble_eq_true rfl⟩ (Nat.le_of_ble_eq_true rfl) (Nat.le_of_ble_eq_true rfl)
        · skip
          have c_36 := mt (nI_ltI (by omega) (by omega)).mpr c_36
          exact k_throw hl0 hx hb hown kT hts ⟨by decide, by decide⟩ wx_b1304150 hZ hex hlocks hK hP hD hS (hl.1.trans hml.symm) (Or.inr (⟨rfl, by simp [cdLink, c_16, c_31, c_36, hC_3]⟩)) (rfl) d_F_link_39 d_F_link_42 d_F_link_43 d_F_link_46 ⟨Nat.le_of_ble_eq_true rfl, Nat.le_of_ble_eq_true rfl⟩ ⟨Nat.le_of_ble_eq_true rfl, Nat.le_of_ble_eq_true rfl⟩ (Nat.le_of_ble_eq_true rfl) (Nat.le_of_ble_eq_true rfl)
    · skip
      have c_16 := (bI_0).mp c_16
      exact k_throw hl0 hx hb hown kT hts ⟨by decide, by decide⟩ wx_81160be2 hZ hex hlocks hK hP hD hS (hl.1.trans hml.symm) (Or.inl (⟨rfl, by simp [cdLink, c_16, hC_3]⟩)) (rfl) d_F_link_19 d_F_link_22 d_F_link_23 d_F_link_26 ⟨Nat.le_of_ble_eq_true rfl, Nat.le_of_ble_eq_true rfl⟩ ⟨Nat.le_of_ble_eq_true rfl, Nat.le_of_ble_eq_true rfl⟩ (Nat.le_of_ble_eq_true rfl) (Nat.le_of_ble_eq_true rfl)
set_option maxHeartbeats 4000000 in
set_option maxRecDepth 100000 in
theorem c_unset (l : Launch) (hl0 : l.stackTraces = false) (D : va_G) (a : Nat → Nat) (g : Nat → ClassId) (tw : Nat) (sLen sKind : Nat → Nat) (sExt : Nat → Int32) (sMust : Nat → Bool) (rTab : Nat → Nat) (rFil : Nat → Bool) (rNum : Nat → Int64) (rLnk rLen : Nat → Nat) (rItm : Nat → Int32) (made : Nat) (pItm : Nat → Int32) (held : Nat) (dByt : Nat → Nat) (dLen : Nat) (bByt : Nat → Nat) (bRea : Nat → Bool) (bRec bItm bFld bOff bOfp : Nat → Nat) (kept wrt wid ent : Nat) (ver : Bool) (fAdr fTab adr tab : Nat) (lf : Int32) (x : Int32) (y : Int32)  (hm : made ≤ 16) (hT : ∀ r, r < made → rTab r < 4) (hL : ∀ t, t < 4 → sLen t ≤ 6) : kMX l y_F_unset b_F_unset 3 (some .int) ({ frames := 7, cells := 1, slots := 6, locals := 111 }) D vwCl (WdT g) tw [.ref (a 0), .int x, .int y] (Wd a g sLen sKind sExt sMust rTab rFil rNum rLnk rLen rItm made pItm held dByt dLen bByt bRea bRec bItm bFld bOff bOfp kept wrt wid ent ver fAdr fTab adr tab lf) (cdUnset sLen rTab made x y = 0) (some (.int (bI (rFil (cN x * 6 + cN y))))) (Wd a g sLen sKind sExt sMust rTab (va_up rFil (cN x * 6 + cN y) false) rNum rLnk rLen rItm made pItm held dByt dLen bByt bRea bRec bItm bFld bOff bOfp kept wrt wid ent ver fAdr fTab adr tab lf) (fun E => E = xNS ∧ cdUnset sLen rTab made x y = 1) (Wd a g sLen sKind sExt sMust rTab rFil rNum rLnk rLen rItm made pItm held dByt dLen bByt bRea bRec bItm bFld bOff bOfp kept wrt wid ent ver fAdr fTab adr tab lf) := by
  refine k_ofX (by decide) (Nat.le_of_ble_eq_true rfl) ?_
  intro p e s m below meth c A ls hx hb hr hlocks hml hex hts hown hA hP hK hD hS hZ hl
  have hl : lv_has ls 3 [(0, .ref (a 0)), (1, .int x), (2, .int y)] := hl
  refine lv_aload_n hx hb d_F_unset_0 rfl (lv_at hl 0 rfl) ?_
  refine lv_iload_n hx hb d_F_unset_1 rfl (lv_at hl 1 rfl) ?_
  refine lv_iload_n hx hb d_F_unset_2 rfl (lv_at hl 2 rfl) ?_
  refine k_callVX (c_kindInRecord l hl0 D a g tw sLen sKind sExt sMust rTab rFil rNum rLnk rLen rItm made pItm held dByt dLen bByt bRea bRec bItm bFld bOff bOfp kept wrt wid ent ver fAdr fTab adr tab lf x y  hm hT hL) m_F_kindInRecord wd_2ea462ee 0 0 rfl rfl rfl kT hx hb hml hown hts ⟨Nat.le_of_ble_eq_true rfl, Nat.le_of_ble_eq_true rfl⟩ ⟨Nat.le_of_ble_eq_true rfl, Nat.le_of_ble_eq_true rfl⟩ hK hP hD hS hA hZ hl.1 rfl rfl (Nat.le_of_ble_eq_true rfl) d_F_unset_3 (fun E ce q9 H locs hE hP hD hS hq9 hcv hcl => ?_) (fun H locs hC hP hD hS => ?_)
  · skip
    have hP : va_P D vwCl (Wd a g sLen sKind sExt sMust rTab rFil rNum rLnk rLen rItm made pItm held dByt dLen bByt bRea bRec bItm bFld bOff bOfp kept wrt wid ent ver fAdr fTab adr tab lf) H := hP
    have hD : va_D A (Wd a g sLen sKind sExt sMust rTab rFil rNum rLnk rLen rItm made pItm held dByt dLen bByt bRea bRec bItm bFld bOff bOfp kept wrt wid ent ver fAdr fTab adr tab lf) := hD
    exact k_out hex hlocks hK hP hD hS (by exact ⟨hE.1, by simp [cdUnset, hE.2]⟩) (by rfl) hq9 hcv hcl (Nat.le_of_ble_eq_true rfl) (Nat.le_of_ble_eq_true rfl)
  · skip
    have hC_3 : inR sLen rTab made x y = true := hC
    have hP : va_P D vwCl (Wd a g sLen sKind sExt sMust rTab rFil rNum rLnk rLen rItm made pItm held dByt dLen bByt bRea bRec bItm bFld bOff bOfp kept wrt wid ent ver fAdr fTab adr tab lf) H := hP
    have hD : va_D A (Wd a g sLen sKind sExt sMust rTab rFil rNum rLnk rLen rItm made pItm held dByt dLen bByt bRea bRec bItm bFld bOff bOfp kept wrt wid ent ver fAdr fTab adr tab lf) := hD
    refine W.eq (g2 := F0 m 6 ls [.int (nI (kdR sKind rTab x y))]) rfl ?_
    obtain ⟨n_x, b_x⟩ := (inR_spec hm hT hL hC_3).1
    have hl : lv_has ls 3 [(0, .ref (a 0)), (1, .int (nI (cN x))), (2, .int y)] := by rw [← n_x]; exact hl
    obtain ⟨n_y, b_y⟩ := (inR_spec hm hT hL hC_3).2.1
    have hl : lv_has ls 3 [(0, .ref (a 0)), (1, .int (nI (cN x))), (2, .int (nI (cN y)))] := by rw [← n_y]; exact hl
    have hT1 := (inR_spec hm hT hL hC_3).2.2.1
    have hL1 := (inR_spec hm hT hL hC_3).2.2.2
    refine lv_pop hx hb d_F_unset_6 rfl ?_
    refine lv_aload_n hx hb d_F_unset_7 rfl (lv_at hl 0 rfl) ?_
    refine va_get (D := D) (ci := 0) (C := R_F) (T := T_F) (N := 8) hx hb hts (fun w h => kT w (i_F w h)) hown hK hP 0 rfl rfl 1 (by decide) (hts _ (kT _ wd_20c3854e)) (fun _ h9 => h9) rfl d_F_unset_8 ?_
    refine lv_iload_n hx hb d_F_unset_11 rfl (lv_at hl 1 rfl) ?_
    refine lv_iload_n hx hb d_F_unset_12 rfl (lv_at hl 2 rfl) ?_
    refine k_callS (c_slotOf l D a g tw sLen sKind sExt sMust rTab rFil rNum rLnk rLen rItm made pItm held dByt dLen bByt bRea bRec bItm bFld bOff bOfp kept wrt wid ent ver fAdr fTab adr tab lf (cN x) (cN y)  ) m_F_slotOf wd_26ede6b8 kT hx hb hml hown hts ⟨Nat.le_of_ble_eq_true rfl, Nat.le_of_ble_eq_true rfl⟩ ⟨Nat.le_of_ble_eq_true rfl, Nat.le_of_ble_eq_true rfl⟩ hK hP hD hS hA hZ hl.1 rfl rfl (Nat.le_of_ble_eq_true rfl) d_F_unset_13 (fun H locs hP hD hS => ?_)
    have hP : va_P D vwCl (Wd a g sLen sKind sExt sMust rTab rFil rNum rLnk rLen rItm made pItm held dByt dLen bByt bRea bRec bItm bFld bOff bOfp kept wrt wid ent ver fAdr fTab adr tab lf) H := hP
    have hD : va_D A (Wd a g sLen sKind sExt sMust rTab rFil rNum rLnk rLen rItm made pItm held dByt dLen bByt bRea bRec bItm bFld bOff bOfp kept wrt wid ent ver fAdr fTab adr tab lf) := hD
    refine W.eq (g2 := F0 m 16 ls [.int (nI ((cN x) * 6 + (cN y))), .ref (a 2)]) rfl ?_
    refine k_callV (c_Records_forget l D a g tw sLen sKind sExt sMust rTab rFil rNum rLnk rLen rItm made pItm held dByt dLen bByt bRea bRec bItm bFld bOff bOfp kept wrt wid ent ver fAdr fTab adr tab lf ((cN x) * 6 + (cN y))  (by omega)) m_R_forget wd_1aa1e925 2 2 rfl rfl rfl kT hx hb hml hown hts ⟨Nat.le_of_ble_eq_true rfl, Nat.le_of_ble_eq_true rfl⟩ ⟨Nat.le_of_ble_eq_true rfl, Nat.le_of_ble_eq_true rfl⟩ hK hP hD hS hA hZ hl.1 rfl rfl (Nat.le_of_ble_eq_true rfl) d_F_unset_16 (fun H locs hP hD hS => ?_)
    have hP : va_P D vwCl (Wd a g sLen sKind sExt sMust rTab (va_up rFil ((cN x) * 6 + (cN y)) false) rNum rLnk rLen rItm made pItm held dByt dLen bByt bRea bRec bItm bFld bOff bOfp kept wrt wid ent ver fAdr fTab adr tab lf) H := hP
    have hD : va_D A (Wd a g sLen sKind sExt sMust rTab (va_up rFil ((cN x) * 6 + (cN y)) false) rNum rLnk rLen rItm made pItm held dByt dLen bByt bRea bRec bItm bFld bOff bOfp kept wrt wid ent ver fAdr fTab adr tab lf) := hD
    refine W.eq (g2 := F0 m 19 ls [.int (bI (rFil ((cN x) * 6 + (cN y))))]) rfl ?_
    refine lv_if_eq (tgt := 26) hx hb d_F_unset_19 (by decide) (fun c_19 => ?_) (fun c_19 => ?_)
    · skip
      have c_19 := (bI_0).mp c_19
      refine lv_iconst (v := nI 0) hx hb d_F_unset_26 (by decide) ?_
      refine W.widen (k := 1) (n := 6) (Nat.le_of_ble_eq_true rfl) (Nat.le_of_ble_eq_true rfl) ?_
      exact x_ret (k_iret hx hb hr hlocks hK hP hD hS (by simp [cdUnset, hC_3]) (by rw [nI_bI0]; congr 1; simp [c_19]) (rfl) d_F_unset_27)
    · skip
      have c_19 := mt (bI_0).mpr c_19
      have c_19 := eq_true_of_ne_false c_19
      refine lv_iconst (v := nI 1) hx hb d_F_unset_22 (by decide) ?_
      refine lv_goto (tgt := 27) hx hb d_F_unset_23 (by decide) ?_
      refine W.widen (k := 1) (n := 6) (Nat.le_of_ble_eq_true rfl) (Nat.le_of_ble_eq_true rfl) ?_
      exact x_ret (k_iret hx hb hr hlocks hK hP hD hS (by simp [cdUnset, hC_3]) (by rw [nI_bI1]; congr 1; simp [c_19]) (rfl) d_F_unset_27)
set_option maxHeartbeats 4000000 in
set_option maxRecDepth 100000 in
theorem c_at (l : Launch) (hl0 : l.stackTraces = false) (D : va_G) (a : Nat → Nat) (g : Nat → ClassId) (tw : Nat) (sLen sKind : Nat → Nat) (sExt : Nat → Int32) (sMust : Nat → Bool) (rTab : Nat → Nat) (rFil : Nat → Bool) (rNum : Nat → Int64) (rLnk rLen : Nat → Nat) (rItm : Nat → Int32) (made : Nat) (pItm : Nat → Int32) (held : Nat) (dByt : Nat → Nat) (dLen : Nat) (bByt : Nat → Nat) (bRea : Nat → Bool) (bRec bItm bFld bOff bOfp : Nat → Nat) (kept wrt wid ent : Nat) (ver : Bool) (fAdr fTab adr tab : Nat) (lf : Int32) (x : Int32)  (hB : ∀ k, dByt k < 256) (hd : dLen ≤ 240) : kMX l y_F_at b_F_at 2 (some .int) ({ frames := 6, cells := 1, slots := 6, locals := 89 }) D vwCl (WdT g) tw [.ref (a 0), .int x] (Wd a g sLen sKind sExt sMust rTab rFil rNum rLnk rLen rItm made pItm held dByt dLen bByt bRea bRec bItm bFld bOff bOfp kept wrt wid ent ver fAdr fTab adr tab lf) (cdAt dLen x = 0) (some (.int (nI (leN dByt dLen x 1)))) (Wd a g sLen sKind sExt sMust rTab rFil rNum rLnk rLen rItm made pItm held dByt dLen bByt bRea bRec bItm bFld bOff bOfp kept wrt wid ent ver fAdr fTab adr tab lf) (fun E => E = xIO ∧ cdAt dLen x = 1) (Wd a g sLen sKind sExt sMust rTab rFil rNum rLnk rLen rItm made pItm held dByt dLen bByt bRea bRec bItm bFld bOff bOfp kept wrt wid ent ver fAdr fTab adr tab lf) := by
  refine k_ofX (by decide) (Nat.le_of_ble_eq_true rfl) ?_
  intro p e s m below meth c A ls hx hb hr hlocks hml hex hts hown hA hP hK hD hS hZ hl
  have hl : lv_has ls 2 [(0, .ref (a 0)), (1, .int x)] := hl
  refine lv_aload_n hx hb d_F_at_0 rfl (lv_at hl 0 rfl) ?_
  refine va_get (D := D) (ci := 0) (C := R_F) (T := T_F) (N := 8) hx hb hts (fun w h => kT w (i_F w h)) hown hK hP 0 rfl rfl 3 (by decide) (hts _ (kT _ wd_24cf1a27)) (fun _ h9 => h9) rfl d_F_at_1 ?_
  refine lv_iload_n hx hb d_F_at_4 rfl (lv_at hl 1 rfl) ?_
  refine k_callV (c_Data_holds l D a g tw sLen sKind sExt sMust rTab rFil rNum rLnk rLen rItm made pItm held dByt dLen bByt bRea bRec bItm bFld bOff bOfp kept wrt wid ent ver fAdr fTab adr tab lf x  ) m_D_holds wd_191a46ae 4 4 rfl rfl rfl kT hx hb hml hown hts ⟨Nat.le_of_ble_eq_true rfl, Nat.le_of_ble_eq_true rfl⟩ ⟨Nat.le_of_ble_eq_true rfl, Nat.le_of_ble_eq_true rfl⟩ hK hP hD hS hA hZ hl.1 rfl rfl (Nat.le_of_ble_eq_true rfl) d_F_at_5 (fun H locs hP hD hS => ?_)
  have hP : va_P D vwCl (Wd a g sLen sKind sExt sMust rTab rFil rNum rLnk rLen rItm made pItm held dByt dLen bByt bRea bRec bItm bFld bOff bOfp kept wrt wid ent ver fAdr fTab adr tab lf) H := hP
  have hD : va_D A (Wd a g sLen sKind sExt sMust rTab rFil rNum rLnk rLen rItm made pItm held dByt dLen bByt bRea bRec bItm bFld bOff bOfp kept wrt wid ent ver fAdr fTab adr tab lf) := hD
  refine W.eq (g2 := F0 m 8 ls [.int (bI (hasF dLen x))]) rfl ?_
  refine lv_if_ne (tgt := 19) hx hb d_F_at_8 (by decide) (fun c_8 => ?_) (fun c_8 => ?_)
  · skip
    have c_8 := mt (bI_0).mpr c_8
    have c_8 := eq_true_of_ne_false c_8
    refine lv_aload_n hx hb d_F_at_19 rfl (lv_at hl 0 rfl) ?_
    refine va_get (D := D) (ci := 0) (C := R_F) (T := T_F) (N := 8) hx hb hts (fun w h => kT w (i_F w h)) hown hK hP 0 rfl rfl 3 (by decide) (hts _ (kT _ wd_24cf1a27)) (fun _ h9 => h9) rfl d_F_at_20 ?_
    refine lv_iload_n hx hb d_F_at_23 rfl (lv_at hl 1 rfl) ?_
    refine k_callV (c_Data_unsignedByte l D a g tw sLen sKind sExt sMust rTab rFil rNum rLnk rLen rItm made pItm held dByt dLen bByt bRea bRec bItm bFld bOff bOfp kept wrt wid ent ver fAdr fTab adr tab lf x  hB hd) m_D_unsignedByte wd_8cad2f06 4 4 rfl rfl rfl kT hx hb hml hown hts ⟨Nat.le_of_ble_eq_true rfl, Nat.le_of_ble_eq_true rfl⟩ ⟨Nat.le_of_ble_eq_true rfl, Nat.le_of_ble_eq_true rfl⟩ hK hP hD hS hA hZ hl.1 rfl rfl (Nat.le_of_ble_eq_true rfl) d_F_at_24 (fun H locs hP hD hS => ?_)
    have hP : va_P D vwCl (Wd a g sLen sKind sExt sMust rTab rFil rNum rLnk rLen rItm made pItm held dByt dLen bByt bRea bRec bItm bFld bOff bOfp kept wrt wid ent ver fAdr fTab adr tab lf) H := hP
    have hD : va_D A (Wd a g sLen sKind sExt sMust rTab rFil rNum rLnk rLen rItm made pItm held dByt dLen bByt bRea bRec bItm bFld bOff bOfp kept wrt wid ent ver fAdr fTab adr tab lf) := hD
    refine W.eq (g2 := F0 m 27 ls [.int (nI (leN dByt dLen x 1))]) rfl ?_
    refine W.widen (k := 1) (n := 6) (Nat.le_of_ble_eq_true rfl) (Nat.le_of_ble_eq_true rfl) ?_
    exact x_ret (k_iret hx hb hr hlocks hK hP hD hS (by simp [cdAt, c_8]) (rfl) (rfl) d_F_at_27)
  · skip
    have c_8 := (bI_0).mp c_8
    exact k_throw hl0 hx hb hown kT hts ⟨by decide, by decide⟩ wx_be0090ef hZ hex hlocks hK hP hD hS (hl.1.trans hml.symm) (⟨rfl, by simp [cdAt, c_8]⟩) (rfl) d_F_at_11 d_F_at_14 d_F_at_15 d_F_at_18 ⟨Nat.le_of_ble_eq_true rfl, Nat.le_of_ble_eq_true rfl⟩ ⟨Nat.le_of_ble_eq_true rfl, Nat.le_of_ble_eq_true rfl⟩ (Nat.le_of_ble_eq_true rfl) (Nat.le_of_ble_eq_true rfl)
set_option maxHeartbeats 4000000 in
set_option maxRecDepth 100000 in
theorem c_patch (l : Launch) (hl0 : l.stackTraces = false) (D : va_G) (a : Nat → Nat) (g : Nat → ClassId) (tw : Nat) (sLen sKind : Nat → Nat) (sExt : Nat → Int32) (sMust : Nat → Bool) (rTab : Nat → Nat) (rFil : Nat → Bool) (rNum : Nat → Int64) (rLnk rLen : Nat → Nat) (rItm : Nat → Int32) (made : Nat) (pItm : Nat → Int32) (held : Nat) (dByt : Nat → Nat) (dLen : Nat) (bByt : Nat → Nat) (bRea : Nat → Bool) (bRec bItm bFld bOff bOfp : Nat → Nat) (kept wrt wid ent : Nat) (ver : Bool) (fAdr fTab adr tab : Nat) (lf : Int32) (x : Int32) (v : Int32)  (hB : ∀ k, dByt k < 256) (hd : dLen ≤ 240) : kMX l y_F_patch b_F_patch 4 (some .int) ({ frames := 6, cells := 1, slots := 6, locals := 89 }) D vwCl (WdT g) tw [.ref (a 0), .int x, .int v] (Wd a g sLen sKind sExt sMust rTab rFil rNum rLnk rLen rItm made pItm held dByt dLen bByt bRea bRec bItm bFld bOff bOfp kept wrt wid ent ver fAdr fTab adr tab lf) (cdAt dLen x = 0) (some (.int (nI (leN dByt dLen x 1)))) (Wd a g sLen sKind sExt sMust rTab rFil rNum rLnk rLen rItm made pItm held (va_up dByt (cN x) (u8 v)) dLen bByt bRea bRec bItm bFld bOff bOfp kept wrt wid ent false fAdr fTab adr tab lf) (fun E => E = xIO ∧ cdAt dLen x = 1) (Wd a g sLen sKind sExt sMust rTab rFil rNum rLnk rLen rItm made pItm held dByt dLen bByt bRea bRec bItm bFld bOff bOfp kept wrt wid ent ver fAdr fTab adr tab lf) := by
  refine k_ofX (by decide) (Nat.le_of_ble_eq_true rfl) ?_
  intro p e s m below meth c A ls hx hb hr hlocks hml hex hts hown hA hP hK hD hS hZ hl
  have hl : lv_has ls 4 [(0, .ref (a 0)), (1, .int x), (2, .int v)] := hl
  refine lv_aload_n hx hb d_F_patch_0 rfl (lv_at hl 0 rfl) ?_
  refine va_get (D := D) (ci := 0) (C := R_F) (T := T_F) (N := 8) hx hb hts (fun w h => kT w (i_F w h)) hown hK hP 0 rfl rfl 3 (by decide) (hts _ (kT _ wd_24cf1a27)) (fun _ h9 => h9) rfl d_F_patch_1 ?_
  refine lv_iload_n hx hb d_F_patch_4 rfl (lv_at hl 1 rfl) ?_
  refine k_callV (c_Data_holds l D a g tw sLen sKind sExt sMust rTab rFil rNum rLnk rLen rItm made pItm held dByt dLen bByt bRea bRec bItm bFld bOff bOfp kept wrt wid ent ver fAdr fTab adr tab lf x  ) m_D_holds wd_191a46ae 4 4 rfl rfl rfl kT hx hb hml hown hts ⟨Nat.le_of_ble_eq_true rfl, Nat.le_of_ble_eq_true rfl⟩ ⟨Nat.le_of_ble_eq_true rfl, Nat.le_of_ble_eq_true rfl⟩ hK hP hD hS hA hZ hl.1 rfl rfl (Nat.le_of_ble_eq_true rfl) d_F_patch_5 (fun H locs hP hD hS => ?_)
  have hP : va_P D vwCl (Wd a g sLen sKind sExt sMust rTab rFil rNum rLnk rLen rItm made pItm held dByt dLen bByt bRea bRec bItm bFld bOff bOfp kept wrt wid ent ver fAdr fTab adr tab lf) H := hP
  have hD : va_D A (Wd a g sLen sKind sExt sMust rTab rFil rNum rLnk rLen rItm made pItm held dByt dLen bByt bRea bRec bItm bFld bOff bOfp kept wrt wid ent ver fAdr fTab adr tab lf) := hD
  refine W.eq (g2 := F0 m 8 ls [.int (bI (hasF dLen x))]) rfl ?_
  refine lv_if_ne (tgt := 19) hx hb d_F_patch_8 (by decide) (fun c_8 => ?_) (fun c_8 => ?_)
  · skip
    have c_8 := mt (bI_0).mpr c_8
    have c_8 := eq_true_of_ne_false c_8
    refine lv_aload_n hx hb d_F_patch_19 rfl (lv_at hl 0 rfl) ?_
    refine va_get (D := D) (ci := 0) (C := R_F) (T := T_F) (N := 8) hx hb hts (fun w h => kT w (i_F w h)) hown hK hP 0 rfl rfl 6 (by decide) (hts _ (kT _ wd_59fc3318)) (fun _ h9 => h9) rfl d_F_patch_20 ?_
    refine k_callV (c_Cursor_leave l D a g tw sLen sKind sExt sMust rTab rFil rNum rLnk rLen rItm made pItm held dByt dLen bByt bRea bRec bItm bFld bOff bOfp kept wrt wid ent ver fAdr fTab adr tab lf   ) m_C_leave wd_4ebb4d90 7 7 rfl rfl rfl kT hx hb hml hown hts ⟨Nat.le_of_ble_eq_true rfl, Nat.le_of_ble_eq_true rfl⟩ ⟨Nat.le_of_ble_eq_true rfl, Nat.le_of_ble_eq_true rfl⟩ hK hP hD hS hA hZ hl.1 rfl rfl (Nat.le_of_ble_eq_true rfl) d_F_patch_23 (fun H locs hP hD hS => ?_)
    have hP : va_P D vwCl (Wd a g sLen sKind sExt sMust rTab rFil rNum rLnk rLen rItm made pItm held dByt dLen bByt bRea bRec bItm bFld bOff bOfp kept wrt wid ent false fAdr fTab adr tab lf) H := hP
    have hD : va_D A (Wd a g sLen sKind sExt sMust rTab rFil rNum rLnk rLen rItm made pItm held dByt dLen bByt bRea bRec bItm bFld bOff bOfp kept wrt wid ent false fAdr fTab adr tab lf) := hD
    refine W.eq (g2 := F0 m 26 ls []) rfl ?_
    refine lv_aload_n hx hb d_F_patch_26 rfl (lv_at hl 0 rfl) ?_
    refine va_get (D := D) (ci := 0) (C := R_F) (T := T_F) (N := 8) hx hb hts (fun w h => kT w (i_F w h)) hown hK hP 0 rfl rfl 3 (by decide) (hts _ (kT _ wd_24cf1a27)) (fun _ h9 => h9) rfl d_F_patch_27 ?_
    refine lv_iload_n hx hb d_F_patch_30 rfl (lv_at hl 1 rfl) ?_
    refine k_callV (c_Data_unsignedByte l D a g tw sLen sKind sExt sMust rTab rFil rNum rLnk rLen rItm made pItm held dByt dLen bByt bRea bRec bItm bFld bOff bOfp kept wrt wid ent false fAdr fTab adr tab lf x  hB hd) m_D_unsignedByte wd_8cad2f06 4 4 rfl rfl rfl kT hx hb hml hown hts ⟨Nat.le_of_ble_eq_true rfl, Nat.le_of_ble_eq_true rfl⟩ ⟨Nat.le_of_ble_eq_true rfl, Nat.le_of_ble_eq_true rfl⟩ hK hP hD hS hA hZ hl.1 rfl rfl (Nat.le_of_ble_eq_true rfl) d_F_patch_31 (fun H locs hP hD hS => ?_)
    have hP : va_P D vwCl (Wd a g sLen sKind sExt sMust rTab rFil rNum rLnk rLen rItm made pItm held dByt dLen bByt bRea bRec bItm bFld bOff bOfp kept wrt wid ent false fAdr fTab adr tab lf) H := hP
    have hD : va_D A (Wd a g sLen sKind sExt sMust rTab rFil rNum rLnk rLen rItm made pItm held dByt dLen bByt bRea bRec bItm bFld bOff bOfp kept wrt wid ent false fAdr fTab adr tab lf) := hD
    refine W.eq (g2 := F0 m 34 ls [.int (nI (leN dByt dLen x 1))]) rfl ?_
    refine lv_istore_n (lv' := [(3, .int (nI (leN dByt dLen x 1))), (0, .ref (a 0)), (1, .int x), (2, .int v)]) hx hb d_F_patch_34 rfl hl (by decide) rfl (fun ls hl => ?_)
    refine lv_aload_n hx hb d_F_patch_35 rfl (lv_at hl 1 rfl) ?_
    refine va_get (D := D) (ci := 0) (C := R_F) (T := T_F) (N := 8) hx hb hts (fun w h => kT w (i_F w h)) hown hK hP 0 rfl rfl 3 (by decide) (hts _ (kT _ wd_24cf1a27)) (fun _ h9 => h9) rfl d_F_patch_36 ?_
    refine lv_iload_n hx hb d_F_patch_39 rfl (lv_at hl 2 rfl) ?_
    refine lv_iload_n hx hb d_F_patch_40 rfl (lv_at hl 3 rfl) ?_
    refine k_callV (c_Data_put l D a g tw sLen sKind sExt sMust rTab rFil rNum rLnk rLen rItm made pItm held dByt dLen bByt bRea bRec bItm bFld bOff bOfp kept wrt wid ent false fAdr fTab adr tab lf x v  (by omega)) m_D_put wd_7041bb2a 4 4 rfl rfl rfl kT hx hb hml hown hts ⟨Nat.le_of_ble_eq_true rfl, Nat.le_of_ble_eq_true rfl⟩ ⟨Nat.le_of_ble_eq_true rfl, Nat.le_of_ble_eq_true rfl⟩ hK hP hD hS hA hZ hl.1 rfl rfl (Nat.le_of_ble_eq_true rfl) d_F_patch_41 (fun H locs hP hD hS => ?_)
    have hP : va_P D vwCl (Wd a g sLen sKind sExt sMust rTab rFil rNum rLnk rLen rItm made pItm held (if hasF dLen x = true then va_up dByt (cN x) (u8 v) else dByt) dLen bByt bRea bRec bItm bFld bOff bOfp kept wrt wid ent false fAdr fTab adr tab lf) H := hP
    have hD : va_D A (Wd a g sLen sKind sExt sMust rTab rFil rNum rLnk rLen rItm made pItm held (if hasF dLen x = true then va_up dByt (cN x) (u8 v) else dByt) dLen bByt bRea bRec bItm bFld bOff bOfp kept wrt wid ent false fAdr fTab adr tab lf) := hD
    refine W.eq (g2 := F0 m 44 ls []) rfl ?_
    refine lv_iload_n hx hb d_F_patch_44 rfl (lv_at hl 0 rfl) ?_
    refine W.widen (k := 1) (n := 6) (Nat.le_of_ble_eq_true rfl) (Nat.le_of_ble_eq_true rfl) ?_
    exact x_ret (k_iret hx hb hr hlocks hK hP hD hS (by simp [cdAt, c_8]) (rfl) (by rw [if_pos c_8]) d_F_patch_45)
  · skip
    have c_8 := (bI_0).mp c_8
    exact k_throw hl0 hx hb hown kT hts ⟨by decide, by decide⟩ wx_be0090ef hZ hex hlocks hK hP hD hS (hl.1.trans hml.symm) (⟨rfl, by simp [cdAt, c_8]⟩) (rfl) d_F_patch_11 d_F_patch_14 d_F_patch_15 d_F_patch_18 ⟨Nat.le_of_ble_eq_true rfl, Nat.le_of_ble_eq_true rfl⟩ ⟨Nat.le_of_ble_eq_true rfl, Nat.le_of_ble_eq_true rfl⟩ (Nat.le_of_ble_eq_true rfl) (Nat.le_of_ble_eq_true rfl)
set_option maxHeartbeats 4000000 in
set_option maxRecDepth 100000 in
theorem c_cut (l : Launch) (hl0 : l.stackTraces = false) (D : va_G) (a : Nat → Nat) (g : Nat → ClassId) (tw : Nat) (sLen sKind : Nat → Nat) (sExt : Nat → Int32) (sMust : Nat → Bool) (rTab : Nat → Nat) (rFil : Nat → Bool) (rNum : Nat → Int64) (rLnk rLen : Nat → Nat) (rItm : Nat → Int32) (made : Nat) (pItm : Nat → Int32) (held : Nat) (dByt : Nat → Nat) (dLen : Nat) (bByt : Nat → Nat) (bRea : Nat → Bool) (bRec bItm bFld bOff bOfp : Nat → Nat) (kept wrt wid ent : Nat) (ver : Bool) (fAdr fTab adr tab : Nat) (lf : Int32) (x : Int32)  (hd : dLen ≤ 240) : kMX l y_F_cut b_F_cut 3 (some .int) ({ frames := 6, cells := 1, slots := 6, locals := 89 }) D vwCl (WdT g) tw [.ref (a 0), .int x] (Wd a g sLen sKind sExt sMust rTab rFil rNum rLnk rLen rItm made pItm held dByt dLen bByt bRea bRec bItm bFld bOff bOfp kept wrt wid ent ver fAdr fTab adr tab lf) (cdCut dLen x = 0) (some (.int (nI (dLen - cN x)))) (Wd a g sLen sKind sExt sMust rTab rFil rNum rLnk rLen rItm made pItm held dByt (cN x) bByt bRea bRec bItm bFld bOff bOfp kept wrt wid ent false fAdr fTab adr tab lf) (fun E => E = xIO ∧ cdCut dLen x = 1) (Wd a g sLen sKind sExt sMust rTab rFil rNum rLnk rLen rItm made pItm held dByt dLen bByt bRea bRec bItm bFld bOff bOfp kept wrt wid ent ver fAdr fTab adr tab lf) := by
  refine k_ofX (by decide) (Nat.le_of_ble_eq_true rfl) ?_
  intro p e s m below meth c A ls hx hb hr hlocks hml hex hts hown hA hP hK hD hS hZ hl
  have hl : lv_has ls 3 [(0, .ref (a 0)), (1, .int x)] := hl
  refine lv_iload_n hx hb d_F_cut_0 rfl (lv_at hl 1 rfl) ?_
  refine lv_if_lt (tgt := 15) hx hb d_F_cut_1 (by decide) (fun c_1 => ?_) (fun c_1 => ?_)
  · skip
    exact k_throw hl0 hx hb hown kT hts ⟨by decide, by decide⟩ wx_be0090ef hZ hex hlocks hK hP hD hS (hl.1.trans hml.symm) (⟨rfl, by simp [cdCut, c_1]⟩) (rfl) d_F_cut_15 d_F_cut_18 d_F_cut_19 d_F_cut_22 ⟨Nat.le_of_ble_eq_true rfl, Nat.le_of_ble_eq_true rfl⟩ ⟨Nat.le_of_ble_eq_true rfl, Nat.le_of_ble_eq_true rfl⟩ (Nat.le_of_ble_eq_true rfl) (Nat.le_of_ble_eq_true rfl)
  · skip
    refine lv_iload_n hx hb d_F_cut_4 rfl (lv_at hl 1 rfl) ?_
    refine lv_aload_n hx hb d_F_cut_5 rfl (lv_at hl 0 rfl) ?_
    refine va_get (D := D) (ci := 0) (C := R_F) (T := T_F) (N := 8) hx hb hts (fun w h => kT w (i_F w h)) hown hK hP 0 rfl rfl 3 (by decide) (hts _ (kT _ wd_24cf1a27)) (fun _ h9 => h9) rfl d_F_cut_6 ?_
    refine va_getN (D := D) (ci := 4) (C := R_D) (T := T_D) (N := 2) hx hb hts (fun w h => kT w (i_D w h)) hown hK hP 4 rfl rfl 1 (by decide) (va_Nw.use rfl (hZ.2.2.1 _ wn_29b5f204)) (fun _ h9 => h9) rfl d_F_cut_9 ?_
    refine lv_icmp_le (tgt := 23) hx hb d_F_cut_12 (by decide) (fun c_12 => ?_) (fun c_12 => ?_)
    · skip
      obtain ⟨n_x, b_x⟩ := le_spec (by omega) c_1 c_12
      have hl : lv_has ls 3 [(0, .ref (a 0)), (1, .int (nI (cN x)))] := by rw [← n_x]; exact hl
      refine lv_aload_n hx hb d_F_cut_23 rfl (lv_at hl 0 rfl) ?_
      refine va_get (D := D) (ci := 0) (C := R_F) (T := T_F) (N := 8) hx hb hts (fun w h => kT w (i_F w h)) hown hK hP 0 rfl rfl 6 (by decide) (hts _ (kT _ wd_59fc3318)) (fun _ h9 => h9) rfl d_F_cut_24 ?_
      refine k_callV (c_Cursor_leave l D a g tw sLen sKind sExt sMust rTab rFil rNum rLnk rLen rItm made pItm held dByt dLen bByt bRea bRec bItm bFld bOff bOfp kept wrt wid ent ver fAdr fTab adr tab lf   ) m_C_leave wd_4ebb4d90 7 7 rfl rfl rfl kT hx hb hml hown hts ⟨Nat.le_of_ble_eq_true rfl, Nat.le_of_ble_eq_true rfl⟩ ⟨Nat.le_of_ble_eq_true rfl, Nat.le_of_ble_eq_true rfl⟩ hK hP hD hS hA hZ hl.1 rfl rfl (Nat.le_of_ble_eq_true rfl) d_F_cut_27 (fun H locs hP hD hS => ?_)
      have hP : va_P D vwCl (Wd a g sLen sKind sExt sMust rTab rFil rNum rLnk rLen rItm made pItm held dByt dLen bByt bRea bRec bItm bFld bOff bOfp kept wrt wid ent false fAdr fTab adr tab lf) H := hP
      have hD : va_D A (Wd a g sLen sKind sExt sMust rTab rFil rNum rLnk rLen rItm made pItm held dByt dLen bByt bRea bRec bItm bFld bOff bOfp kept wrt wid ent false fAdr fTab adr tab lf) := hD
      refine W.eq (g2 := F0 m 30 ls []) rfl ?_
      refine lv_aload_n hx hb d_F_cut_30 rfl (lv_at hl 0 rfl) ?_
      refine va_get (D := D) (ci := 0) (C := R_F) (T := T_F) (N := 8) hx hb hts (fun w h => kT w (i_F w h)) hown hK hP 0 rfl rfl 3 (by decide) (hts _ (kT _ wd_24cf1a27)) (fun _ h9 => h9) rfl d_F_cut_31 ?_
      refine va_getN (D := D) (ci := 4) (C := R_D) (T := T_D) (N := 2) hx hb hts (fun w h => kT w (i_D w h)) hown hK hP 4 rfl rfl 1 (by decide) (va_Nw.use rfl (hZ.2.2.1 _ wn_29b5f204)) (fun _ h9 => h9) rfl d_F_cut_34 ?_
      refine lv_iload_n hx hb d_F_cut_37 rfl (lv_at hl 1 rfl) ?_
      refine lv_isub hx hb d_F_cut_38 ?_
      refine lv_eqi (pk_sub (by omega)) ?_
      refine lv_istore_n (lv' := [(2, .int (nI (dLen - (cN x)))), (0, .ref (a 0)), (1, .int (nI (cN x)))]) hx hb d_F_cut_39 rfl hl (by decide) rfl (fun ls hl => ?_)
      refine lv_aload_n hx hb d_F_cut_40 rfl (lv_at hl 1 rfl) ?_
      refine va_get (D := D) (ci := 0) (C := R_F) (T := T_F) (N := 8) hx hb hts (fun w h => kT w (i_F w h)) hown hK hP 0 rfl rfl 3 (by decide) (hts _ (kT _ wd_24cf1a27)) (fun _ h9 => h9) rfl d_F_cut_41 ?_
      refine lv_iload_n hx hb d_F_cut_44 rfl (lv_at hl 2 rfl) ?_
      refine va_putN (D := D) (ci := 4) (ty := .int) (C := R_D) (T := T_D) (N := 2) hx hb hts (fun w h => kT w (i_D w h)) ty_D tyk_D nm_D hown hK hP hD hS 4 rfl rfl 1 (by decide) (va_Nw.use rfl (hZ.2.2.1 _ wn_29b5f204)) (fun _ h9 => h9) rfl (by decide +kernel) rfl rfl (Nat.le_of_ble_eq_true rfl) d_F_cut_45 (fun H locs hP hD hS => ?_)
      have hP : va_P D vwCl (Wd a g sLen sKind sExt sMust rTab rFil rNum rLnk rLen rItm made pItm held dByt (cN x) bByt bRea bRec bItm bFld bOff bOfp kept wrt wid ent false fAdr fTab adr tab lf) H := hP
      have hD : va_D A (Wd a g sLen sKind sExt sMust rTab rFil rNum rLnk rLen rItm made pItm held dByt (cN x) bByt bRea bRec bItm bFld bOff bOfp kept wrt wid ent false fAdr fTab adr tab lf) := hD
      refine lv_iload_n hx hb d_F_cut_48 rfl (lv_at hl 0 rfl) ?_
      refine W.widen (k := 1) (n := 6) (Nat.le_of_ble_eq_true rfl) (Nat.le_of_ble_eq_true rfl) ?_
      exact x_ret (k_iret hx hb hr hlocks hK hP hD hS (by simp [cdCut, c_1, c_12]) (rfl) (rfl) d_F_cut_49)
    · skip
      exact k_throw hl0 hx hb hown kT hts ⟨by decide, by decide⟩ wx_be0090ef hZ hex hlocks hK hP hD hS (hl.1.trans hml.symm) (⟨rfl, by simp [cdCut, c_1, c_12]⟩) (rfl) d_F_cut_15 d_F_cut_18 d_F_cut_19 d_F_cut_22 ⟨Nat.le_of_ble_eq_true rfl, Nat.le_of_ble_eq_true rfl⟩ ⟨Nat.le_of_ble_eq_true rfl, Nat.le_of_ble_eq_true rfl⟩ (Nat.le_of_ble_eq_true rfl) (Nat.le_of_ble_eq_true rfl)
set_option maxHeartbeats 4000000 in
set_option maxRecDepth 100000 in
theorem c_fault (l : Launch) (D : va_G) (a : Nat → Nat) (g : Nat → ClassId) (tw : Nat) (sLen sKind : Nat → Nat) (sExt : Nat → Int32) (sMust : Nat → Bool) (rTab : Nat → Nat) (rFil : Nat → Bool) (rNum : Nat → Int64) (rLnk rLen : Nat → Nat) (rItm : Nat → Int32) (made : Nat) (pItm : Nat → Int32) (held : Nat) (dByt : Nat → Nat) (dLen : Nat) (bByt : Nat → Nat) (bRea : Nat → Bool) (bRec bItm bFld bOff bOfp : Nat → Nat) (kept wrt wid ent : Nat) (ver : Bool) (fAdr fTab adr tab : Nat) (lf : Int32)    : kM l y_F_fault b_F_fault 1 (some .int) ({ frames := 0, cells := 0, slots := 0, locals := 0 }) D vwCl (WdT g) tw [.ref (a 0)] (Wd a g sLen sKind sExt sMust rTab rFil rNum rLnk rLen rItm made pItm held dByt dLen bByt bRea bRec bItm bFld bOff bOfp kept wrt wid ent ver fAdr fTab adr tab lf) (some (.int lf)) (Wd a g sLen sKind sExt sMust rTab rFil rNum rLnk rLen rItm made pItm held dByt dLen bByt bRea bRec bItm bFld bOff bOfp kept wrt wid ent ver fAdr fTab adr tab lf) := by
  refine k_of (by decide) (Nat.le_of_ble_eq_true rfl) ?_
  intro p e s m below meth c A ls hx hb hr hlocks hml hts hown hin0 hA hP hK hD hS hZ hl
  have hl : lv_has ls 1 [(0, .ref (a 0))] := hl
  refine lv_aload_n hx hb d_F_fault_0 rfl (lv_at hl 0 rfl) ?_
  refine va_get (D := D) (ci := 0) (C := R_F) (T := T_F) (N := 8) hx hb hts (fun w h => kT w (i_F w h)) hown hK hP 0 rfl rfl 7 (by decide) (hts _ (kT _ wd_f0aaec2b)) (fun _ h9 => h9) rfl d_F_fault_1 ?_
  exact k_iret hx hb hr hlocks hK hP hD hS (trivial) (rfl) (rfl) d_F_fault_4
set_option maxHeartbeats 4000000 in
set_option maxRecDepth 100000 in
theorem c_top (l : Launch) (hl0 : l.stackTraces = false) (D : va_G) (a : Nat → Nat) (g : Nat → ClassId) (tw : Nat) (sLen sKind : Nat → Nat) (sExt : Nat → Int32) (sMust : Nat → Bool) (rTab : Nat → Nat) (rFil : Nat → Bool) (rNum : Nat → Int64) (rLnk rLen : Nat → Nat) (rItm : Nat → Int32) (made : Nat) (pItm : Nat → Int32) (held : Nat) (dByt : Nat → Nat) (dLen : Nat) (bByt : Nat → Nat) (bRea : Nat → Bool) (bRec bItm bFld bOff bOfp : Nat → Nat) (kept wrt wid ent : Nat) (ver : Bool) (fAdr fTab adr tab : Nat) (lf : Int32)    : kMX l y_F_top b_F_top 1 (some .int) ({ frames := 6, cells := 1, slots := 6, locals := 89 }) D vwCl (WdT g) tw [.ref (a 0)] (Wd a g sLen sKind sExt sMust rTab rFil rNum rLnk rLen rItm made pItm held dByt dLen bByt bRea bRec bItm bFld bOff bOfp kept wrt wid ent ver fAdr fTab adr tab lf) (cdTop ver = 0) (some (.int (nI 1))) (Wd a g sLen sKind sExt sMust rTab rFil rNum rLnk rLen rItm made pItm held dByt dLen bByt bRea bRec bItm bFld bOff bOfp kept wrt wid ent ver fAdr fTab fAdr fTab lf) (fun E => E = xIS ∧ cdTop ver = 1) (Wd a g sLen sKind sExt sMust rTab rFil rNum rLnk rLen rItm made pItm held dByt dLen bByt bRea bRec bItm bFld bOff bOfp kept wrt wid ent ver fAdr fTab adr tab lf) := by
  refine k_ofX (by decide) (Nat.le_of_ble_eq_true rfl) ?_
  intro p e s m below meth c A ls hx hb hr hlocks hml hex hts hown hA hP hK hD hS hZ hl
  have hl : lv_has ls 1 [(0, .ref (a 0))] := hl
  refine lv_aload_n hx hb d_F_top_0 rfl (lv_at hl 0 rfl) ?_
  refine va_get (D := D) (ci := 0) (C := R_F) (T := T_F) (N := 8) hx hb hts (fun w h => kT w (i_F w h)) hown hK hP 0 rfl rfl 6 (by decide) (hts _ (kT _ wd_59fc3318)) (fun _ h9 => h9) rfl d_F_top_1 ?_
  refine va_getN (D := D) (ci := 7) (C := R_C) (T := T_C) (N := 5) hx hb hts (fun w h => kT w (i_C w h)) hown hK hP 7 rfl rfl 0 (by decide) (va_Nw.use rfl (hZ.2.2.1 _ wn_14b5d946)) (fun _ h9 => h9) rfl d_F_top_4 ?_
  refine lv_if_ne (tgt := 18) hx hb d_F_top_7 (by decide) (fun c_7 => ?_) (fun c_7 => ?_)
  · skip
    have c_7 := mt (bI_0).mpr c_7
    have c_7 := eq_true_of_ne_false c_7
    refine lv_aload_n hx hb d_F_top_18 rfl (lv_at hl 0 rfl) ?_
    refine va_get (D := D) (ci := 0) (C := R_F) (T := T_F) (N := 8) hx hb hts (fun w h => kT w (i_F w h)) hown hK hP 0 rfl rfl 6 (by decide) (hts _ (kT _ wd_59fc3318)) (fun _ h9 => h9) rfl d_F_top_19 ?_
    refine k_callV (c_Cursor_goFirst l D a g tw sLen sKind sExt sMust rTab rFil rNum rLnk rLen rItm made pItm held dByt dLen bByt bRea bRec bItm bFld bOff bOfp kept wrt wid ent ver fAdr fTab adr tab lf   ) m_C_goFirst wd_aaf757d7 7 7 rfl rfl rfl kT hx hb hml hown hts ⟨Nat.le_of_ble_eq_true rfl, Nat.le_of_ble_eq_true rfl⟩ ⟨Nat.le_of_ble_eq_true rfl, Nat.le_of_ble_eq_true rfl⟩ hK hP hD hS hA hZ hl.1 rfl rfl (Nat.le_of_ble_eq_true rfl) d_F_top_22 (fun H locs hP hD hS => ?_)
    have hP : va_P D vwCl (Wd a g sLen sKind sExt sMust rTab rFil rNum rLnk rLen rItm made pItm held dByt dLen bByt bRea bRec bItm bFld bOff bOfp kept wrt wid ent ver fAdr fTab fAdr fTab lf) H := hP
    have hD : va_D A (Wd a g sLen sKind sExt sMust rTab rFil rNum rLnk rLen rItm made pItm held dByt dLen bByt bRea bRec bItm bFld bOff bOfp kept wrt wid ent ver fAdr fTab fAdr fTab lf) := hD
    refine W.eq (g2 := F0 m 25 ls []) rfl ?_
    refine lv_iconst (v := nI 1) hx hb d_F_top_25 (by decide) ?_
    refine W.widen (k := 1) (n := 6) (Nat.le_of_ble_eq_true rfl) (Nat.le_of_ble_eq_true rfl) ?_
    exact x_ret (k_iret hx hb hr hlocks hK hP hD hS (by simp [cdTop, c_7]) (rfl) (rfl) d_F_top_26)
  · skip
    have c_7 := (bI_0).mp c_7
    exact k_throw hl0 hx hb hown kT hts ⟨by decide, by decide⟩ wx_f6ab3475 hZ hex hlocks hK hP hD hS (hl.1.trans hml.symm) (⟨rfl, by simp [cdTop, c_7]⟩) (rfl) d_F_top_10 d_F_top_13 d_F_top_14 d_F_top_17 ⟨Nat.le_of_ble_eq_true rfl, Nat.le_of_ble_eq_true rfl⟩ ⟨Nat.le_of_ble_eq_true rfl, Nat.le_of_ble_eq_true rfl⟩ (Nat.le_of_ble_eq_true rfl) (Nat.le_of_ble_eq_true rfl)
set_option maxHeartbeats 4000000 in
set_option maxRecDepth 100000 in
theorem c_count (l : Launch) (hl0 : l.stackTraces = false) (D : va_G) (a : Nat → Nat) (g : Nat → ClassId) (tw : Nat) (sLen sKind : Nat → Nat) (sExt : Nat → Int32) (sMust : Nat → Bool) (rTab : Nat → Nat) (rFil : Nat → Bool) (rNum : Nat → Int64) (rLnk rLen : Nat → Nat) (rItm : Nat → Int32) (made : Nat) (pItm : Nat → Int32) (held : Nat) (dByt : Nat → Nat) (dLen : Nat) (bByt : Nat → Nat) (bRea : Nat → Bool) (bRec bItm bFld bOff bOfp : Nat → Nat) (kept wrt wid ent : Nat) (ver : Bool) (fAdr fTab adr tab : Nat) (lf : Int32) (x : Int32)   : kMX l y_F_count b_F_count 2 (some .int) ({ frames := 6, cells := 1, slots := 6, locals := 89 }) D vwCl (WdT g) tw [.ref (a 0), .int x] (Wd a g sLen sKind sExt sMust rTab rFil rNum rLnk rLen rItm made pItm held dByt dLen bByt bRea bRec bItm bFld bOff bOfp kept wrt wid ent ver fAdr fTab adr tab lf) (cdCount x = 0) (some (.int (rvCount sLen made held dLen ver tab x))) (Wd a g sLen sKind sExt sMust rTab rFil rNum rLnk rLen rItm made pItm held dByt dLen bByt bRea bRec bItm bFld bOff bOfp kept wrt wid ent ver fAdr fTab adr tab lf) (fun E => E = xIA ∧ cdCount x = 1) (Wd a g sLen sKind sExt sMust rTab rFil rNum rLnk rLen rItm made pItm held dByt dLen bByt bRea bRec bItm bFld bOff bOfp kept wrt wid ent ver fAdr fTab adr tab lf) := by
  refine k_ofX (by decide) (Nat.le_of_ble_eq_true rfl) ?_
  intro p e s m below meth c A ls hx hb hr hlocks hml hex hts hown hA hP hK hD hS hZ hl
  have hl : lv_has ls 2 [(0, .ref (a 0)), (1, .int x)] := hl
  refine lv_iload_n hx hb d_F_count_0 rfl (lv_at hl 1 rfl) ?_
  by_cases s_1_0 : x = (0 : Int32)
  · skip
    refine lv_eqi (y := nI 0) (by rw [s_1_0]; decide) ?_
    refine lv_tableIn (off := 39) (tgt := 40) hx hb d_F_count_1 (by decide) (by decide) (by decide) (by decide) ?_
    refine lv_aload_n hx hb d_F_count_40 rfl (lv_at hl 0 rfl) ?_
    refine va_get (D := D) (ci := 0) (C := R_F) (T := T_F) (N := 8) hx hb hts (fun w h => kT w (i_F w h)) hown hK hP 0 rfl rfl 3 (by decide) (hts _ (kT _ wd_24cf1a27)) (fun _ h9 => h9) rfl d_F_count_41 ?_
    refine va_getN (D := D) (ci := 4) (C := R_D) (T := T_D) (N := 2) hx hb hts (fun w h => kT w (i_D w h)) hown hK hP 4 rfl rfl 1 (by decide) (va_Nw.use rfl (hZ.2.2.1 _ wn_29b5f204)) (fun _ h9 => h9) rfl d_F_count_44 ?_
    refine W.widen (k := 1) (n := 6) (Nat.le_of_ble_eq_true rfl) (Nat.le_of_ble_eq_true rfl) ?_
    exact x_ret (k_iret hx hb hr hlocks hK hP hD hS (by simp [cdCount, s_1_0]) (by simp [rvCount, s_1_0]) (rfl) d_F_count_47)
  by_cases s_1_1 : x = (1 : Int32)
  · skip
    refine lv_eqi (y := nI 1) (by rw [s_1_1]; decide) ?_
    refine lv_tableIn (off := 47) (tgt := 48) hx hb d_F_count_1 (by decide) (by decide) (by decide) (by decide) ?_
    refine lv_aload_n hx hb d_F_count_48 rfl (lv_at hl 0 rfl) ?_
    refine va_get (D := D) (ci := 0) (C := R_F) (T := T_F) (N := 8) hx hb hts (fun w h => kT w (i_F w h)) hown hK hP 0 rfl rfl 1 (by decide) (hts _ (kT _ wd_20c3854e)) (fun _ h9 => h9) rfl d_F_count_49 ?_
    refine va_getN (D := D) (ci := 2) (C := R_R) (T := T_R) (N := 7) hx hb hts (fun w h => kT w (i_R w h)) hown hK hP 2 rfl rfl 6 (by decide) (va_Nw.use rfl (hZ.2.2.1 _ wn_7137b64e)) (fun _ h9 => h9) rfl d_F_count_52 ?_
    refine W.widen (k := 1) (n := 6) (Nat.le_of_ble_eq_true rfl) (Nat.le_of_ble_eq_true rfl) ?_
    exact x_ret (k_iret hx hb hr hlocks hK hP hD hS (by simp [cdCount, s_1_0, s_1_1]) (by simp [rvCount, s_1_0, s_1_1]) (rfl) d_F_count_55)
  by_cases s_1_2 : x = (2 : Int32)
  · skip
    refine lv_eqi (y := nI 2) (by rw [s_1_2]; decide) ?_
    refine lv_tableIn (off := 55) (tgt := 56) hx hb d_F_count_1 (by decide) (by decide) (by decide) (by decide) ?_
    refine lv_aload_n hx hb d_F_count_56 rfl (lv_at hl 0 rfl) ?_
    refine va_get (D := D) (ci := 0) (C := R_F) (T := T_F) (N := 8) hx hb hts (fun w h => kT w (i_F w h)) hown hK hP 0 rfl rfl 0 (by decide) (hts _ (kT _ wd_61505274)) (fun _ h9 => h9) rfl d_F_count_57 ?_
    refine k_callV (c_Schema_fieldsInAll l D a g tw sLen sKind sExt sMust rTab rFil rNum rLnk rLen rItm made pItm held dByt dLen bByt bRea bRec bItm bFld bOff bOfp kept wrt wid ent ver fAdr fTab adr tab lf   ) m_S_fieldsInAll wd_3397ed31 1 1 rfl rfl rfl kT hx hb hml hown hts ⟨Nat.le_of_ble_eq_true rfl, Nat.le_of_ble_eq_true rfl⟩ ⟨Nat.le_of_ble_eq_true rfl, Nat.le_of_ble_eq_true rfl⟩ hK hP hD hS hA hZ hl.1 rfl rfl (Nat.le_of_ble_eq_true rfl) d_F_count_60 (fun H locs hP hD hS => ?_)
    have hP : va_P D vwCl (Wd a g sLen sKind sExt sMust rTab rFil rNum rLnk rLen rItm made pItm held dByt dLen bByt bRea bRec bItm bFld bOff bOfp kept wrt wid ent ver fAdr fTab adr tab lf) H := hP
    have hD : va_D A (Wd a g sLen sKind sExt sMust rTab rFil rNum rLnk rLen rItm made pItm held dByt dLen bByt bRea bRec bItm bFld bOff bOfp kept wrt wid ent ver fAdr fTab adr tab lf) := hD
    refine W.eq (g2 := F0 m 63 ls [.int (nI (sLen 0 + sLen 1 + sLen 2 + sLen 3))]) rfl ?_
    refine W.widen (k := 1) (n := 6) (Nat.le_of_ble_eq_true rfl) (Nat.le_of_ble_eq_true rfl) ?_
    exact x_ret (k_iret hx hb hr hlocks hK hP hD hS (by simp [cdCount, s_1_0, s_1_1, s_1_2]) (by simp [rvCount, s_1_0, s_1_1, s_1_2]) (rfl) d_F_count_63)
  by_cases s_1_3 : x = (3 : Int32)
  · skip
    refine lv_eqi (y := nI 3) (by rw [s_1_3]; decide) ?_
    refine lv_tableIn (off := 63) (tgt := 64) hx hb d_F_count_1 (by decide) (by decide) (by decide) (by decide) ?_
    refine lv_aload_n hx hb d_F_count_64 rfl (lv_at hl 0 rfl) ?_
    refine va_get (D := D) (ci := 0) (C := R_F) (T := T_F) (N := 8) hx hb hts (fun w h => kT w (i_F w h)) hown hK hP 0 rfl rfl 2 (by decide) (hts _ (kT _ wd_e9e83da4)) (fun _ h9 => h9) rfl d_F_count_65 ?_
    refine va_getN (D := D) (ci := 3) (C := R_P) (T := T_P) (N := 2) hx hb hts (fun w h => kT w (i_P w h)) hown hK hP 3 rfl rfl 1 (by decide) (va_Nw.use rfl (hZ.2.2.1 _ wn_6d58f88b)) (fun _ h9 => h9) rfl d_F_count_68 ?_
    refine W.widen (k := 1) (n := 6) (Nat.le_of_ble_eq_true rfl) (Nat.le_of_ble_eq_true rfl) ?_
    exact x_ret (k_iret hx hb hr hlocks hK hP hD hS (by simp [cdCount, s_1_0, s_1_1, s_1_2, s_1_3]) (by simp [rvCount, s_1_0, s_1_1, s_1_2, s_1_3]) (rfl) d_F_count_71)
  by_cases s_1_4 : x = (4 : Int32)
  · skip
    refine lv_eqi (y := nI 4) (by rw [s_1_4]; decide) ?_
    refine lv_tableIn (off := 71) (tgt := 72) hx hb d_F_count_1 (by decide) (by decide) (by decide) (by decide) ?_
    refine lv_aload_n hx hb d_F_count_72 rfl (lv_at hl 0 rfl) ?_
    refine va_get (D := D) (ci := 0) (C := R_F) (T := T_F) (N := 8) hx hb hts (fun w h => kT w (i_F w h)) hown hK hP 0 rfl rfl 6 (by decide) (hts _ (kT _ wd_59fc3318)) (fun _ h9 => h9) rfl d_F_count_73 ?_
    refine va_getN (D := D) (ci := 7) (C := R_C) (T := T_C) (N := 5) hx hb hts (fun w h => kT w (i_C w h)) hown hK hP 7 rfl rfl 0 (by decide) (va_Nw.use rfl (hZ.2.2.1 _ wn_14b5d946)) (fun _ h9 => h9) rfl d_F_count_76 ?_
    refine lv_if_eq (tgt := 86) hx hb d_F_count_79 (by decide) (fun c_79 => ?_) (fun c_79 => ?_)
    · skip
      have c_79 := (bI_0).mp c_79
      refine lv_iconst (v := nI 0) hx hb d_F_count_86 (by decide) ?_
      refine W.widen (k := 1) (n := 6) (Nat.le_of_ble_eq_true rfl) (Nat.le_of_ble_eq_true rfl) ?_
      exact x_ret (k_iret hx hb hr hlocks hK hP hD hS (by simp [cdCount, s_1_0, s_1_1, s_1_2, s_1_3, s_1_4, c_79]) (by simp [rvCount, s_1_0, s_1_1, s_1_2, s_1_3, s_1_4, c_79] <;> decide) (rfl) d_F_count_87)
    · skip
      have c_79 := mt (bI_0).mpr c_79
      have c_79 := eq_true_of_ne_false c_79
      refine lv_iconst (v := nI 1) hx hb d_F_count_82 (by decide) ?_
      refine lv_goto (tgt := 87) hx hb d_F_count_83 (by decide) ?_
      refine W.widen (k := 1) (n := 6) (Nat.le_of_ble_eq_true rfl) (Nat.le_of_ble_eq_true rfl) ?_
      exact x_ret (k_iret hx hb hr hlocks hK hP hD hS (by simp [cdCount, s_1_0, s_1_1, s_1_2, s_1_3, s_1_4, c_79]) (by simp [rvCount, s_1_0, s_1_1, s_1_2, s_1_3, s_1_4, c_79] <;> decide) (rfl) d_F_count_87)
  by_cases s_1_5 : x = (5 : Int32)
  · skip
    refine lv_eqi (y := nI 5) (by rw [s_1_5]; decide) ?_
    refine lv_tableIn (off := 87) (tgt := 88) hx hb d_F_count_1 (by decide) (by decide) (by decide) (by decide) ?_
    refine lv_aload_n hx hb d_F_count_88 rfl (lv_at hl 0 rfl) ?_
    refine va_get (D := D) (ci := 0) (C := R_F) (T := T_F) (N := 8) hx hb hts (fun w h => kT w (i_F w h)) hown hK hP 0 rfl rfl 6 (by decide) (hts _ (kT _ wd_59fc3318)) (fun _ h9 => h9) rfl d_F_count_89 ?_
    refine va_getN (D := D) (ci := 7) (C := R_C) (T := T_C) (N := 5) hx hb hts (fun w h => kT w (i_C w h)) hown hK hP 7 rfl rfl 0 (by decide) (va_Nw.use rfl (hZ.2.2.1 _ wn_14b5d946)) (fun _ h9 => h9) rfl d_F_count_92 ?_
    refine lv_if_eq (tgt := 108) hx hb d_F_count_95 (by decide) (fun c_95 => ?_) (fun c_95 => ?_)
    · skip
      have c_95 := (bI_0).mp c_95
      refine lv_iconst (v := -1) hx hb d_F_count_108 (by decide) ?_
      refine W.widen (k := 1) (n := 6) (Nat.le_of_ble_eq_true rfl) (Nat.le_of_ble_eq_true rfl) ?_
      exact x_ret (k_iret hx hb hr hlocks hK hP hD hS (by simp [cdCount, s_1_0, s_1_1, s_1_2, s_1_3, s_1_4, s_1_5, c_95]) (by simp [rvCount, s_1_0, s_1_1, s_1_2, s_1_3, s_1_4, s_1_5, c_95]) (rfl) d_F_count_109)
    · skip
      have c_95 := mt (bI_0).mpr c_95
      have c_95 := eq_true_of_ne_false c_95
      refine lv_aload_n hx hb d_F_count_98 rfl (lv_at hl 0 rfl) ?_
      refine va_get (D := D) (ci := 0) (C := R_F) (T := T_F) (N := 8) hx hb hts (fun w h => kT w (i_F w h)) hown hK hP 0 rfl rfl 6 (by decide) (hts _ (kT _ wd_59fc3318)) (fun _ h9 => h9) rfl d_F_count_99 ?_
      refine va_getN (D := D) (ci := 7) (C := R_C) (T := T_C) (N := 5) hx hb hts (fun w h => kT w (i_C w h)) hown hK hP 7 rfl rfl 4 (by decide) (va_Nw.use rfl (hZ.2.2.1 _ wn_1769704a)) (fun _ h9 => h9) rfl d_F_count_102 ?_
      refine lv_goto (tgt := 109) hx hb d_F_count_105 (by decide) ?_
      refine W.widen (k := 1) (n := 6) (Nat.le_of_ble_eq_true rfl) (Nat.le_of_ble_eq_true rfl) ?_
      exact x_ret (k_iret hx hb hr hlocks hK hP hD hS (by simp [cdCount, s_1_0, s_1_1, s_1_2, s_1_3, s_1_4, s_1_5, c_95]) (by simp [rvCount, s_1_0, s_1_1, s_1_2, s_1_3, s_1_4, s_1_5, c_95]) (rfl) d_F_count_109)
  refine lv_tableOut (tgt := 110) hx hb d_F_count_1 (by have q0 := lv_neT (a := 0) s_1_0 (by decide); have q1 := lv_neT (a := 1) s_1_1 (by decide); have q2 := lv_neT (a := 2) s_1_2 (by decide); have q3 := lv_neT (a := 3) s_1_3 (by decide); have q4 := lv_neT (a := 4) s_1_4 (by decide); have q5 := lv_neT (a := 5) s_1_5 (by decide); omega) (by decide) ?_
  exact k_throw hl0 hx hb hown kT hts ⟨by decide, by decide⟩ wx_ba67719a hZ hex hlocks hK hP hD hS (hl.1.trans hml.symm) (⟨rfl, by simp [cdCount, s_1_0, s_1_1, s_1_2, s_1_3, s_1_4, s_1_5]⟩) (rfl) d_F_count_110 d_F_count_113 d_F_count_114 d_F_count_117 ⟨Nat.le_of_ble_eq_true rfl, Nat.le_of_ble_eq_true rfl⟩ ⟨Nat.le_of_ble_eq_true rfl, Nat.le_of_ble_eq_true rfl⟩ (Nat.le_of_ble_eq_true rfl) (Nat.le_of_ble_eq_true rfl)

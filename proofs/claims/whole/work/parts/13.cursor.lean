/-! reading at the cursor -/
def vOf (d : Nat → Nat) (n x : Nat) : Int32 := ((nI x).toInt64 - sxL 4 (leN d n (nI x) 4)).toInt32
def ofF (d : Nat → Nat) (n x f : Nat) : Nat := offF d n (vOf d n x) f
def plF (d : Nat → Nat) (n x f : Nat) : Int32 := if ofF d n x f = 0 then -1 else nI (x + ofF d n x f)
def tgF (d : Nat → Nat) (n p : Nat) : Nat := p + min (leN d n (nI p) 4) 100000
theorem offF_lt {d : Nat → Nat} {n : Nat} {x : Int32} {f : Nat} (hB : ∀ k, d k < 256) : offF d n x f < 65536 := by
  unfold offF
  split
  · exact leN_lt hB 2
  · decide
theorem plF_m1 {d : Nat → Nat} {n x f : Nat} (hB : ∀ k, d k < 256) (hx : x < 2 ^ 30) : plF d n x f = -1 ↔ ofF d n x f = 0 := by
  have h := offF_lt (n := n) (x := vOf d n x) (f := f) hB
  have h2 : ofF d n x f < 65536 := h
  unfold plF
  by_cases q : ofF d n x f = 0
  · simp [q]
  · rw [if_neg q]
    refine ⟨fun e => ?_, fun e => absurd e q⟩
    have h3 : ¬ nI (x + ofF d n x f) < 0 := nI_pos (by omega)
    rw [e] at h3
    exact absurd (by decide) h3
theorem plF_in {d : Nat → Nat} {n x f : Nat} (q : ¬ ofF d n x f = 0) : plF d n x f = nI (x + ofF d n x f) := by rw [plF, if_neg q]
theorem kWd_in : ∀ k, k < 7 → 1 ≤ kWd k ∧ kWd k ≤ 8 := by decide
def cdCur (ver : Bool) (sLen : Nat → Nat) (tab : Nat) (x : Int32) : Nat := if ver = true then (if hasF (sLen tab) x = true then 0 else 2) else 1
theorem cdCur_0 {ver : Bool} {sLen : Nat → Nat} {tab : Nat} {x : Int32} (h : cdCur ver sLen tab x = 0) : ver = true ∧ hasF (sLen tab) x = true := by
  unfold cdCur at h
  split at h
  · split at h
    · exact ⟨by assumption, by assumption⟩
    · cases h
  · cases h
def cdKd (cd kd lo hi : Nat) : Nat := if cd = 0 then (if lo ≤ kd ∧ kd ≤ hi then 0 else 3) else cd
/-- how many elements: -1 if there is nothing -/
def itF (d : Nat → Nat) (n x f : Nat) : Int32 := if ofF d n x f = 0 then -1 else nI (min (leN d n (nI (tgF d n (x + ofF d n x f))) 4) 100000)
theorem cdKd_0 {cd kd lo hi : Nat} (h : cdKd cd kd lo hi = 0) : cd = 0 := by
  unfold cdKd at h
  split at h
  · assumption
  · exact h
theorem itF_in {d : Nat → Nat} {n x f : Nat} {y : Int32} (h1 : ¬ y < 0) (h2 : y < itF d n x f) : ¬ ofF d n x f = 0 := by
  intro q
  rw [itF, if_pos q] at h2
  exact h1 (Int32.lt_trans h2 (by decide))
def cdEl (cd : Nat) (len y : Int32) : Nat := if cd = 0 then (if ¬ y < 0 ∧ y < len then 0 else 4) else cd
theorem wd_7b95883a : Cond.methodLink R_D 53 y_D_offsetsOf ∈ kGW := kGW_of (List.mem_of_getElem? (i := 770) (by decide +kernel)) (by decide)
theorem wd_a6ba613a : Cond.methodLink R_D 57 y_D_offsetOf ∈ kGW := kGW_of (List.mem_of_getElem? (i := 771) (by decide +kernel)) (by decide)
theorem wd_f1df49f7 : Cond.methodLink R_F 192 y_F_kindAtCursor ∈ kGW := kGW_of (List.mem_of_getElem? (i := 762) (by decide +kernel)) (by decide)
theorem wd_c6059eda : Cond.methodLink R_F 198 y_D_placeOf ∈ kGW := kGW_of (List.mem_of_getElem? (i := 766) (by decide +kernel)) (by decide)
theorem wd_a6aced7a : Cond.methodLink R_F 201 y_D_target ∈ kGW := kGW_of (List.mem_of_getElem? (i := 772) (by decide +kernel)) (by decide)
theorem wd_7a55472d : Cond.methodLink R_F 207 y_C_go ∈ kGW := kGW_of (List.mem_of_getElem? (i := 773) (by decide +kernel)) (by decide)
theorem wd_ad1711f3 : Cond.fieldLink R_F 210 R_F "WIDTHS" "[I" ∈ kGW := kGW_of (List.mem_of_getElem? (i := 781) (by decide +kernel)) (by decide)
theorem wd_58a50798 : Cond.methodLink R_F 214 y_D_signed ∈ kGW := kGW_of (List.mem_of_getElem? (i := 782) (by decide +kernel)) (by decide)
theorem wd_d6878f84 : Cond.methodLink R_F 176 y_D_capped ∈ kGW := kGW_of (List.mem_of_getElem? (i := 734) (by decide +kernel)) (by decide)
theorem wd_79a62401 : Cond.methodLink R_F 218 y_F_itemsAtCursor ∈ kGW := kGW_of (List.mem_of_getElem? (i := 790) (by decide +kernel)) (by decide)
set_option maxRecDepth 20000 in
theorem wd_373b2388 : Cond.code y_D_placeOf b_D_placeOf 4 (some .int) ∈ kGW := kGW_of (List.mem_of_getElem? (i := 769) (by rfl)) (by decide)
theorem wd_fa96c425 : Cond.instanceMethod y_D_placeOf ∈ kGW := kGW_of (List.mem_of_getElem? (i := 767) (by decide +kernel)) (by decide)
theorem wd_59dafc2e : Cond.selects R_D y_D_placeOf y_D_placeOf ∈ kGW := kGW_of (List.mem_of_getElem? (i := 768) (by decide +kernel)) (by decide)
set_option maxRecDepth 20000 in
theorem wd_4605a644 : Cond.code y_F_kindAtCursor b_F_kindAtCursor 2 (some .int) ∈ kGW := kGW_of (List.mem_of_getElem? (i := 765) (by rfl)) (by decide)
theorem wd_56ebfd5e : Cond.instanceMethod y_F_kindAtCursor ∈ kGW := kGW_of (List.mem_of_getElem? (i := 764) (by decide +kernel)) (by decide)
theorem wd_f7bebfc2 : Cond.selects R_F y_F_kindAtCursor y_F_kindAtCursor ∈ kGW := kGW_of (List.mem_of_getElem? (i := 20) (by decide +kernel)) (by decide)
set_option maxRecDepth 20000 in
theorem wd_3302d518 : Cond.code y_F_down b_F_down 3 (some .int) ∈ kGW := kGW_of (List.mem_of_getElem? (i := 761) (by rfl)) (by decide)
theorem wd_eb194151 : Cond.instanceMethod y_F_down ∈ kGW := kGW_of (List.mem_of_getElem? (i := 759) (by decide +kernel)) (by decide)
theorem wd_e7bf2961 : Cond.selects R_F y_F_down y_F_down ∈ kGW := kGW_of (List.mem_of_getElem? (i := 760) (by decide +kernel)) (by decide)
set_option maxRecDepth 20000 in
theorem wd_2c4ecf97 : Cond.code y_F_value b_F_value 4 (some .long) ∈ kGW := kGW_of (List.mem_of_getElem? (i := 780) (by rfl)) (by decide)
theorem wd_4075710a : Cond.instanceMethod y_F_value ∈ kGW := kGW_of (List.mem_of_getElem? (i := 778) (by decide +kernel)) (by decide)
theorem wd_02f577eb : Cond.selects R_F y_F_value y_F_value ∈ kGW := kGW_of (List.mem_of_getElem? (i := 779) (by decide +kernel)) (by decide)
set_option maxRecDepth 20000 in
theorem wd_53617108 : Cond.code y_F_itemsAtCursor b_F_itemsAtCursor 4 (some .int) ∈ kGW := kGW_of (List.mem_of_getElem? (i := 793) (by rfl)) (by decide)
theorem wd_2c232be5 : Cond.instanceMethod y_F_itemsAtCursor ∈ kGW := kGW_of (List.mem_of_getElem? (i := 792) (by decide +kernel)) (by decide)
theorem wd_312ce4a1 : Cond.selects R_F y_F_itemsAtCursor y_F_itemsAtCursor ∈ kGW := kGW_of (List.mem_of_getElem? (i := 21) (by decide +kernel)) (by decide)
set_option maxRecDepth 20000 in
theorem wd_029f9611 : Cond.code y_F_size b_F_size 2 (some .int) ∈ kGW := kGW_of (List.mem_of_getElem? (i := 789) (by rfl)) (by decide)
theorem wd_3e97bb14 : Cond.instanceMethod y_F_size ∈ kGW := kGW_of (List.mem_of_getElem? (i := 787) (by decide +kernel)) (by decide)
theorem wd_b5afaed5 : Cond.selects R_F y_F_size y_F_size ∈ kGW := kGW_of (List.mem_of_getElem? (i := 788) (by decide +kernel)) (by decide)
set_option maxRecDepth 20000 in
theorem wd_aeae5842 : Cond.code y_F_element b_F_element 5 (some .int) ∈ kGW := kGW_of (List.mem_of_getElem? (i := 800) (by rfl)) (by decide)
theorem wd_d5bfdc3e : Cond.instanceMethod y_F_element ∈ kGW := kGW_of (List.mem_of_getElem? (i := 798) (by decide +kernel)) (by decide)
theorem wd_a8cac963 : Cond.selects R_F y_F_element y_F_element ∈ kGW := kGW_of (List.mem_of_getElem? (i := 799) (by decide +kernel)) (by decide)
theorem wn_7c226025 : Cond.fieldLinkNest R_F 195 R_C "address" "I" "FlatStore" ∈ kNW := kNW_of (List.mem_of_getElem? (i := 236) (by decide +kernel)) (by decide)
theorem d_D_placeOf_0 : decode b_D_placeOf 0 = .ok (.aload_n 0, 1) := by decide +kernel
theorem d_D_placeOf_1 : decode b_D_placeOf 1 = .ok (.aload_n 0, 1) := by decide +kernel
theorem d_D_placeOf_2 : decode b_D_placeOf 2 = .ok (.iload_n 1, 1) := by decide +kernel
theorem d_D_placeOf_3 : decode b_D_placeOf 3 = .ok (.invokevirtual 53, 3) := by decide +kernel
theorem d_D_placeOf_6 : decode b_D_placeOf 6 = .ok (.l2i, 1) := by decide +kernel
theorem d_D_placeOf_7 : decode b_D_placeOf 7 = .ok (.iload_n 2, 1) := by decide +kernel
theorem d_D_placeOf_8 : decode b_D_placeOf 8 = .ok (.invokevirtual 57, 3) := by decide +kernel
theorem d_D_placeOf_11 : decode b_D_placeOf 11 = .ok (.istore_n 3, 1) := by decide +kernel
theorem d_D_placeOf_12 : decode b_D_placeOf 12 = .ok (.iload_n 3, 1) := by decide +kernel
theorem d_D_placeOf_13 : decode b_D_placeOf 13 = .ok (.ifCond .ne 7, 3) := by decide +kernel
theorem d_D_placeOf_16 : decode b_D_placeOf 16 = .ok (.iconst (-1), 1) := by decide +kernel
theorem d_D_placeOf_17 : decode b_D_placeOf 17 = .ok (.goto 6, 3) := by decide +kernel
theorem d_D_placeOf_20 : decode b_D_placeOf 20 = .ok (.iload_n 1, 1) := by decide +kernel
theorem d_D_placeOf_21 : decode b_D_placeOf 21 = .ok (.iload_n 3, 1) := by decide +kernel
theorem d_D_placeOf_22 : decode b_D_placeOf 22 = .ok (.iadd, 1) := by decide +kernel
theorem d_D_placeOf_23 : decode b_D_placeOf 23 = .ok (.ireturn, 1) := by decide +kernel
theorem d_F_kindAtCursor_0 : decode b_F_kindAtCursor 0 = .ok (.aload_n 0, 1) := by decide +kernel
theorem d_F_kindAtCursor_1 : decode b_F_kindAtCursor 1 = .ok (.getfield 58, 3) := by decide +kernel
theorem d_F_kindAtCursor_4 : decode b_F_kindAtCursor 4 = .ok (.getfield 185, 3) := by decide +kernel
theorem d_F_kindAtCursor_7 : decode b_F_kindAtCursor 7 = .ok (.ifCond .ne 11, 3) := by decide +kernel
theorem d_F_kindAtCursor_10 : decode b_F_kindAtCursor 10 = .ok (.new 81, 3) := by decide +kernel
theorem d_F_kindAtCursor_13 : decode b_F_kindAtCursor 13 = .ok (.dup, 1) := by decide +kernel
theorem d_F_kindAtCursor_14 : decode b_F_kindAtCursor 14 = .ok (.invokespecial 83, 3) := by decide +kernel
theorem d_F_kindAtCursor_17 : decode b_F_kindAtCursor 17 = .ok (.athrow, 1) := by decide +kernel
theorem d_F_kindAtCursor_18 : decode b_F_kindAtCursor 18 = .ok (.aload_n 0, 1) := by decide +kernel
theorem d_F_kindAtCursor_19 : decode b_F_kindAtCursor 19 = .ok (.getfield 12, 3) := by decide +kernel
theorem d_F_kindAtCursor_22 : decode b_F_kindAtCursor 22 = .ok (.aload_n 0, 1) := by decide +kernel
theorem d_F_kindAtCursor_23 : decode b_F_kindAtCursor 23 = .ok (.getfield 58, 3) := by decide +kernel
theorem d_F_kindAtCursor_26 : decode b_F_kindAtCursor 26 = .ok (.getfield 204, 3) := by decide +kernel
theorem d_F_kindAtCursor_29 : decode b_F_kindAtCursor 29 = .ok (.iload_n 1, 1) := by decide +kernel
theorem d_F_kindAtCursor_30 : decode b_F_kindAtCursor 30 = .ok (.invokevirtual 228, 3) := by decide +kernel
theorem d_F_kindAtCursor_33 : decode b_F_kindAtCursor 33 = .ok (.ifCond .ne 11, 3) := by decide +kernel
theorem d_F_kindAtCursor_36 : decode b_F_kindAtCursor 36 = .ok (.new 127, 3) := by decide +kernel
theorem d_F_kindAtCursor_39 : decode b_F_kindAtCursor 39 = .ok (.dup, 1) := by decide +kernel
theorem d_F_kindAtCursor_40 : decode b_F_kindAtCursor 40 = .ok (.invokespecial 129, 3) := by decide +kernel
theorem d_F_kindAtCursor_43 : decode b_F_kindAtCursor 43 = .ok (.athrow, 1) := by decide +kernel
theorem d_F_kindAtCursor_44 : decode b_F_kindAtCursor 44 = .ok (.aload_n 0, 1) := by decide +kernel
theorem d_F_kindAtCursor_45 : decode b_F_kindAtCursor 45 = .ok (.getfield 12, 3) := by decide +kernel
theorem d_F_kindAtCursor_48 : decode b_F_kindAtCursor 48 = .ok (.aload_n 0, 1) := by decide +kernel
theorem d_F_kindAtCursor_49 : decode b_F_kindAtCursor 49 = .ok (.getfield 58, 3) := by decide +kernel
theorem d_F_kindAtCursor_52 : decode b_F_kindAtCursor 52 = .ok (.getfield 204, 3) := by decide +kernel
theorem d_F_kindAtCursor_55 : decode b_F_kindAtCursor 55 = .ok (.iload_n 1, 1) := by decide +kernel
theorem d_F_kindAtCursor_56 : decode b_F_kindAtCursor 56 = .ok (.invokevirtual 221, 3) := by decide +kernel
theorem d_F_kindAtCursor_59 : decode b_F_kindAtCursor 59 = .ok (.ireturn, 1) := by decide +kernel
theorem d_F_down_0 : decode b_F_down 0 = .ok (.aload_n 0, 1) := by decide +kernel
theorem d_F_down_1 : decode b_F_down 1 = .ok (.iload_n 1, 1) := by decide +kernel
theorem d_F_down_2 : decode b_F_down 2 = .ok (.invokevirtual 192, 3) := by decide +kernel
theorem d_F_down_5 : decode b_F_down 5 = .ok (.bipush 6, 2) := by decide +kernel
theorem d_F_down_7 : decode b_F_down 7 = .ok (.if_icmp .eq 11, 3) := by decide +kernel
theorem d_F_down_10 : decode b_F_down 10 = .ok (.new 100, 3) := by decide +kernel
theorem d_F_down_13 : decode b_F_down 13 = .ok (.dup, 1) := by decide +kernel
theorem d_F_down_14 : decode b_F_down 14 = .ok (.invokespecial 102, 3) := by decide +kernel
theorem d_F_down_17 : decode b_F_down 17 = .ok (.athrow, 1) := by decide +kernel
theorem d_F_down_18 : decode b_F_down 18 = .ok (.aload_n 0, 1) := by decide +kernel
theorem d_F_down_19 : decode b_F_down 19 = .ok (.getfield 33, 3) := by decide +kernel
theorem d_F_down_22 : decode b_F_down 22 = .ok (.aload_n 0, 1) := by decide +kernel
theorem d_F_down_23 : decode b_F_down 23 = .ok (.getfield 58, 3) := by decide +kernel
theorem d_F_down_26 : decode b_F_down 26 = .ok (.getfield 195, 3) := by decide +kernel
theorem d_F_down_29 : decode b_F_down 29 = .ok (.iload_n 1, 1) := by decide +kernel
theorem d_F_down_30 : decode b_F_down 30 = .ok (.invokevirtual 198, 3) := by decide +kernel
theorem d_F_down_33 : decode b_F_down 33 = .ok (.istore_n 2, 1) := by decide +kernel
theorem d_F_down_34 : decode b_F_down 34 = .ok (.iload_n 2, 1) := by decide +kernel
theorem d_F_down_35 : decode b_F_down 35 = .ok (.iconst (-1), 1) := by decide +kernel
theorem d_F_down_36 : decode b_F_down 36 = .ok (.if_icmp .ne 5, 3) := by decide +kernel
theorem d_F_down_39 : decode b_F_down 39 = .ok (.iconst 0, 1) := by decide +kernel
theorem d_F_down_40 : decode b_F_down 40 = .ok (.ireturn, 1) := by decide +kernel
theorem d_F_down_41 : decode b_F_down 41 = .ok (.aload_n 0, 1) := by decide +kernel
theorem d_F_down_42 : decode b_F_down 42 = .ok (.getfield 58, 3) := by decide +kernel
theorem d_F_down_45 : decode b_F_down 45 = .ok (.aload_n 0, 1) := by decide +kernel
theorem d_F_down_46 : decode b_F_down 46 = .ok (.getfield 33, 3) := by decide +kernel
theorem d_F_down_49 : decode b_F_down 49 = .ok (.iload_n 2, 1) := by decide +kernel
theorem d_F_down_50 : decode b_F_down 50 = .ok (.invokevirtual 201, 3) := by decide +kernel
theorem d_F_down_53 : decode b_F_down 53 = .ok (.aload_n 0, 1) := by decide +kernel
theorem d_F_down_54 : decode b_F_down 54 = .ok (.getfield 12, 3) := by decide +kernel
theorem d_F_down_57 : decode b_F_down 57 = .ok (.aload_n 0, 1) := by decide +kernel
theorem d_F_down_58 : decode b_F_down 58 = .ok (.getfield 58, 3) := by decide +kernel
theorem d_F_down_61 : decode b_F_down 61 = .ok (.getfield 204, 3) := by decide +kernel
theorem d_F_down_64 : decode b_F_down 64 = .ok (.iload_n 1, 1) := by decide +kernel
theorem d_F_down_65 : decode b_F_down 65 = .ok (.invokevirtual 133, 3) := by decide +kernel
theorem d_F_down_68 : decode b_F_down 68 = .ok (.invokevirtual 207, 3) := by decide +kernel
theorem d_F_down_71 : decode b_F_down 71 = .ok (.iconst 1, 1) := by decide +kernel
theorem d_F_down_72 : decode b_F_down 72 = .ok (.ireturn, 1) := by decide +kernel
theorem d_F_value_0 : decode b_F_value 0 = .ok (.aload_n 0, 1) := by decide +kernel
theorem d_F_value_1 : decode b_F_value 1 = .ok (.iload_n 1, 1) := by decide +kernel
theorem d_F_value_2 : decode b_F_value 2 = .ok (.invokevirtual 192, 3) := by decide +kernel
theorem d_F_value_5 : decode b_F_value 5 = .ok (.istore_n 2, 1) := by decide +kernel
theorem d_F_value_6 : decode b_F_value 6 = .ok (.iload_n 2, 1) := by decide +kernel
theorem d_F_value_7 : decode b_F_value 7 = .ok (.iconst 4, 1) := by decide +kernel
theorem d_F_value_8 : decode b_F_value 8 = .ok (.if_icmp .lt 11, 3) := by decide +kernel
theorem d_F_value_11 : decode b_F_value 11 = .ok (.new 100, 3) := by decide +kernel
theorem d_F_value_14 : decode b_F_value 14 = .ok (.dup, 1) := by decide +kernel
theorem d_F_value_15 : decode b_F_value 15 = .ok (.invokespecial 102, 3) := by decide +kernel
theorem d_F_value_18 : decode b_F_value 18 = .ok (.athrow, 1) := by decide +kernel
theorem d_F_value_19 : decode b_F_value 19 = .ok (.aload_n 0, 1) := by decide +kernel
theorem d_F_value_20 : decode b_F_value 20 = .ok (.getfield 33, 3) := by decide +kernel
theorem d_F_value_23 : decode b_F_value 23 = .ok (.aload_n 0, 1) := by decide +kernel
theorem d_F_value_24 : decode b_F_value 24 = .ok (.getfield 58, 3) := by decide +kernel
theorem d_F_value_27 : decode b_F_value 27 = .ok (.getfield 195, 3) := by decide +kernel
theorem d_F_value_30 : decode b_F_value 30 = .ok (.iload_n 1, 1) := by decide +kernel
theorem d_F_value_31 : decode b_F_value 31 = .ok (.invokevirtual 198, 3) := by decide +kernel
theorem d_F_value_34 : decode b_F_value 34 = .ok (.istore_n 3, 1) := by decide +kernel
theorem d_F_value_35 : decode b_F_value 35 = .ok (.iload_n 3, 1) := by decide +kernel
theorem d_F_value_36 : decode b_F_value 36 = .ok (.iconst (-1), 1) := by decide +kernel
theorem d_F_value_37 : decode b_F_value 37 = .ok (.if_icmp .ne 20, 3) := by decide +kernel
theorem d_F_value_40 : decode b_F_value 40 = .ok (.aload_n 0, 1) := by decide +kernel
theorem d_F_value_41 : decode b_F_value 41 = .ok (.getfield 12, 3) := by decide +kernel
theorem d_F_value_44 : decode b_F_value 44 = .ok (.aload_n 0, 1) := by decide +kernel
theorem d_F_value_45 : decode b_F_value 45 = .ok (.getfield 58, 3) := by decide +kernel
theorem d_F_value_48 : decode b_F_value 48 = .ok (.getfield 204, 3) := by decide +kernel
theorem d_F_value_51 : decode b_F_value 51 = .ok (.iload_n 1, 1) := by decide +kernel
theorem d_F_value_52 : decode b_F_value 52 = .ok (.invokevirtual 133, 3) := by decide +kernel
theorem d_F_value_55 : decode b_F_value 55 = .ok (.i2l, 1) := by decide +kernel
theorem d_F_value_56 : decode b_F_value 56 = .ok (.lreturn, 1) := by decide +kernel
theorem d_F_value_57 : decode b_F_value 57 = .ok (.aload_n 0, 1) := by decide +kernel
theorem d_F_value_58 : decode b_F_value 58 = .ok (.getfield 33, 3) := by decide +kernel
theorem d_F_value_61 : decode b_F_value 61 = .ok (.iload_n 3, 1) := by decide +kernel
theorem d_F_value_62 : decode b_F_value 62 = .ok (.getstatic 210, 3) := by decide +kernel
theorem d_F_value_65 : decode b_F_value 65 = .ok (.iload_n 2, 1) := by decide +kernel
theorem d_F_value_66 : decode b_F_value 66 = .ok (.iaload, 1) := by decide +kernel
theorem d_F_value_67 : decode b_F_value 67 = .ok (.invokevirtual 214, 3) := by decide +kernel
theorem d_F_value_70 : decode b_F_value 70 = .ok (.lreturn, 1) := by decide +kernel
theorem d_F_itemsAtCursor_0 : decode b_F_itemsAtCursor 0 = .ok (.aload_n 0, 1) := by decide +kernel
theorem d_F_itemsAtCursor_1 : decode b_F_itemsAtCursor 1 = .ok (.iload_n 1, 1) := by decide +kernel
theorem d_F_itemsAtCursor_2 : decode b_F_itemsAtCursor 2 = .ok (.invokevirtual 192, 3) := by decide +kernel
theorem d_F_itemsAtCursor_5 : decode b_F_itemsAtCursor 5 = .ok (.istore_n 2, 1) := by decide +kernel
theorem d_F_itemsAtCursor_6 : decode b_F_itemsAtCursor 6 = .ok (.iload_n 2, 1) := by decide +kernel
theorem d_F_itemsAtCursor_7 : decode b_F_itemsAtCursor 7 = .ok (.iconst 4, 1) := by decide +kernel
theorem d_F_itemsAtCursor_8 : decode b_F_itemsAtCursor 8 = .ok (.if_icmp .eq 16, 3) := by decide +kernel
theorem d_F_itemsAtCursor_11 : decode b_F_itemsAtCursor 11 = .ok (.iload_n 2, 1) := by decide +kernel
theorem d_F_itemsAtCursor_12 : decode b_F_itemsAtCursor 12 = .ok (.iconst 5, 1) := by decide +kernel
theorem d_F_itemsAtCursor_13 : decode b_F_itemsAtCursor 13 = .ok (.if_icmp .eq 11, 3) := by decide +kernel
theorem d_F_itemsAtCursor_16 : decode b_F_itemsAtCursor 16 = .ok (.new 100, 3) := by decide +kernel
theorem d_F_itemsAtCursor_19 : decode b_F_itemsAtCursor 19 = .ok (.dup, 1) := by decide +kernel
theorem d_F_itemsAtCursor_20 : decode b_F_itemsAtCursor 20 = .ok (.invokespecial 102, 3) := by decide +kernel
theorem d_F_itemsAtCursor_23 : decode b_F_itemsAtCursor 23 = .ok (.athrow, 1) := by decide +kernel
theorem d_F_itemsAtCursor_24 : decode b_F_itemsAtCursor 24 = .ok (.aload_n 0, 1) := by decide +kernel
theorem d_F_itemsAtCursor_25 : decode b_F_itemsAtCursor 25 = .ok (.getfield 33, 3) := by decide +kernel
theorem d_F_itemsAtCursor_28 : decode b_F_itemsAtCursor 28 = .ok (.aload_n 0, 1) := by decide +kernel
theorem d_F_itemsAtCursor_29 : decode b_F_itemsAtCursor 29 = .ok (.getfield 58, 3) := by decide +kernel
theorem d_F_itemsAtCursor_32 : decode b_F_itemsAtCursor 32 = .ok (.getfield 195, 3) := by decide +kernel
theorem d_F_itemsAtCursor_35 : decode b_F_itemsAtCursor 35 = .ok (.iload_n 1, 1) := by decide +kernel
theorem d_F_itemsAtCursor_36 : decode b_F_itemsAtCursor 36 = .ok (.invokevirtual 198, 3) := by decide +kernel
theorem d_F_itemsAtCursor_39 : decode b_F_itemsAtCursor 39 = .ok (.istore_n 3, 1) := by decide +kernel
theorem d_F_itemsAtCursor_40 : decode b_F_itemsAtCursor 40 = .ok (.iload_n 3, 1) := by decide +kernel
theorem d_F_itemsAtCursor_41 : decode b_F_itemsAtCursor 41 = .ok (.iconst (-1), 1) := by decide +kernel
theorem d_F_itemsAtCursor_42 : decode b_F_itemsAtCursor 42 = .ok (.if_icmp .ne 7, 3) := by decide +kernel
theorem d_F_itemsAtCursor_45 : decode b_F_itemsAtCursor 45 = .ok (.iconst (-1), 1) := by decide +kernel
theorem d_F_itemsAtCursor_46 : decode b_F_itemsAtCursor 46 = .ok (.goto 18, 3) := by decide +kernel
theorem d_F_itemsAtCursor_49 : decode b_F_itemsAtCursor 49 = .ok (.aload_n 0, 1) := by decide +kernel
theorem d_F_itemsAtCursor_50 : decode b_F_itemsAtCursor 50 = .ok (.getfield 33, 3) := by decide +kernel
theorem d_F_itemsAtCursor_53 : decode b_F_itemsAtCursor 53 = .ok (.aload_n 0, 1) := by decide +kernel
theorem d_F_itemsAtCursor_54 : decode b_F_itemsAtCursor 54 = .ok (.getfield 33, 3) := by decide +kernel
theorem d_F_itemsAtCursor_57 : decode b_F_itemsAtCursor 57 = .ok (.iload_n 3, 1) := by decide +kernel
theorem d_F_itemsAtCursor_58 : decode b_F_itemsAtCursor 58 = .ok (.invokevirtual 201, 3) := by decide +kernel
theorem d_F_itemsAtCursor_61 : decode b_F_itemsAtCursor 61 = .ok (.invokevirtual 176, 3) := by decide +kernel
theorem d_F_itemsAtCursor_64 : decode b_F_itemsAtCursor 64 = .ok (.ireturn, 1) := by decide +kernel
theorem d_F_size_0 : decode b_F_size 0 = .ok (.aload_n 0, 1) := by decide +kernel
theorem d_F_size_1 : decode b_F_size 1 = .ok (.iload_n 1, 1) := by decide +kernel
theorem d_F_size_2 : decode b_F_size 2 = .ok (.invokevirtual 218, 3) := by decide +kernel
theorem d_F_size_5 : decode b_F_size 5 = .ok (.ireturn, 1) := by decide +kernel
theorem d_F_element_0 : decode b_F_element 0 = .ok (.aload_n 0, 1) := by decide +kernel
theorem d_F_element_1 : decode b_F_element 1 = .ok (.iload_n 1, 1) := by decide +kernel
theorem d_F_element_2 : decode b_F_element 2 = .ok (.invokevirtual 218, 3) := by decide +kernel
theorem d_F_element_5 : decode b_F_element 5 = .ok (.istore_n 3, 1) := by decide +kernel
theorem d_F_element_6 : decode b_F_element 6 = .ok (.iload_n 2, 1) := by decide +kernel
theorem d_F_element_7 : decode b_F_element 7 = .ok (.ifCond .lt 8, 3) := by decide +kernel
theorem d_F_element_10 : decode b_F_element 10 = .ok (.iload_n 2, 1) := by decide +kernel
theorem d_F_element_11 : decode b_F_element 11 = .ok (.iload_n 3, 1) := by decide +kernel
theorem d_F_element_12 : decode b_F_element 12 = .ok (.if_icmp .lt 11, 3) := by decide +kernel
theorem d_F_element_15 : decode b_F_element 15 = .ok (.new 149, 3) := by decide +kernel
theorem d_F_element_18 : decode b_F_element 18 = .ok (.dup, 1) := by decide +kernel
theorem d_F_element_19 : decode b_F_element 19 = .ok (.invokespecial 151, 3) := by decide +kernel
theorem d_F_element_22 : decode b_F_element 22 = .ok (.athrow, 1) := by decide +kernel
theorem d_F_element_23 : decode b_F_element 23 = .ok (.aload_n 0, 1) := by decide +kernel
theorem d_F_element_24 : decode b_F_element 24 = .ok (.getfield 33, 3) := by decide +kernel
theorem d_F_element_27 : decode b_F_element 27 = .ok (.aload_n 0, 1) := by decide +kernel
theorem d_F_element_28 : decode b_F_element 28 = .ok (.getfield 33, 3) := by decide +kernel
theorem d_F_element_31 : decode b_F_element 31 = .ok (.aload_n 0, 1) := by decide +kernel
theorem d_F_element_32 : decode b_F_element 32 = .ok (.getfield 58, 3) := by decide +kernel
theorem d_F_element_35 : decode b_F_element 35 = .ok (.getfield 195, 3) := by decide +kernel
theorem d_F_element_38 : decode b_F_element 38 = .ok (.iload_n 1, 1) := by decide +kernel
theorem d_F_element_39 : decode b_F_element 39 = .ok (.invokevirtual 198, 3) := by decide +kernel
theorem d_F_element_42 : decode b_F_element 42 = .ok (.invokevirtual 201, 3) := by decide +kernel
theorem d_F_element_45 : decode b_F_element 45 = .ok (.iconst 4, 1) := by decide +kernel
theorem d_F_element_46 : decode b_F_element 46 = .ok (.iadd, 1) := by decide +kernel
theorem d_F_element_47 : decode b_F_element 47 = .ok (.istore 4, 2) := by decide +kernel
theorem d_F_element_49 : decode b_F_element 49 = .ok (.aload_n 0, 1) := by decide +kernel
theorem d_F_element_50 : decode b_F_element 50 = .ok (.getfield 12, 3) := by decide +kernel
theorem d_F_element_53 : decode b_F_element 53 = .ok (.aload_n 0, 1) := by decide +kernel
theorem d_F_element_54 : decode b_F_element 54 = .ok (.getfield 58, 3) := by decide +kernel
theorem d_F_element_57 : decode b_F_element 57 = .ok (.getfield 204, 3) := by decide +kernel
theorem d_F_element_60 : decode b_F_element 60 = .ok (.iload_n 1, 1) := by decide +kernel
theorem d_F_element_61 : decode b_F_element 61 = .ok (.invokevirtual 221, 3) := by decide +kernel
theorem d_F_element_64 : decode b_F_element 64 = .ok (.iconst 4, 1) := by decide +kernel
theorem d_F_element_65 : decode b_F_element 65 = .ok (.if_icmp .ne 15, 3) := by decide +kernel
theorem d_F_element_68 : decode b_F_element 68 = .ok (.aload_n 0, 1) := by decide +kernel
theorem d_F_element_69 : decode b_F_element 69 = .ok (.getfield 33, 3) := by decide +kernel
theorem d_F_element_72 : decode b_F_element 72 = .ok (.iload 4, 2) := by decide +kernel
theorem d_F_element_74 : decode b_F_element 74 = .ok (.iload_n 2, 1) := by decide +kernel
theorem d_F_element_75 : decode b_F_element 75 = .ok (.iadd, 1) := by decide +kernel
theorem d_F_element_76 : decode b_F_element 76 = .ok (.invokevirtual 167, 3) := by decide +kernel
theorem d_F_element_79 : decode b_F_element 79 = .ok (.ireturn, 1) := by decide +kernel
theorem d_F_element_80 : decode b_F_element 80 = .ok (.aload_n 0, 1) := by decide +kernel
theorem d_F_element_81 : decode b_F_element 81 = .ok (.getfield 33, 3) := by decide +kernel
theorem d_F_element_84 : decode b_F_element 84 = .ok (.iload 4, 2) := by decide +kernel
theorem d_F_element_86 : decode b_F_element 86 = .ok (.iconst 2, 1) := by decide +kernel
theorem d_F_element_87 : decode b_F_element 87 = .ok (.iload_n 2, 1) := by decide +kernel
theorem d_F_element_88 : decode b_F_element 88 = .ok (.imul, 1) := by decide +kernel
theorem d_F_element_89 : decode b_F_element 89 = .ok (.iadd, 1) := by decide +kernel
theorem d_F_element_90 : decode b_F_element 90 = .ok (.iconst 2, 1) := by decide +kernel
theorem d_F_element_91 : decode b_F_element 91 = .ok (.invokevirtual 214, 3) := by decide +kernel
theorem d_F_element_94 : decode b_F_element 94 = .ok (.l2i, 1) := by decide +kernel
theorem d_F_element_95 : decode b_F_element 95 = .ok (.ireturn, 1) := by decide +kernel
theorem m_D_placeOf : kIV y_D_placeOf b_D_placeOf 4 (some .int) 2 := ⟨⟨wd_373b2388, wd_13e0721a, ⟨by decide, by decide⟩, by decide +kernel⟩, wd_fa96c425, wd_59dafc2e⟩
theorem m_F_kindAtCursor : kIV y_F_kindAtCursor b_F_kindAtCursor 2 (some .int) 1 := ⟨⟨wd_4605a644, wd_c1885a87, ⟨by decide, by decide⟩, by decide +kernel⟩, wd_56ebfd5e, wd_f7bebfc2⟩
theorem m_F_down : kIV y_F_down b_F_down 3 (some .int) 1 := ⟨⟨wd_3302d518, wd_c1885a87, ⟨by decide, by decide⟩, by decide +kernel⟩, wd_eb194151, wd_e7bf2961⟩
theorem m_F_value : kIV y_F_value b_F_value 4 (some .long) 1 := ⟨⟨wd_2c4ecf97, wd_c1885a87, ⟨by decide, by decide⟩, by decide +kernel⟩, wd_4075710a, wd_02f577eb⟩
theorem m_F_itemsAtCursor : kIV y_F_itemsAtCursor b_F_itemsAtCursor 4 (some .int) 1 := ⟨⟨wd_53617108, wd_c1885a87, ⟨by decide, by decide⟩, by decide +kernel⟩, wd_2c232be5, wd_312ce4a1⟩
theorem m_F_size : kIV y_F_size b_F_size 2 (some .int) 1 := ⟨⟨wd_029f9611, wd_c1885a87, ⟨by decide, by decide⟩, by decide +kernel⟩, wd_3e97bb14, wd_b5afaed5⟩
theorem m_F_element : kIV y_F_element b_F_element 5 (some .int) 2 := ⟨⟨wd_aeae5842, wd_c1885a87, ⟨by decide, by decide⟩, by decide +kernel⟩, wd_d5bfdc3e, wd_a8cac963⟩
set_option maxHeartbeats 4000000 in
set_option maxRecDepth 100000 in
theorem c_Data_placeOf (l : Launch) (D : va_G) (a : Nat → Nat) (g : Nat → ClassId) (tw : Nat) (sLen sKind : Nat → Nat) (sExt : Nat → Int32) (sMust : Nat → Bool) (rTab : Nat → Nat) (rFil : Nat → Bool) (rNum : Nat → Int64) (rLnk rLen : Nat → Nat) (rItm : Nat → Int32) (made : Nat) (pItm : Nat → Int32) (held : Nat) (dByt : Nat → Nat) (dLen : Nat) (bByt : Nat → Nat) (bRea : Nat → Bool) (bRec bItm bFld bOff bOfp : Nat → Nat) (kept wrt wid ent : Nat) (ver : Bool) (fAdr fTab adr tab : Nat) (lf : Int32) (x : Nat) (f : Nat)  (hB : ∀ k, dByt k < 256) (hd : dLen ≤ 240) (hf : f < 6) (hx0 : x < 2 ^ 30) : kM l y_D_placeOf b_D_placeOf 4 (some .int) ({ frames := 3, cells := 0, slots := 0, locals := 70 }) D vwCl (WdT g) tw [.ref (a 4), .int (nI x), .int (nI f)] (Wd a g sLen sKind sExt sMust rTab rFil rNum rLnk rLen rItm made pItm held dByt dLen bByt bRea bRec bItm bFld bOff bOfp kept wrt wid ent ver fAdr fTab adr tab lf) (some (.int (plF dByt dLen x f))) (Wd a g sLen sKind sExt sMust rTab rFil rNum rLnk rLen rItm made pItm held dByt dLen bByt bRea bRec bItm bFld bOff bOfp kept wrt wid ent ver fAdr fTab adr tab lf) := by
  refine k_of (by decide) (Nat.le_of_ble_eq_true rfl) ?_
  intro p e s m below meth c A ls hx hb hr hlocks hml hts hown hin0 hA hP hK hD hS hZ hl
  have hl : lv_has ls 4 [(0, .ref (a 4)), (1, .int (nI x)), (2, .int (nI f))] := hl
  refine lv_aload_n hx hb d_D_placeOf_0 rfl (lv_at hl 0 rfl) ?_
  refine lv_aload_n hx hb d_D_placeOf_1 rfl (lv_at hl 0 rfl) ?_
  refine lv_iload_n hx hb d_D_placeOf_2 rfl (lv_at hl 1 rfl) ?_
  refine k_callV (c_Data_offsetsOf l D a g tw sLen sKind sExt sMust rTab rFil rNum rLnk rLen rItm made pItm held dByt dLen bByt bRea bRec bItm bFld bOff bOfp kept wrt wid ent ver fAdr fTab adr tab lf x  hB hd) m_D_offsetsOf wd_7b95883a 4 4 rfl rfl rfl kT hx hb hml hown hts ⟨Nat.le_of_ble_eq_true rfl, Nat.le_of_ble_eq_true rfl⟩ ⟨Nat.le_of_ble_eq_true rfl, Nat.le_of_ble_eq_true rfl⟩ hK hP hD hS hA hZ hl.1 rfl rfl (Nat.le_of_ble_eq_true rfl) d_D_placeOf_3 (fun H locs hP hD hS => ?_)
  have hP : va_P D vwCl (Wd a g sLen sKind sExt sMust rTab rFil rNum rLnk rLen rItm made pItm held dByt dLen bByt bRea bRec bItm bFld bOff bOfp kept wrt wid ent ver fAdr fTab adr tab lf) H := hP
  have hD : va_D A (Wd a g sLen sKind sExt sMust rTab rFil rNum rLnk rLen rItm made pItm held dByt dLen bByt bRea bRec bItm bFld bOff bOfp kept wrt wid ent ver fAdr fTab adr tab lf) := hD
  refine W.eq (g2 := F0 m 6 ls [.long ((nI x).toInt64 - sxL 4 (leN dByt dLen (nI x) 4)), .ref (a 4)]) rfl ?_
  refine lv_l2i hx hb d_D_placeOf_6 rfl ?_
  refine lv_iload_n hx hb d_D_placeOf_7 rfl (lv_at hl 2 rfl) ?_
  refine k_callV (c_Data_offsetOf l D a g tw sLen sKind sExt sMust rTab rFil rNum rLnk rLen rItm made pItm held dByt dLen bByt bRea bRec bItm bFld bOff bOfp kept wrt wid ent ver fAdr fTab adr tab lf (((nI x).toInt64 - sxL 4 (leN dByt dLen (nI x) 4)).toInt32) f  hB hd hf) m_D_offsetOf wd_a6ba613a 4 4 rfl rfl rfl kT hx hb hml hown hts ⟨Nat.le_of_ble_eq_true rfl, Nat.le_of_ble_eq_true rfl⟩ ⟨Nat.le_of_ble_eq_true rfl, Nat.le_of_ble_eq_true rfl⟩ hK hP hD hS hA hZ hl.1 rfl rfl (Nat.le_of_ble_eq_true rfl) d_D_placeOf_8 (fun H locs hP hD hS => ?_)
  have hP : va_P D vwCl (Wd a g sLen sKind sExt sMust rTab rFil rNum rLnk rLen rItm made pItm held dByt dLen bByt bRea bRec bItm bFld bOff bOfp kept wrt wid ent ver fAdr fTab adr tab lf) H := hP
  have hD : va_D A (Wd a g sLen sKind sExt sMust rTab rFil rNum rLnk rLen rItm made pItm held dByt dLen bByt bRea bRec bItm bFld bOff bOfp kept wrt wid ent ver fAdr fTab adr tab lf) := hD
  refine W.eq (g2 := F0 m 11 ls [.int (nI (offF dByt dLen (((nI x).toInt64 - sxL 4 (leN dByt dLen (nI x) 4)).toInt32) f))]) rfl ?_
  have hol : ofF dByt dLen x f < 65536 := offF_lt hB
  refine W.eq (g2 := F0 m 11 ls [.int (nI (ofF dByt dLen x f))]) rfl ?_
  refine lv_istore_n (lv' := [(3, .int (nI (ofF dByt dLen x f))), (0, .ref (a 4)), (1, .int (nI x)), (2, .int (nI f))]) hx hb d_D_placeOf_11 rfl hl (by decide) rfl (fun ls hl => ?_)
  refine lv_iload_n hx hb d_D_placeOf_12 rfl (lv_at hl 0 rfl) ?_
  refine lv_if_ne (tgt := 20) hx hb d_D_placeOf_13 (by decide) (fun c_13 => ?_) (fun c_13 => ?_)
  · skip
    have c_13 := mt (z_eq (by omega)).mpr c_13
    refine lv_iload_n hx hb d_D_placeOf_20 rfl (lv_at hl 2 rfl) ?_
    refine lv_iload_n hx hb d_D_placeOf_21 rfl (lv_at hl 0 rfl) ?_
    refine lv_iadd hx hb d_D_placeOf_22 ?_
    refine lv_eqi (nI_add _ _) ?_
    exact k_iret hx hb hr hlocks hK hP hD hS (trivial) (by unfold plF; first | rw [if_pos (by omega)] | rw [if_neg (by omega)]) (rfl) d_D_placeOf_23
  · skip
    have c_13 := (z_eq (by omega)).mp c_13
    refine lv_iconst (v := -1) hx hb d_D_placeOf_16 (by decide) ?_
    refine lv_goto (tgt := 23) hx hb d_D_placeOf_17 (by decide) ?_
    exact k_iret hx hb hr hlocks hK hP hD hS (trivial) (by unfold plF; first | rw [if_pos (by omega)] | rw [if_neg (by omega)]) (rfl) d_D_placeOf_23
set_option maxHeartbeats 4000000 in
set_option maxRecDepth 100000 in
theorem c_kindAtCursor (l : Launch) (hl0 : l.stackTraces = false) (D : va_G) (a : Nat → Nat) (g : Nat → ClassId) (tw : Nat) (sLen sKind : Nat → Nat) (sExt : Nat → Int32) (sMust : Nat → Bool) (rTab : Nat → Nat) (rFil : Nat → Bool) (rNum : Nat → Int64) (rLnk rLen : Nat → Nat) (rItm : Nat → Int32) (made : Nat) (pItm : Nat → Int32) (held : Nat) (dByt : Nat → Nat) (dLen : Nat) (bByt : Nat → Nat) (bRea : Nat → Bool) (bRec bItm bFld bOff bOfp : Nat → Nat) (kept wrt wid ent : Nat) (ver : Bool) (fAdr fTab adr tab : Nat) (lf : Int32) (x : Int32)  (ht : tab < 4) (hL : sLen tab ≤ 6) : kMX l y_F_kindAtCursor b_F_kindAtCursor 2 (some .int) ({ frames := 6, cells := 1, slots := 6, locals := 89 }) D vwCl (WdT g) tw [.ref (a 0), .int x] (Wd a g sLen sKind sExt sMust rTab rFil rNum rLnk rLen rItm made pItm held dByt dLen bByt bRea bRec bItm bFld bOff bOfp kept wrt wid ent ver fAdr fTab adr tab lf) (cdCur ver sLen tab x = 0) (some (.int (nI (sKind (tab * 6 + cN x))))) (Wd a g sLen sKind sExt sMust rTab rFil rNum rLnk rLen rItm made pItm held dByt dLen bByt bRea bRec bItm bFld bOff bOfp kept wrt wid ent ver fAdr fTab adr tab lf) (fun E => (E = xIS ∧ cdCur ver sLen tab x = 1) ∨ (E = xNS ∧ cdCur ver sLen tab x = 2)) (Wd a g sLen sKind sExt sMust rTab rFil rNum rLnk rLen rItm made pItm held dByt dLen bByt bRea bRec bItm bFld bOff bOfp kept wrt wid ent ver fAdr fTab adr tab lf) := by
  refine k_ofX (by decide) (Nat.le_of_ble_eq_true rfl) ?_
  intro p e s m below meth c A ls hx hb hr hlocks hml hex hts hown hA hP hK hD hS hZ hl
  have hl : lv_has ls 2 [(0, .ref (a 0)), (1, .int x)] := hl
  refine lv_aload_n hx hb d_F_kindAtCursor_0 rfl (lv_at hl 0 rfl) ?_
  refine va_get (D := D) (ci := 0) (C := R_F) (T := T_F) (N := 8) hx hb hts (fun w h => kT w (i_F w h)) hown hK hP 0 rfl rfl 6 (by decide) (hts _ (kT _ wd_59fc3318)) (fun _ h9 => h9) rfl d_F_kindAtCursor_1 ?_
  refine va_getN (D := D) (ci := 7) (C := R_C) (T := T_C) (N := 5) hx hb hts (fun w h => kT w (i_C w h)) hown hK hP 7 rfl rfl 0 (by decide) (va_Nw.use rfl (hZ.2.2.1 _ wn_14b5d946)) (fun _ h9 => h9) rfl d_F_kindAtCursor_4 ?_
  refine lv_if_ne (tgt := 18) hx hb d_F_kindAtCursor_7 (by decide) (fun c_7 => ?_) (fun c_7 => ?_)
  · skip
    have c_7 := mt (bI_0).mpr c_7
    have c_7 := eq_true_of_ne_false c_7
    refine lv_aload_n hx hb d_F_kindAtCursor_18 rfl (lv_at hl 0 rfl) ?_
    refine va_get (D := D) (ci := 0) (C := R_F) (T := T_F) (N := 8) hx hb hts (fun w h => kT w (i_F w h)) hown hK hP 0 rfl rfl 0 (by decide) (hts _ (kT _ wd_61505274)) (fun _ h9 => h9) rfl d_F_kindAtCursor_19 ?_
    refine lv_aload_n hx hb d_F_kindAtCursor_22 rfl (lv_at hl 0 rfl) ?_
    refine va_get (D := D) (ci := 0) (C := R_F) (T := T_F) (N := 8) hx hb hts (fun w h => kT w (i_F w h)) hown hK hP 0 rfl rfl 6 (by decide) (hts _ (kT _ wd_59fc3318)) (fun _ h9 => h9) rfl d_F_kindAtCursor_23 ?_
    refine va_getN (D := D) (ci := 7) (C := R_C) (T := T_C) (N := 5) hx hb hts (fun w h => kT w (i_C w h)) hown hK hP 7 rfl rfl 4 (by decide) (va_Nw.use rfl (hZ.2.2.1 _ wn_1769704a)) (fun _ h9 => h9) rfl d_F_kindAtCursor_26 ?_
    refine lv_iload_n hx hb d_F_kindAtCursor_29 rfl (lv_at hl 1 rfl) ?_
    refine k_callV (c_Schema_holds l D a g tw sLen sKind sExt sMust rTab rFil rNum rLnk rLen rItm made pItm held dByt dLen bByt bRea bRec bItm bFld bOff bOfp kept wrt wid ent ver fAdr fTab adr tab lf tab x  (by omega)) m_S_holds wd_9d5f0e8d 1 1 rfl rfl rfl kT hx hb hml hown hts ⟨Nat.le_of_ble_eq_true rfl, Nat.le_of_ble_eq_true rfl⟩ ⟨Nat.le_of_ble_eq_true rfl, Nat.le_of_ble_eq_true rfl⟩ hK hP hD hS hA hZ hl.1 rfl rfl (Nat.le_of_ble_eq_true rfl) d_F_kindAtCursor_30 (fun H locs hP hD hS => ?_)
    have hP : va_P D vwCl (Wd a g sLen sKind sExt sMust rTab rFil rNum rLnk rLen rItm made pItm held dByt dLen bByt bRea bRec bItm bFld bOff bOfp kept wrt wid ent ver fAdr fTab adr tab lf) H := hP
    have hD : va_D A (Wd a g sLen sKind sExt sMust rTab rFil rNum rLnk rLen rItm made pItm held dByt dLen bByt bRea bRec bItm bFld bOff bOfp kept wrt wid ent ver fAdr fTab adr tab lf) := hD
    refine W.eq (g2 := F0 m 33 ls [.int (bI (hasF (sLen tab) x))]) rfl ?_
    refine lv_if_ne (tgt := 44) hx hb d_F_kindAtCursor_33 (by decide) (fun c_33 => ?_) (fun c_33 => ?_)
    · skip
      have c_33 := mt (bI_0).mpr c_33
      have c_33 := eq_true_of_ne_false c_33
      obtain ⟨n_x, b_x⟩ := hasF_spec (by omega) c_33
      have hl : lv_has ls 2 [(0, .ref (a 0)), (1, .int (nI (cN x)))] := by rw [← n_x]; exact hl
      refine lv_aload_n hx hb d_F_kindAtCursor_44 rfl (lv_at hl 0 rfl) ?_
      refine va_get (D := D) (ci := 0) (C := R_F) (T := T_F) (N := 8) hx hb hts (fun w h => kT w (i_F w h)) hown hK hP 0 rfl rfl 0 (by decide) (hts _ (kT _ wd_61505274)) (fun _ h9 => h9) rfl d_F_kindAtCursor_45 ?_
      refine lv_aload_n hx hb d_F_kindAtCursor_48 rfl (lv_at hl 0 rfl) ?_
      refine va_get (D := D) (ci := 0) (C := R_F) (T := T_F) (N := 8) hx hb hts (fun w h => kT w (i_F w h)) hown hK hP 0 rfl rfl 6 (by decide) (hts _ (kT _ wd_59fc3318)) (fun _ h9 => h9) rfl d_F_kindAtCursor_49 ?_
      refine va_getN (D := D) (ci := 7) (C := R_C) (T := T_C) (N := 5) hx hb hts (fun w h => kT w (i_C w h)) hown hK hP 7 rfl rfl 4 (by decide) (va_Nw.use rfl (hZ.2.2.1 _ wn_1769704a)) (fun _ h9 => h9) rfl d_F_kindAtCursor_52 ?_
      refine lv_iload_n hx hb d_F_kindAtCursor_55 rfl (lv_at hl 1 rfl) ?_
      refine k_callV (c_Schema_kindOf l D a g tw sLen sKind sExt sMust rTab rFil rNum rLnk rLen rItm made pItm held dByt dLen bByt bRea bRec bItm bFld bOff bOfp kept wrt wid ent ver fAdr fTab adr tab lf tab (cN x)  (by omega) (by omega)) m_S_kindOf wd_98c1bc35 1 1 rfl rfl rfl kT hx hb hml hown hts ⟨Nat.le_of_ble_eq_true rfl, Nat.le_of_ble_eq_true rfl⟩ ⟨Nat.le_of_ble_eq_true rfl, Nat.le_of_ble_eq_true rfl⟩ hK hP hD hS hA hZ hl.1 rfl rfl (Nat.le_of_ble_eq_true rfl) d_F_kindAtCursor_56 (fun H locs hP hD hS => ?_)
      have hP : va_P D vwCl (Wd a g sLen sKind sExt sMust rTab rFil rNum rLnk rLen rItm made pItm held dByt dLen bByt bRea bRec bItm bFld bOff bOfp kept wrt wid ent ver fAdr fTab adr tab lf) H := hP
      have hD : va_D A (Wd a g sLen sKind sExt sMust rTab rFil rNum rLnk rLen rItm made pItm held dByt dLen bByt bRea bRec bItm bFld bOff bOfp kept wrt wid ent ver fAdr fTab adr tab lf) := hD
      refine W.eq (g2 := F0 m 59 ls [.int (nI (sKind (tab * 6 + (cN x))))]) rfl ?_
      refine W.widen (k := 1) (n := 6) (Nat.le_of_ble_eq_true rfl) (Nat.le_of_ble_eq_true rfl) ?_
      exact x_ret (k_iret hx hb hr hlocks hK hP hD hS (by simp [cdCur, c_7, c_33]) (rfl) (rfl) d_F_kindAtCursor_59)
    · skip
      have c_33 := (bI_0).mp c_33
      exact k_throw hl0 hx hb hown kT hts ⟨by decide, by decide⟩ wx_81160be2 hZ hex hlocks hK hP hD hS (hl.1.trans hml.symm) (Or.inr (⟨rfl, by simp [cdCur, c_7, c_33]⟩)) (rfl) d_F_kindAtCursor_36 d_F_kindAtCursor_39 d_F_kindAtCursor_40 d_F_kindAtCursor_43 ⟨Nat.le_of_ble_eq_true rfl, Nat.le_of_ble_eq_true rfl⟩ ⟨Nat.le_of_ble_eq_true rfl, Nat.le_of_ble_eq_true rfl⟩ (Nat.le_of_ble_eq_true rfl) (Nat.le_of_ble_eq_true rfl)
  · skip
    have c_7 := (bI_0).mp c_7
    exact k_throw hl0 hx hb hown kT hts ⟨by decide, by decide⟩ wx_f6ab3475 hZ hex hlocks hK hP hD hS (hl.1.trans hml.symm) (Or.inl (⟨rfl, by simp [cdCur, c_7]⟩)) (rfl) d_F_kindAtCursor_10 d_F_kindAtCursor_13 d_F_kindAtCursor_14 d_F_kindAtCursor_17 ⟨Nat.le_of_ble_eq_true rfl, Nat.le_of_ble_eq_true rfl⟩ ⟨Nat.le_of_ble_eq_true rfl, Nat.le_of_ble_eq_true rfl⟩ (Nat.le_of_ble_eq_true rfl) (Nat.le_of_ble_eq_true rfl)
set_option maxHeartbeats 4000000 in
set_option maxRecDepth 100000 in
theorem c_down (l : Launch) (hl0 : l.stackTraces = false) (D : va_G) (a : Nat → Nat) (g : Nat → ClassId) (tw : Nat) (sLen sKind : Nat → Nat) (sExt : Nat → Int32) (sMust : Nat → Bool) (rTab : Nat → Nat) (rFil : Nat → Bool) (rNum : Nat → Int64) (rLnk rLen : Nat → Nat) (rItm : Nat → Int32) (made : Nat) (pItm : Nat → Int32) (held : Nat) (dByt : Nat → Nat) (dLen : Nat) (bByt : Nat → Nat) (bRea : Nat → Bool) (bRec bItm bFld bOff bOfp : Nat → Nat) (kept wrt wid ent : Nat) (ver : Bool) (fAdr fTab adr tab : Nat) (lf : Int32) (x : Int32)  (ht : tab < 4) (hL : sLen tab ≤ 6) (hk : ∀ j, sKind j < 7) (hX : ∀ j, sKind j = 6 → okT (sExt j) = true) (hB : ∀ k, dByt k < 256) (hd : dLen ≤ 240) (hadr : adr < 2 ^ 29) : kMX l y_F_down b_F_down 3 (some .int) ({ frames := 7, cells := 2, slots := 12, locals := 110 }) D vwCl (WdT g) tw [.ref (a 0), .int x] (Wd a g sLen sKind sExt sMust rTab rFil rNum rLnk rLen rItm made pItm held dByt dLen bByt bRea bRec bItm bFld bOff bOfp kept wrt wid ent ver fAdr fTab adr tab lf) (cdKd (cdCur ver sLen tab x) (sKind (tab * 6 + cN x)) 6 6 = 0) (some (.int (nI (if ofF dByt dLen adr (cN x) = 0 then 0 else 1)))) (Wd a g sLen sKind sExt sMust rTab rFil rNum rLnk rLen rItm made pItm held dByt dLen bByt bRea bRec bItm bFld bOff bOfp kept wrt wid ent ver fAdr fTab (if ofF dByt dLen adr (cN x) = 0 then adr else tgF dByt dLen (adr + ofF dByt dLen adr (cN x))) (if ofF dByt dLen adr (cN x) = 0 then tab else cN (sExt (tab * 6 + cN x))) lf) (fun E => (E = xIS ∧ cdKd (cdCur ver sLen tab x) (sKind (tab * 6 + cN x)) 6 6 = 1) ∨ (E = xNS ∧ cdKd (cdCur ver sLen tab x) (sKind (tab * 6 + cN x)) 6 6 = 2) ∨ (E = xUO ∧ cdKd (cdCur ver sLen tab x) (sKind (tab * 6 + cN x)) 6 6 = 3)) (Wd a g sLen sKind sExt sMust rTab rFil rNum rLnk rLen rItm made pItm held dByt dLen bByt bRea bRec bItm bFld bOff bOfp kept wrt wid ent ver fAdr fTab adr tab lf) := by
  refine k_ofX (by decide) (Nat.le_of_ble_eq_true rfl) ?_
  intro p e s m below meth c A ls hx hb hr hlocks hml hex hts hown hA hP hK hD hS hZ hl
  have hl : lv_has ls 3 [(0, .ref (a 0)), (1, .int x)] := hl
  refine lv_aload_n hx hb d_F_down_0 rfl (lv_at hl 0 rfl) ?_
  refine lv_iload_n hx hb d_F_down_1 rfl (lv_at hl 1 rfl) ?_
  refine k_callVX (c_kindAtCursor l hl0 D a g tw sLen sKind sExt sMust rTab rFil rNum rLnk rLen rItm made pItm held dByt dLen bByt bRea bRec bItm bFld bOff bOfp kept wrt wid ent ver fAdr fTab adr tab lf x  ht hL) m_F_kindAtCursor wd_f1df49f7 0 0 rfl rfl rfl kT hx hb hml hown hts ⟨Nat.le_of_ble_eq_true rfl, Nat.le_of_ble_eq_true rfl⟩ ⟨Nat.le_of_ble_eq_true rfl, Nat.le_of_ble_eq_true rfl⟩ hK hP hD hS hA hZ hl.1 rfl rfl (Nat.le_of_ble_eq_true rfl) d_F_down_2 (fun E ce q9 H locs hE hP hD hS hq9 hcv hcl => ?_) (fun H locs hC hP hD hS => ?_)
  · skip
    have hP : va_P D vwCl (Wd a g sLen sKind sExt sMust rTab rFil rNum rLnk rLen rItm made pItm held dByt dLen bByt bRea bRec bItm bFld bOff bOfp kept wrt wid ent ver fAdr fTab adr tab lf) H := hP
    have hD : va_D A (Wd a g sLen sKind sExt sMust rTab rFil rNum rLnk rLen rItm made pItm held dByt dLen bByt bRea bRec bItm bFld bOff bOfp kept wrt wid ent ver fAdr fTab adr tab lf) := hD
    exact k_out hex hlocks hK hP hD hS (by rcases hE with ⟨h1, h2⟩ | ⟨h1, h2⟩; exact Or.inl ⟨h1, by simp [cdKd, h2]⟩; exact Or.inr (Or.inl ⟨h1, by simp [cdKd, h2]⟩)) (by rfl) hq9 hcv hcl (Nat.le_of_ble_eq_true rfl) (Nat.le_of_ble_eq_true rfl)
  · skip
    have hC_2 : cdCur ver sLen tab x = 0 := hC
    have hP : va_P D vwCl (Wd a g sLen sKind sExt sMust rTab rFil rNum rLnk rLen rItm made pItm held dByt dLen bByt bRea bRec bItm bFld bOff bOfp kept wrt wid ent ver fAdr fTab adr tab lf) H := hP
    have hD : va_D A (Wd a g sLen sKind sExt sMust rTab rFil rNum rLnk rLen rItm made pItm held dByt dLen bByt bRea bRec bItm bFld bOff bOfp kept wrt wid ent ver fAdr fTab adr tab lf) := hD
    refine W.eq (g2 := F0 m 5 ls [.int (nI (sKind (tab * 6 + cN x)))]) rfl ?_
    obtain ⟨n_x, b_x⟩ := hasF_spec (by omega) (cdCur_0 hC_2).2
    have hl : lv_has ls 3 [(0, .ref (a 0)), (1, .int (nI (cN x)))] := by rw [← n_x]; exact hl
    have hk1 : sKind (tab * 6 + cN x) < 7 := hk _
    refine lv_bipush (v := nI 6) hx hb d_F_down_5 (by decide) ?_
    refine lv_icmp_eq (tgt := 18) hx hb d_F_down_7 (by decide) (fun c_7 => ?_) (fun c_7 => ?_)
    · skip
      have c_7 := (nI_eq (by omega) (by omega)).mp c_7
      refine lv_aload_n hx hb d_F_down_18 rfl (lv_at hl 0 rfl) ?_
      refine va_get (D := D) (ci := 0) (C := R_F) (T := T_F) (N := 8) hx hb hts (fun w h => kT w (i_F w h)) hown hK hP 0 rfl rfl 3 (by decide) (hts _ (kT _ wd_24cf1a27)) (fun _ h9 => h9) rfl d_F_down_19 ?_
      refine lv_aload_n hx hb d_F_down_22 rfl (lv_at hl 0 rfl) ?_
      refine va_get (D := D) (ci := 0) (C := R_F) (T := T_F) (N := 8) hx hb hts (fun w h => kT w (i_F w h)) hown hK hP 0 rfl rfl 6 (by decide) (hts _ (kT _ wd_59fc3318)) (fun _ h9 => h9) rfl d_F_down_23 ?_
      refine va_getN (D := D) (ci := 7) (C := R_C) (T := T_C) (N := 5) hx hb hts (fun w h => kT w (i_C w h)) hown hK hP 7 rfl rfl 3 (by decide) (va_Nw.use rfl (hZ.2.2.1 _ wn_7c226025)) (fun _ h9 => h9) rfl d_F_down_26 ?_
      refine lv_iload_n hx hb d_F_down_29 rfl (lv_at hl 1 rfl) ?_
      refine k_callV (c_Data_placeOf l D a g tw sLen sKind sExt sMust rTab rFil rNum rLnk rLen rItm made pItm held dByt dLen bByt bRea bRec bItm bFld bOff bOfp kept wrt wid ent ver fAdr fTab adr tab lf adr (cN x)  hB hd (by omega) (by omega)) m_D_placeOf wd_c6059eda 4 4 rfl rfl rfl kT hx hb hml hown hts ⟨Nat.le_of_ble_eq_true rfl, Nat.le_of_ble_eq_true rfl⟩ ⟨Nat.le_of_ble_eq_true rfl, Nat.le_of_ble_eq_true rfl⟩ hK hP hD hS hA hZ hl.1 rfl rfl (Nat.le_of_ble_eq_true rfl) d_F_down_30 (fun H locs hP hD hS => ?_)
      have hP : va_P D vwCl (Wd a g sLen sKind sExt sMust rTab rFil rNum rLnk rLen rItm made pItm held dByt dLen bByt bRea bRec bItm bFld bOff bOfp kept wrt wid ent ver fAdr fTab adr tab lf) H := hP
      have hD : va_D A (Wd a g sLen sKind sExt sMust rTab rFil rNum rLnk rLen rItm made pItm held dByt dLen bByt bRea bRec bItm bFld bOff bOfp kept wrt wid ent ver fAdr fTab adr tab lf) := hD
      refine W.eq (g2 := F0 m 33 ls [.int (plF dByt dLen adr (cN x))]) rfl ?_
      refine lv_istore_n (lv' := [(2, .int (plF dByt dLen adr (cN x))), (0, .ref (a 0)), (1, .int (nI (cN x)))]) hx hb d_F_down_33 rfl hl (by decide) rfl (fun ls hl => ?_)
      refine lv_iload_n hx hb d_F_down_34 rfl (lv_at hl 0 rfl) ?_
      refine lv_iconst (v := -1) hx hb d_F_down_35 (by decide) ?_
      refine lv_icmp_ne (tgt := 41) hx hb d_F_down_36 (by decide) (fun c_36 => ?_) (fun c_36 => ?_)
      · skip
        have hq : ¬ ofF dByt dLen adr (cN x) = 0 := fun q => c_36 ((plF_m1 hB (by omega)).mpr q)
        have n_p : plF dByt dLen adr (cN x) = nI (adr + ofF dByt dLen adr (cN x)) := plF_in hq
        have hl : lv_has ls 3 [(2, .int (nI (adr + ofF dByt dLen adr (cN x)))), (0, .ref (a 0)), (1, .int (nI (cN x)))] := by rw [← n_p]; exact hl
        refine lv_aload_n hx hb d_F_down_41 rfl (lv_at hl 1 rfl) ?_
        refine va_get (D := D) (ci := 0) (C := R_F) (T := T_F) (N := 8) hx hb hts (fun w h => kT w (i_F w h)) hown hK hP 0 rfl rfl 6 (by decide) (hts _ (kT _ wd_59fc3318)) (fun _ h9 => h9) rfl d_F_down_42 ?_
        refine lv_aload_n hx hb d_F_down_45 rfl (lv_at hl 1 rfl) ?_
        refine va_get (D := D) (ci := 0) (C := R_F) (T := T_F) (N := 8) hx hb hts (fun w h => kT w (i_F w h)) hown hK hP 0 rfl rfl 3 (by decide) (hts _ (kT _ wd_24cf1a27)) (fun _ h9 => h9) rfl d_F_down_46 ?_
        refine lv_iload_n hx hb d_F_down_49 rfl (lv_at hl 0 rfl) ?_
        refine k_callV (c_Data_target l D a g tw sLen sKind sExt sMust rTab rFil rNum rLnk rLen rItm made pItm held dByt dLen bByt bRea bRec bItm bFld bOff bOfp kept wrt wid ent ver fAdr fTab adr tab lf (adr + ofF dByt dLen adr (cN x))  hB hd) m_D_target wd_a6aced7a 4 4 rfl rfl rfl kT hx hb hml hown hts ⟨Nat.le_of_ble_eq_true rfl, Nat.le_of_ble_eq_true rfl⟩ ⟨Nat.le_of_ble_eq_true rfl, Nat.le_of_ble_eq_true rfl⟩ hK hP hD hS hA hZ hl.1 rfl rfl (Nat.le_of_ble_eq_true rfl) d_F_down_50 (fun H locs hP hD hS => ?_)
        have hP : va_P D vwCl (Wd a g sLen sKind sExt sMust rTab rFil rNum rLnk rLen rItm made pItm held dByt dLen bByt bRea bRec bItm bFld bOff bOfp kept wrt wid ent ver fAdr fTab adr tab lf) H := hP
        have hD : va_D A (Wd a g sLen sKind sExt sMust rTab rFil rNum rLnk rLen rItm made pItm held dByt dLen bByt bRea bRec bItm bFld bOff bOfp kept wrt wid ent ver fAdr fTab adr tab lf) := hD
        refine W.eq (g2 := F0 m 53 ls [.int (nI ((adr + ofF dByt dLen adr (cN x)) + min (leN dByt dLen (nI (adr + ofF dByt dLen adr (cN x))) 4) 100000)), .ref (a 7)]) rfl ?_
        refine lv_aload_n hx hb d_F_down_53 rfl (lv_at hl 1 rfl) ?_
        refine va_get (D := D) (ci := 0) (C := R_F) (T := T_F) (N := 8) hx hb hts (fun w h => kT w (i_F w h)) hown hK hP 0 rfl rfl 0 (by decide) (hts _ (kT _ wd_61505274)) (fun _ h9 => h9) rfl d_F_down_54 ?_
        refine lv_aload_n hx hb d_F_down_57 rfl (lv_at hl 1 rfl) ?_
        refine va_get (D := D) (ci := 0) (C := R_F) (T := T_F) (N := 8) hx hb hts (fun w h => kT w (i_F w h)) hown hK hP 0 rfl rfl 6 (by decide) (hts _ (kT _ wd_59fc3318)) (fun _ h9 => h9) rfl d_F_down_58 ?_
        refine va_getN (D := D) (ci := 7) (C := R_C) (T := T_C) (N := 5) hx hb hts (fun w h => kT w (i_C w h)) hown hK hP 7 rfl rfl 4 (by decide) (va_Nw.use rfl (hZ.2.2.1 _ wn_1769704a)) (fun _ h9 => h9) rfl d_F_down_61 ?_
        refine lv_iload_n hx hb d_F_down_64 rfl (lv_at hl 2 rfl) ?_
        refine k_callV (c_Schema_extraOf l D a g tw sLen sKind sExt sMust rTab rFil rNum rLnk rLen rItm made pItm held dByt dLen bByt bRea bRec bItm bFld bOff bOfp kept wrt wid ent ver fAdr fTab adr tab lf tab (cN x)  (by omega) (by omega)) m_S_extraOf wd_c41b2e2f 1 1 rfl rfl rfl kT hx hb hml hown hts ⟨Nat.le_of_ble_eq_true rfl, Nat.le_of_ble_eq_true rfl⟩ ⟨Nat.le_of_ble_eq_true rfl, Nat.le_of_ble_eq_true rfl⟩ hK hP hD hS hA hZ hl.1 rfl rfl (Nat.le_of_ble_eq_true rfl) d_F_down_65 (fun H locs hP hD hS => ?_)
        have hP : va_P D vwCl (Wd a g sLen sKind sExt sMust rTab rFil rNum rLnk rLen rItm made pItm held dByt dLen bByt bRea bRec bItm bFld bOff bOfp kept wrt wid ent ver fAdr fTab adr tab lf) H := hP
        have hD : va_D A (Wd a g sLen sKind sExt sMust rTab rFil rNum rLnk rLen rItm made pItm held dByt dLen bByt bRea bRec bItm bFld bOff bOfp kept wrt wid ent ver fAdr fTab adr tab lf) := hD
        refine W.eq (g2 := F0 m 68 ls [.int (sExt (tab * 6 + (cN x))), .int (nI ((adr + ofF dByt dLen adr (cN x)) + min (leN dByt dLen (nI (adr + ofF dByt dLen adr (cN x))) 4) 100000)), .ref (a 7)]) rfl ?_
        obtain ⟨n_e, b_e⟩ := okT_spec (hX (tab * 6 + cN x) c_7)
        refine lv_eqi n_e ?_
        refine k_callV (c_Cursor_go l D a g tw sLen sKind sExt sMust rTab rFil rNum rLnk rLen rItm made pItm held dByt dLen bByt bRea bRec bItm bFld bOff bOfp kept wrt wid ent ver fAdr fTab adr tab lf ((adr + ofF dByt dLen adr (cN x)) + min (leN dByt dLen (nI (adr + ofF dByt dLen adr (cN x))) 4) 100000) (cN (sExt (tab * 6 + cN x)))  ) m_C_go wd_7a55472d 7 7 rfl rfl rfl kT hx hb hml hown hts ⟨Nat.le_of_ble_eq_true rfl, Nat.le_of_ble_eq_true rfl⟩ ⟨Nat.le_of_ble_eq_true rfl, Nat.le_of_ble_eq_true rfl⟩ hK hP hD hS hA hZ hl.1 rfl rfl (Nat.le_of_ble_eq_true rfl) d_F_down_68 (fun H locs hP hD hS => ?_)
        have hP : va_P D vwCl (Wd a g sLen sKind sExt sMust rTab rFil rNum rLnk rLen rItm made pItm held dByt dLen bByt bRea bRec bItm bFld bOff bOfp kept wrt wid ent ver fAdr fTab (((adr + ofF dByt dLen adr (cN x)) + min (leN dByt dLen (nI (adr + ofF dByt dLen adr (cN x))) 4) 100000)) ((cN (sExt (tab * 6 + cN x)))) lf) H := hP
        have hD : va_D A (Wd a g sLen sKind sExt sMust rTab rFil rNum rLnk rLen rItm made pItm held dByt dLen bByt bRea bRec bItm bFld bOff bOfp kept wrt wid ent ver fAdr fTab (((adr + ofF dByt dLen adr (cN x)) + min (leN dByt dLen (nI (adr + ofF dByt dLen adr (cN x))) 4) 100000)) ((cN (sExt (tab * 6 + cN x)))) lf) := hD
        refine W.eq (g2 := F0 m 71 ls []) rfl ?_
        refine lv_iconst (v := nI 1) hx hb d_F_down_71 (by decide) ?_
        refine W.widen (k := 2) (n := 12) (Nat.le_of_ble_eq_true rfl) (Nat.le_of_ble_eq_true rfl) ?_
        exact x_ret (k_iret hx hb hr hlocks hK hP hD hS (by rw [cdKd, if_pos hC_2, if_pos (by omega)]) (by rw [if_neg hq]) (by rw [if_neg hq, if_neg hq]; rfl) d_F_down_72)
      · skip
        refine lv_iconst (v := nI 0) hx hb d_F_down_39 (by decide) ?_
        refine W.widen (k := 2) (n := 12) (Nat.le_of_ble_eq_true rfl) (Nat.le_of_ble_eq_true rfl) ?_
        exact x_ret (k_iret hx hb hr hlocks hK hP hD hS (by rw [cdKd, if_pos hC_2, if_pos (by omega)]) (by rw [if_pos ((plF_m1 hB (by omega)).mp c_36)]) (by rw [if_pos ((plF_m1 hB (by omega)).mp c_36), if_pos ((plF_m1 hB (by omega)).mp c_36)]) d_F_down_40)
    · skip
      have c_7 := mt (nI_eq (by omega) (by omega)).mpr c_7
      exact k_throw hl0 hx hb hown kT hts ⟨by decide, by decide⟩ wx_b1304150 hZ hex hlocks hK hP hD hS (hl.1.trans hml.symm) (Or.inr (Or.inr ⟨rfl, by rw [cdKd, if_pos hC_2, if_neg (by omega)]⟩)) (rfl) d_F_down_10 d_F_down_13 d_F_down_14 d_F_down_17 ⟨Nat.le_of_ble_eq_true rfl, Nat.le_of_ble_eq_true rfl⟩ ⟨Nat.le_of_ble_eq_true rfl, Nat.le_of_ble_eq_true rfl⟩ (Nat.le_of_ble_eq_true rfl) (Nat.le_of_ble_eq_true rfl)
set_option maxHeartbeats 4000000 in
set_option maxRecDepth 100000 in
theorem c_value (l : Launch) (hl0 : l.stackTraces = false) (D : va_G) (a : Nat → Nat) (g : Nat → ClassId) (tw : Nat) (sLen sKind : Nat → Nat) (sExt : Nat → Int32) (sMust : Nat → Bool) (rTab : Nat → Nat) (rFil : Nat → Bool) (rNum : Nat → Int64) (rLnk rLen : Nat → Nat) (rItm : Nat → Int32) (made : Nat) (pItm : Nat → Int32) (held : Nat) (dByt : Nat → Nat) (dLen : Nat) (bByt : Nat → Nat) (bRea : Nat → Bool) (bRec bItm bFld bOff bOfp : Nat → Nat) (kept wrt wid ent : Nat) (ver : Bool) (fAdr fTab adr tab : Nat) (lf : Int32) (x : Int32)  (ht : tab < 4) (hL : sLen tab ≤ 6) (hk : ∀ j, sKind j < 7) (hB : ∀ k, dByt k < 256) (hd : dLen ≤ 240) (hadr : adr < 2 ^ 29) : kMX l y_F_value b_F_value 4 (some .long) ({ frames := 7, cells := 2, slots := 12, locals := 110 }) D vwCl (WdT g) tw [.ref (a 0), .int x] (Wd a g sLen sKind sExt sMust rTab rFil rNum rLnk rLen rItm made pItm held dByt dLen bByt bRea bRec bItm bFld bOff bOfp kept wrt wid ent ver fAdr fTab adr tab lf) (cdKd (cdCur ver sLen tab x) (sKind (tab * 6 + cN x)) 0 3 = 0) (some (.long (if ofF dByt dLen adr (cN x) = 0 then (sExt (tab * 6 + cN x)).toInt64 else sxL (kWd (sKind (tab * 6 + cN x))) (leN dByt dLen (nI (adr + ofF dByt dLen adr (cN x))) (kWd (sKind (tab * 6 + cN x))))))) (Wd a g sLen sKind sExt sMust rTab rFil rNum rLnk rLen rItm made pItm held dByt dLen bByt bRea bRec bItm bFld bOff bOfp kept wrt wid ent ver fAdr fTab adr tab lf) (fun E => (E = xIS ∧ cdKd (cdCur ver sLen tab x) (sKind (tab * 6 + cN x)) 0 3 = 1) ∨ (E = xNS ∧ cdKd (cdCur ver sLen tab x) (sKind (tab * 6 + cN x)) 0 3 = 2) ∨ (E = xUO ∧ cdKd (cdCur ver sLen tab x) (sKind (tab * 6 + cN x)) 0 3 = 3)) (Wd a g sLen sKind sExt sMust rTab rFil rNum rLnk rLen rItm made pItm held dByt dLen bByt bRea bRec bItm bFld bOff bOfp kept wrt wid ent ver fAdr fTab adr tab lf) := by
  refine k_ofX (by decide) (Nat.le_of_ble_eq_true rfl) ?_
  intro p e s m below meth c A ls hx hb hr hlocks hml hex hts hown hA hP hK hD hS hZ hl
  have hl : lv_has ls 4 [(0, .ref (a 0)), (1, .int x)] := hl
  refine lv_aload_n hx hb d_F_value_0 rfl (lv_at hl 0 rfl) ?_
  refine lv_iload_n hx hb d_F_value_1 rfl (lv_at hl 1 rfl) ?_
  refine k_callVX (c_kindAtCursor l hl0 D a g tw sLen sKind sExt sMust rTab rFil rNum rLnk rLen rItm made pItm held dByt dLen bByt bRea bRec bItm bFld bOff bOfp kept wrt wid ent ver fAdr fTab adr tab lf x  ht hL) m_F_kindAtCursor wd_f1df49f7 0 0 rfl rfl rfl kT hx hb hml hown hts ⟨Nat.le_of_ble_eq_true rfl, Nat.le_of_ble_eq_true rfl⟩ ⟨Nat.le_of_ble_eq_true rfl, Nat.le_of_ble_eq_true rfl⟩ hK hP hD hS hA hZ hl.1 rfl rfl (Nat.le_of_ble_eq_true rfl) d_F_value_2 (fun E ce q9 H locs hE hP hD hS hq9 hcv hcl => ?_) (fun H locs hC hP hD hS => ?_)
  · skip
    have hP : va_P D vwCl (Wd a g sLen sKind sExt sMust rTab rFil rNum rLnk rLen rItm made pItm held dByt dLen bByt bRea bRec bItm bFld bOff bOfp kept wrt wid ent ver fAdr fTab adr tab lf) H := hP
    have hD : va_D A (Wd a g sLen sKind sExt sMust rTab rFil rNum rLnk rLen rItm made pItm held dByt dLen bByt bRea bRec bItm bFld bOff bOfp kept wrt wid ent ver fAdr fTab adr tab lf) := hD
    exact k_out hex hlocks hK hP hD hS (by rcases hE with ⟨h1, h2⟩ | ⟨h1, h2⟩; exact Or.inl ⟨h1, by simp [cdKd, h2]⟩; exact Or.inr (Or.inl ⟨h1, by simp [cdKd, h2]⟩)) (by rfl) hq9 hcv hcl (Nat.le_of_ble_eq_true rfl) (Nat.le_of_ble_eq_true rfl)
  · skip
    have hC_2 : cdCur ver sLen tab x = 0 := hC
    have hP : va_P D vwCl (Wd a g sLen sKind sExt sMust rTab rFil rNum rLnk rLen rItm made pItm held dByt dLen bByt bRea bRec bItm bFld bOff bOfp kept wrt wid ent ver fAdr fTab adr tab lf) H := hP
    have hD : va_D A (Wd a g sLen sKind sExt sMust rTab rFil rNum rLnk rLen rItm made pItm held dByt dLen bByt bRea bRec bItm bFld bOff bOfp kept wrt wid ent ver fAdr fTab adr tab lf) := hD
    refine W.eq (g2 := F0 m 5 ls [.int (nI (sKind (tab * 6 + cN x)))]) rfl ?_
    obtain ⟨n_x, b_x⟩ := hasF_spec (by omega) (cdCur_0 hC_2).2
    have hl : lv_has ls 4 [(0, .ref (a 0)), (1, .int (nI (cN x)))] := by rw [← n_x]; exact hl
    have hk1 : sKind (tab * 6 + cN x) < 7 := hk _
    refine lv_istore_n (lv' := [(2, .int (nI (sKind (tab * 6 + cN x)))), (0, .ref (a 0)), (1, .int (nI (cN x)))]) hx hb d_F_value_5 rfl hl (by decide) rfl (fun ls hl => ?_)
    refine lv_iload_n hx hb d_F_value_6 rfl (lv_at hl 0 rfl) ?_
    refine lv_iconst (v := nI 4) hx hb d_F_value_7 (by decide) ?_
    refine lv_icmp_lt (tgt := 19) hx hb d_F_value_8 (by decide) (fun c_8 => ?_) (fun c_8 => ?_)
    · skip
      have c_8 := (nI_ltI (by omega) (by omega)).mp c_8
      refine lv_aload_n hx hb d_F_value_19 rfl (lv_at hl 1 rfl) ?_
      refine va_get (D := D) (ci := 0) (C := R_F) (T := T_F) (N := 8) hx hb hts (fun w h => kT w (i_F w h)) hown hK hP 0 rfl rfl 3 (by decide) (hts _ (kT _ wd_24cf1a27)) (fun _ h9 => h9) rfl d_F_value_20 ?_
      refine lv_aload_n hx hb d_F_value_23 rfl (lv_at hl 1 rfl) ?_
      refine va_get (D := D) (ci := 0) (C := R_F) (T := T_F) (N := 8) hx hb hts (fun w h => kT w (i_F w h)) hown hK hP 0 rfl rfl 6 (by decide) (hts _ (kT _ wd_59fc3318)) (fun _ h9 => h9) rfl d_F_value_24 ?_
      refine va_getN (D := D) (ci := 7) (C := R_C) (T := T_C) (N := 5) hx hb hts (fun w h => kT w (i_C w h)) hown hK hP 7 rfl rfl 3 (by decide) (va_Nw.use rfl (hZ.2.2.1 _ wn_7c226025)) (fun _ h9 => h9) rfl d_F_value_27 ?_
      refine lv_iload_n hx hb d_F_value_30 rfl (lv_at hl 2 rfl) ?_
      refine k_callV (c_Data_placeOf l D a g tw sLen sKind sExt sMust rTab rFil rNum rLnk rLen rItm made pItm held dByt dLen bByt bRea bRec bItm bFld bOff bOfp kept wrt wid ent ver fAdr fTab adr tab lf adr (cN x)  hB hd (by omega) (by omega)) m_D_placeOf wd_c6059eda 4 4 rfl rfl rfl kT hx hb hml hown hts ⟨Nat.le_of_ble_eq_true rfl, Nat.le_of_ble_eq_true rfl⟩ ⟨Nat.le_of_ble_eq_true rfl, Nat.le_of_ble_eq_true rfl⟩ hK hP hD hS hA hZ hl.1 rfl rfl (Nat.le_of_ble_eq_true rfl) d_F_value_31 (fun H locs hP hD hS => ?_)
      have hP : va_P D vwCl (Wd a g sLen sKind sExt sMust rTab rFil rNum rLnk rLen rItm made pItm held dByt dLen bByt bRea bRec bItm bFld bOff bOfp kept wrt wid ent ver fAdr fTab adr tab lf) H := hP
      have hD : va_D A (Wd a g sLen sKind sExt sMust rTab rFil rNum rLnk rLen rItm made pItm held dByt dLen bByt bRea bRec bItm bFld bOff bOfp kept wrt wid ent ver fAdr fTab adr tab lf) := hD
      refine W.eq (g2 := F0 m 34 ls [.int (plF dByt dLen adr (cN x))]) rfl ?_
      refine lv_istore_n (lv' := [(3, .int (plF dByt dLen adr (cN x))), (2, .int (nI (sKind (tab * 6 + cN x)))), (0, .ref (a 0)), (1, .int (nI (cN x)))]) hx hb d_F_value_34 rfl hl (by decide) rfl (fun ls hl => ?_)
      refine lv_iload_n hx hb d_F_value_35 rfl (lv_at hl 0 rfl) ?_
      refine lv_iconst (v := -1) hx hb d_F_value_36 (by decide) ?_
      refine lv_icmp_ne (tgt := 57) hx hb d_F_value_37 (by decide) (fun c_37 => ?_) (fun c_37 => ?_)
      · skip
        have hq : ¬ ofF dByt dLen adr (cN x) = 0 := fun q => c_37 ((plF_m1 hB (by omega)).mpr q)
        have n_p : plF dByt dLen adr (cN x) = nI (adr + ofF dByt dLen adr (cN x)) := plF_in hq
        have hl : lv_has ls 4 [(3, .int (nI (adr + ofF dByt dLen adr (cN x)))), (2, .int (nI (sKind (tab * 6 + cN x)))), (0, .ref (a 0)), (1, .int (nI (cN x)))] := by rw [← n_p]; exact hl
        refine lv_aload_n hx hb d_F_value_57 rfl (lv_at hl 2 rfl) ?_
        refine va_get (D := D) (ci := 0) (C := R_F) (T := T_F) (N := 8) hx hb hts (fun w h => kT w (i_F w h)) hown hK hP 0 rfl rfl 3 (by decide) (hts _ (kT _ wd_24cf1a27)) (fun _ h9 => h9) rfl d_F_value_58 ?_
        refine lv_iload_n hx hb d_F_value_61 rfl (lv_at hl 0 rfl) ?_
        refine va_gets hx hb hZ.2.1.1 hS hown (hts _ (kT _ wd_ad1711f3)) (fun _ h9 => h9) d_F_value_62 ?_
        refine lv_iload_n hx hb d_F_value_65 rfl (lv_at hl 1 rfl) ?_
        refine va_ti hx hb hZ.2.1.2 hS (vp_in_nI (by omega) (by decide)) (show (fun j => Value.int (nI (kWd j))) (nI (sKind (tab * 6 + cN x))).toNatClampNeg = .int (nI (kWd (sKind (tab * 6 + cN x)))) by rw [nI_clamp (by omega)]) d_F_value_66 ?_
        refine k_callV (c_Data_signed l D a g tw sLen sKind sExt sMust rTab rFil rNum rLnk rLen rItm made pItm held dByt dLen bByt bRea bRec bItm bFld bOff bOfp kept wrt wid ent ver fAdr fTab adr tab lf (nI (adr + ofF dByt dLen adr (cN x))) (kWd (sKind (tab * 6 + cN x)))  hB hd (kWd_in _ hk1).1 (kWd_in _ hk1).2) m_D_signed wd_58a50798 4 4 rfl rfl rfl kT hx hb hml hown hts ⟨Nat.le_of_ble_eq_true rfl, Nat.le_of_ble_eq_true rfl⟩ ⟨Nat.le_of_ble_eq_true rfl, Nat.le_of_ble_eq_true rfl⟩ hK hP hD hS hA hZ hl.1 rfl rfl (Nat.le_of_ble_eq_true rfl) d_F_value_67 (fun H locs hP hD hS => ?_)
        have hP : va_P D vwCl (Wd a g sLen sKind sExt sMust rTab rFil rNum rLnk rLen rItm made pItm held dByt dLen bByt bRea bRec bItm bFld bOff bOfp kept wrt wid ent ver fAdr fTab adr tab lf) H := hP
        have hD : va_D A (Wd a g sLen sKind sExt sMust rTab rFil rNum rLnk rLen rItm made pItm held dByt dLen bByt bRea bRec bItm bFld bOff bOfp kept wrt wid ent ver fAdr fTab adr tab lf) := hD
        refine W.eq (g2 := F0 m 70 ls [.long (sxL (kWd (sKind (tab * 6 + cN x))) (leN dByt dLen (nI (adr + ofF dByt dLen adr (cN x))) (kWd (sKind (tab * 6 + cN x)))))]) rfl ?_
        refine W.widen (k := 2) (n := 12) (Nat.le_of_ble_eq_true rfl) (Nat.le_of_ble_eq_true rfl) ?_
        exact x_ret (k_lret hx hb hr hlocks hK hP hD hS (by rw [cdKd, if_pos hC_2, if_pos (by omega)]) (by rw [if_neg hq]) (rfl) d_F_value_70)
      · skip
        refine lv_aload_n hx hb d_F_value_40 rfl (lv_at hl 2 rfl) ?_
        refine va_get (D := D) (ci := 0) (C := R_F) (T := T_F) (N := 8) hx hb hts (fun w h => kT w (i_F w h)) hown hK hP 0 rfl rfl 0 (by decide) (hts _ (kT _ wd_61505274)) (fun _ h9 => h9) rfl d_F_value_41 ?_
        refine lv_aload_n hx hb d_F_value_44 rfl (lv_at hl 2 rfl) ?_
        refine va_get (D := D) (ci := 0) (C := R_F) (T := T_F) (N := 8) hx hb hts (fun w h => kT w (i_F w h)) hown hK hP 0 rfl rfl 6 (by decide) (hts _ (kT _ wd_59fc3318)) (fun _ h9 => h9) rfl d_F_value_45 ?_
        refine va_getN (D := D) (ci := 7) (C := R_C) (T := T_C) (N := 5) hx hb hts (fun w h => kT w (i_C w h)) hown hK hP 7 rfl rfl 4 (by decide) (va_Nw.use rfl (hZ.2.2.1 _ wn_1769704a)) (fun _ h9 => h9) rfl d_F_value_48 ?_
        refine lv_iload_n hx hb d_F_value_51 rfl (lv_at hl 3 rfl) ?_
        refine k_callV (c_Schema_extraOf l D a g tw sLen sKind sExt sMust rTab rFil rNum rLnk rLen rItm made pItm held dByt dLen bByt bRea bRec bItm bFld bOff bOfp kept wrt wid ent ver fAdr fTab adr tab lf tab (cN x)  (by omega) (by omega)) m_S_extraOf wd_c41b2e2f 1 1 rfl rfl rfl kT hx hb hml hown hts ⟨Nat.le_of_ble_eq_true rfl, Nat.le_of_ble_eq_true rfl⟩ ⟨Nat.le_of_ble_eq_true rfl, Nat.le_of_ble_eq_true rfl⟩ hK hP hD hS hA hZ hl.1 rfl rfl (Nat.le_of_ble_eq_true rfl) d_F_value_52 (fun H locs hP hD hS => ?_)
        have hP : va_P D vwCl (Wd a g sLen sKind sExt sMust rTab rFil rNum rLnk rLen rItm made pItm held dByt dLen bByt bRea bRec bItm bFld bOff bOfp kept wrt wid ent ver fAdr fTab adr tab lf) H := hP
        have hD : va_D A (Wd a g sLen sKind sExt sMust rTab rFil rNum rLnk rLen rItm made pItm held dByt dLen bByt bRea bRec bItm bFld bOff bOfp kept wrt wid ent ver fAdr fTab adr tab lf) := hD
        refine W.eq (g2 := F0 m 55 ls [.int (sExt (tab * 6 + (cN x)))]) rfl ?_
        refine lv_i2l hx hb d_F_value_55 rfl ?_
        refine W.widen (k := 2) (n := 12) (Nat.le_of_ble_eq_true rfl) (Nat.le_of_ble_eq_true rfl) ?_
        exact x_ret (k_lret hx hb hr hlocks hK hP hD hS (by rw [cdKd, if_pos hC_2, if_pos (by omega)]) (by rw [if_pos ((plF_m1 hB (by omega)).mp c_37)]) (rfl) d_F_value_56)
    · skip
      have c_8 := mt (nI_ltI (by omega) (by omega)).mpr c_8
      exact k_throw hl0 hx hb hown kT hts ⟨by decide, by decide⟩ wx_b1304150 hZ hex hlocks hK hP hD hS (hl.1.trans hml.symm) (Or.inr (Or.inr ⟨rfl, by rw [cdKd, if_pos hC_2, if_neg (by omega)]⟩)) (rfl) d_F_value_11 d_F_value_14 d_F_value_15 d_F_value_18 ⟨Nat.le_of_ble_eq_true rfl, Nat.le_of_ble_eq_true rfl⟩ ⟨Nat.le_of_ble_eq_true rfl, Nat.le_of_ble_eq_true rfl⟩ (Nat.le_of_ble_eq_true rfl) (Nat.le_of_ble_eq_true rfl)
set_option maxHeartbeats 4000000 in
set_option maxRecDepth 100000 in
theorem c_itemsAtCursor (l : Launch) (hl0 : l.stackTraces = false) (D : va_G) (a : Nat → Nat) (g : Nat → ClassId) (tw : Nat) (sLen sKind : Nat → Nat) (sExt : Nat → Int32) (sMust : Nat → Bool) (rTab : Nat → Nat) (rFil : Nat → Bool) (rNum : Nat → Int64) (rLnk rLen : Nat → Nat) (rItm : Nat → Int32) (made : Nat) (pItm : Nat → Int32) (held : Nat) (dByt : Nat → Nat) (dLen : Nat) (bByt : Nat → Nat) (bRea : Nat → Bool) (bRec bItm bFld bOff bOfp : Nat → Nat) (kept wrt wid ent : Nat) (ver : Bool) (fAdr fTab adr tab : Nat) (lf : Int32) (x : Int32)  (ht : tab < 4) (hL : sLen tab ≤ 6) (hk : ∀ j, sKind j < 7) (hB : ∀ k, dByt k < 256) (hd : dLen ≤ 240) (hadr : adr < 2 ^ 29) : kMX l y_F_itemsAtCursor b_F_itemsAtCursor 4 (some .int) ({ frames := 7, cells := 2, slots := 12, locals := 110 }) D vwCl (WdT g) tw [.ref (a 0), .int x] (Wd a g sLen sKind sExt sMust rTab rFil rNum rLnk rLen rItm made pItm held dByt dLen bByt bRea bRec bItm bFld bOff bOfp kept wrt wid ent ver fAdr fTab adr tab lf) (cdKd (cdCur ver sLen tab x) (sKind (tab * 6 + cN x)) 4 5 = 0) (some (.int (itF dByt dLen adr (cN x)))) (Wd a g sLen sKind sExt sMust rTab rFil rNum rLnk rLen rItm made pItm held dByt dLen bByt bRea bRec bItm bFld bOff bOfp kept wrt wid ent ver fAdr fTab adr tab lf) (fun E => (E = xIS ∧ cdKd (cdCur ver sLen tab x) (sKind (tab * 6 + cN x)) 4 5 = 1) ∨ (E = xNS ∧ cdKd (cdCur ver sLen tab x) (sKind (tab * 6 + cN x)) 4 5 = 2) ∨ (E = xUO ∧ cdKd (cdCur ver sLen tab x) (sKind (tab * 6 + cN x)) 4 5 = 3)) (Wd a g sLen sKind sExt sMust rTab rFil rNum rLnk rLen rItm made pItm held dByt dLen bByt bRea bRec bItm bFld bOff bOfp kept wrt wid ent ver fAdr fTab adr tab lf) := by
  refine k_ofX (by decide) (Nat.le_of_ble_eq_true rfl) ?_
  intro p e s m below meth c A ls hx hb hr hlocks hml hex hts hown hA hP hK hD hS hZ hl
  have hl : lv_has ls 4 [(0, .ref (a 0)), (1, .int x)] := hl
  refine lv_aload_n hx hb d_F_itemsAtCursor_0 rfl (lv_at hl 0 rfl) ?_
  refine lv_iload_n hx hb d_F_itemsAtCursor_1 rfl (lv_at hl 1 rfl) ?_
  refine k_callVX (c_kindAtCursor l hl0 D a g tw sLen sKind sExt sMust rTab rFil rNum rLnk rLen rItm made pItm held dByt dLen bByt bRea bRec bItm bFld bOff bOfp kept wrt wid ent ver fAdr fTab adr tab lf x  ht hL) m_F_kindAtCursor wd_f1df49f7 0 0 rfl rfl rfl kT hx hb hml hown hts ⟨Nat.le_of_ble_eq_true rfl, Nat.le_of_ble_eq_true rfl⟩ ⟨Nat.le_of_ble_eq_true rfl, Nat.le_of_ble_eq_true rfl⟩ hK hP hD hS hA hZ hl.1 rfl rfl (Nat.le_of_ble_eq_true rfl) d_F_itemsAtCursor_2 (fun E ce q9 H locs hE hP hD hS hq9 hcv hcl => ?_) (fun H locs hC hP hD hS => ?_)
  · skip
    have hP : va_P D vwCl (Wd a g sLen sKind sExt sMust rTab rFil rNum rLnk rLen rItm made pItm held dByt dLen bByt bRea bRec bItm bFld bOff bOfp kept wrt wid ent ver fAdr fTab adr tab lf) H := hP
    have hD : va_D A (Wd a g sLen sKind sExt sMust rTab rFil rNum rLnk rLen rItm made pItm held dByt dLen bByt bRea bRec bItm bFld bOff bOfp kept wrt wid ent ver fAdr fTab adr tab lf) := hD
    exact k_out hex hlocks hK hP hD hS (by rcases hE with ⟨h1, h2⟩ | ⟨h1, h2⟩; exact Or.inl ⟨h1, by simp [cdKd, h2]⟩; exact Or.inr (Or.inl ⟨h1, by simp [cdKd, h2]⟩)) (by rfl) hq9 hcv hcl (Nat.le_of_ble_eq_true rfl) (Nat.le_of_ble_eq_true rfl)
  · skip
    have hC_2 : cdCur ver sLen tab x = 0 := hC
    have hP : va_P D vwCl (Wd a g sLen sKind sExt sMust rTab rFil rNum rLnk rLen rItm made pItm held dByt dLen bByt bRea bRec bItm bFld bOff bOfp kept wrt wid ent ver fAdr fTab adr tab lf) H := hP
    have hD : va_D A (Wd a g sLen sKind sExt sMust rTab rFil rNum rLnk rLen rItm made pItm held dByt dLen bByt bRea bRec bItm bFld bOff bOfp kept wrt wid ent ver fAdr fTab adr tab lf) := hD
    refine W.eq (g2 := F0 m 5 ls [.int (nI (sKind (tab * 6 + cN x)))]) rfl ?_
    obtain ⟨n_x, b_x⟩ := hasF_spec (by omega) (cdCur_0 hC_2).2
    have hl : lv_has ls 4 [(0, .ref (a 0)), (1, .int (nI (cN x)))] := by rw [← n_x]; exact hl
    have hk1 : sKind (tab * 6 + cN x) < 7 := hk _
    refine lv_istore_n (lv' := [(2, .int (nI (sKind (tab * 6 + cN x)))), (0, .ref (a 0)), (1, .int (nI (cN x)))]) hx hb d_F_itemsAtCursor_5 rfl hl (by decide) rfl (fun ls hl => ?_)
    refine lv_iload_n hx hb d_F_itemsAtCursor_6 rfl (lv_at hl 0 rfl) ?_
    refine lv_iconst (v := nI 4) hx hb d_F_itemsAtCursor_7 (by decide) ?_
    refine lv_icmp_eq (tgt := 24) hx hb d_F_itemsAtCursor_8 (by decide) (fun c_8 => ?_) (fun c_8 => ?_)
    · skip
      have c_8 := (nI_eq (by omega) (by omega)).mp c_8
      refine lv_aload_n hx hb d_F_itemsAtCursor_24 rfl (lv_at hl 1 rfl) ?_
      refine va_get (D := D) (ci := 0) (C := R_F) (T := T_F) (N := 8) hx hb hts (fun w h => kT w (i_F w h)) hown hK hP 0 rfl rfl 3 (by decide) (hts _ (kT _ wd_24cf1a27)) (fun _ h9 => h9) rfl d_F_itemsAtCursor_25 ?_
      refine lv_aload_n hx hb d_F_itemsAtCursor_28 rfl (lv_at hl 1 rfl) ?_
      refine va_get (D := D) (ci := 0) (C := R_F) (T := T_F) (N := 8) hx hb hts (fun w h => kT w (i_F w h)) hown hK hP 0 rfl rfl 6 (by decide) (hts _ (kT _ wd_59fc3318)) (fun _ h9 => h9) rfl d_F_itemsAtCursor_29 ?_
      refine va_getN (D := D) (ci := 7) (C := R_C) (T := T_C) (N := 5) hx hb hts (fun w h => kT w (i_C w h)) hown hK hP 7 rfl rfl 3 (by decide) (va_Nw.use rfl (hZ.2.2.1 _ wn_7c226025)) (fun _ h9 => h9) rfl d_F_itemsAtCursor_32 ?_
      refine lv_iload_n hx hb d_F_itemsAtCursor_35 rfl (lv_at hl 2 rfl) ?_
      refine k_callV (c_Data_placeOf l D a g tw sLen sKind sExt sMust rTab rFil rNum rLnk rLen rItm made pItm held dByt dLen bByt bRea bRec bItm bFld bOff bOfp kept wrt wid ent ver fAdr fTab adr tab lf adr (cN x)  hB hd (by omega) (by omega)) m_D_placeOf wd_c6059eda 4 4 rfl rfl rfl kT hx hb hml hown hts ⟨Nat.le_of_ble_eq_true rfl, Nat.le_of_ble_eq_true rfl⟩ ⟨Nat.le_of_ble_eq_true rfl, Nat.le_of_ble_eq_true rfl⟩ hK hP hD hS hA hZ hl.1 rfl rfl (Nat.le_of_ble_eq_true rfl) d_F_itemsAtCursor_36 (fun H locs hP hD hS => ?_)
      have hP : va_P D vwCl (Wd a g sLen sKind sExt sMust rTab rFil rNum rLnk rLen rItm made pItm held dByt dLen bByt bRea bRec bItm bFld bOff bOfp kept wrt wid ent ver fAdr fTab adr tab lf) H := hP
      have hD : va_D A (Wd a g sLen sKind sExt sMust rTab rFil rNum rLnk rLen rItm made pItm held dByt dLen bByt bRea bRec bItm bFld bOff bOfp kept wrt wid ent ver fAdr fTab adr tab lf) := hD
      refine W.eq (g2 := F0 m 39 ls [.int (plF dByt dLen adr (cN x))]) rfl ?_
      refine lv_istore_n (lv' := [(3, .int (plF dByt dLen adr (cN x))), (2, .int (nI (sKind (tab * 6 + cN x)))), (0, .ref (a 0)), (1, .int (nI (cN x)))]) hx hb d_F_itemsAtCursor_39 rfl hl (by decide) rfl (fun ls hl => ?_)
      refine lv_iload_n hx hb d_F_itemsAtCursor_40 rfl (lv_at hl 0 rfl) ?_
      refine lv_iconst (v := -1) hx hb d_F_itemsAtCursor_41 (by decide) ?_
      refine lv_icmp_ne (tgt := 49) hx hb d_F_itemsAtCursor_42 (by decide) (fun c_42 => ?_) (fun c_42 => ?_)
      · skip
        have hq : ¬ ofF dByt dLen adr (cN x) = 0 := fun q => c_42 ((plF_m1 hB (by omega)).mpr q)
        have n_p : plF dByt dLen adr (cN x) = nI (adr + ofF dByt dLen adr (cN x)) := plF_in hq
        have hl : lv_has ls 4 [(3, .int (nI (adr + ofF dByt dLen adr (cN x)))), (2, .int (nI (sKind (tab * 6 + cN x)))), (0, .ref (a 0)), (1, .int (nI (cN x)))] := by rw [← n_p]; exact hl
        refine lv_aload_n hx hb d_F_itemsAtCursor_49 rfl (lv_at hl 2 rfl) ?_
        refine va_get (D := D) (ci := 0) (C := R_F) (T := T_F) (N := 8) hx hb hts (fun w h => kT w (i_F w h)) hown hK hP 0 rfl rfl 3 (by decide) (hts _ (kT _ wd_24cf1a27)) (fun _ h9 => h9) rfl d_F_itemsAtCursor_50 ?_
        refine lv_aload_n hx hb d_F_itemsAtCursor_53 rfl (lv_at hl 2 rfl) ?_
        refine va_get (D := D) (ci := 0) (C := R_F) (T := T_F) (N := 8) hx hb hts (fun w h => kT w (i_F w h)) hown hK hP 0 rfl rfl 3 (by decide) (hts _ (kT _ wd_24cf1a27)) (fun _ h9 => h9) rfl d_F_itemsAtCursor_54 ?_
        refine lv_iload_n hx hb d_F_itemsAtCursor_57 rfl (lv_at hl 0 rfl) ?_
        refine k_callV (c_Data_target l D a g tw sLen sKind sExt sMust rTab rFil rNum rLnk rLen rItm made pItm held dByt dLen bByt bRea bRec bItm bFld bOff bOfp kept wrt wid ent ver fAdr fTab adr tab lf (adr + ofF dByt dLen adr (cN x))  hB hd) m_D_target wd_a6aced7a 4 4 rfl rfl rfl kT hx hb hml hown hts ⟨Nat.le_of_ble_eq_true rfl, Nat.le_of_ble_eq_true rfl⟩ ⟨Nat.le_of_ble_eq_true rfl, Nat.le_of_ble_eq_true rfl⟩ hK hP hD hS hA hZ hl.1 rfl rfl (Nat.le_of_ble_eq_true rfl) d_F_itemsAtCursor_58 (fun H locs hP hD hS => ?_)
        have hP : va_P D vwCl (Wd a g sLen sKind sExt sMust rTab rFil rNum rLnk rLen rItm made pItm held dByt dLen bByt bRea bRec bItm bFld bOff bOfp kept wrt wid ent ver fAdr fTab adr tab lf) H := hP
        have hD : va_D A (Wd a g sLen sKind sExt sMust rTab rFil rNum rLnk rLen rItm made pItm held dByt dLen bByt bRea bRec bItm bFld bOff bOfp kept wrt wid ent ver fAdr fTab adr tab lf) := hD
        refine W.eq (g2 := F0 m 61 ls [.int (nI ((adr + ofF dByt dLen adr (cN x)) + min (leN dByt dLen (nI (adr + ofF dByt dLen adr (cN x))) 4) 100000)), .ref (a 4)]) rfl ?_
        refine k_callV (c_Data_capped l D a g tw sLen sKind sExt sMust rTab rFil rNum rLnk rLen rItm made pItm held dByt dLen bByt bRea bRec bItm bFld bOff bOfp kept wrt wid ent ver fAdr fTab adr tab lf (nI ((adr + ofF dByt dLen adr (cN x)) + min (leN dByt dLen (nI (adr + ofF dByt dLen adr (cN x))) 4) 100000))  hB hd) m_D_capped wd_d6878f84 4 4 rfl rfl rfl kT hx hb hml hown hts ⟨Nat.le_of_ble_eq_true rfl, Nat.le_of_ble_eq_true rfl⟩ ⟨Nat.le_of_ble_eq_true rfl, Nat.le_of_ble_eq_true rfl⟩ hK hP hD hS hA hZ hl.1 rfl rfl (Nat.le_of_ble_eq_true rfl) d_F_itemsAtCursor_61 (fun H locs hP hD hS => ?_)
        have hP : va_P D vwCl (Wd a g sLen sKind sExt sMust rTab rFil rNum rLnk rLen rItm made pItm held dByt dLen bByt bRea bRec bItm bFld bOff bOfp kept wrt wid ent ver fAdr fTab adr tab lf) H := hP
        have hD : va_D A (Wd a g sLen sKind sExt sMust rTab rFil rNum rLnk rLen rItm made pItm held dByt dLen bByt bRea bRec bItm bFld bOff bOfp kept wrt wid ent ver fAdr fTab adr tab lf) := hD
        refine W.eq (g2 := F0 m 64 ls [.int (nI (min (leN dByt dLen (nI ((adr + ofF dByt dLen adr (cN x)) + min (leN dByt dLen (nI (adr + ofF dByt dLen adr (cN x))) 4) 100000)) 4) 100000))]) rfl ?_
        refine W.widen (k := 2) (n := 12) (Nat.le_of_ble_eq_true rfl) (Nat.le_of_ble_eq_true rfl) ?_
        exact x_ret (k_iret hx hb hr hlocks hK hP hD hS (by rw [cdKd, if_pos hC_2, if_pos (by omega)]) (by first | rw [itF, if_pos ((plF_m1 hB (by omega)).mp c_42)] | (rw [itF, if_neg hq]; rfl)) (rfl) d_F_itemsAtCursor_64)
      · skip
        refine lv_iconst (v := -1) hx hb d_F_itemsAtCursor_45 (by decide) ?_
        refine lv_goto (tgt := 64) hx hb d_F_itemsAtCursor_46 (by decide) ?_
        refine W.widen (k := 2) (n := 12) (Nat.le_of_ble_eq_true rfl) (Nat.le_of_ble_eq_true rfl) ?_
        exact x_ret (k_iret hx hb hr hlocks hK hP hD hS (by rw [cdKd, if_pos hC_2, if_pos (by omega)]) (by first | rw [itF, if_pos ((plF_m1 hB (by omega)).mp c_42)] | (rw [itF, if_neg hq]; rfl)) (rfl) d_F_itemsAtCursor_64)
    · skip
      have c_8 := mt (nI_eq (by omega) (by omega)).mpr c_8
      refine lv_iload_n hx hb d_F_itemsAtCursor_11 rfl (lv_at hl 0 rfl) ?_
      refine lv_iconst (v := nI 5) hx hb d_F_itemsAtCursor_12 (by decide) ?_
      refine lv_icmp_eq (tgt := 24) hx hb d_F_itemsAtCursor_13 (by decide) (fun c_13 => ?_) (fun c_13 => ?_)
      · skip
        have c_13 := (nI_eq (by omega) (by omega)).mp c_13
        refine lv_aload_n hx hb d_F_itemsAtCursor_24 rfl (lv_at hl 1 rfl) ?_
        refine va_get (D := D) (ci := 0) (C := R_F) (T := T_F) (N := 8) hx hb hts (fun w h => kT w (i_F w h)) hown hK hP 0 rfl rfl 3 (by decide) (hts _ (kT _ wd_24cf1a27)) (fun _ h9 => h9) rfl d_F_itemsAtCursor_25 ?_
        refine lv_aload_n hx hb d_F_itemsAtCursor_28 rfl (lv_at hl 1 rfl) ?_
        refine va_get (D := D) (ci := 0) (C := R_F) (T := T_F) (N := 8) hx hb hts (fun w h => kT w (i_F w h)) hown hK hP 0 rfl rfl 6 (by decide) (hts _ (kT _ wd_59fc3318)) (fun _ h9 => h9) rfl d_F_itemsAtCursor_29 ?_
        refine va_getN (D := D) (ci := 7) (C := R_C) (T := T_C) (N := 5) hx hb hts (fun w h => kT w (i_C w h)) hown hK hP 7 rfl rfl 3 (by decide) (va_Nw.use rfl (hZ.2.2.1 _ wn_7c226025)) (fun _ h9 => h9) rfl d_F_itemsAtCursor_32 ?_
        refine lv_iload_n hx hb d_F_itemsAtCursor_35 rfl (lv_at hl 2 rfl) ?_
        refine k_callV (c_Data_placeOf l D a g tw sLen sKind sExt sMust rTab rFil rNum rLnk rLen rItm made pItm held dByt dLen bByt bRea bRec bItm bFld bOff bOfp kept wrt wid ent ver fAdr fTab adr tab lf adr (cN x)  hB hd (by omega) (by omega)) m_D_placeOf wd_c6059eda 4 4 rfl rfl rfl kT hx hb hml hown hts ⟨Nat.le_of_ble_eq_true rfl, Nat.le_of_ble_eq_true rfl⟩ ⟨Nat.le_of_ble_eq_true rfl, Nat.le_of_ble_eq_true rfl⟩ hK hP hD hS hA hZ hl.1 rfl rfl (Nat.le_of_ble_eq_true rfl) d_F_itemsAtCursor_36 (fun H locs hP hD hS => ?_)
        have hP : va_P D vwCl (Wd a g sLen sKind sExt sMust rTab rFil rNum rLnk rLen rItm made pItm held dByt dLen bByt bRea bRec bItm bFld bOff bOfp kept wrt wid ent ver fAdr fTab adr tab lf) H := hP
        have hD : va_D A (Wd a g sLen sKind sExt sMust rTab rFil rNum rLnk rLen rItm made pItm held dByt dLen bByt bRea bRec bItm bFld bOff bOfp kept wrt wid ent ver fAdr fTab adr tab lf) := hD
        refine W.eq (g2 := F0 m 39 ls [.int (plF dByt dLen adr (cN x))]) rfl ?_
        refine lv_istore_n (lv' := [(3, .int (plF dByt dLen adr (cN x))), (2, .int (nI (sKind (tab * 6 + cN x)))), (0, .ref (a 0)), (1, .int (nI (cN x)))]) hx hb d_F_itemsAtCursor_39 rfl hl (by decide) rfl (fun ls hl => ?_)
        refine lv_iload_n hx hb d_F_itemsAtCursor_40 rfl (lv_at hl 0 rfl) ?_
        refine lv_iconst (v := -1) hx hb d_F_itemsAtCursor_41 (by decide) ?_
        refine lv_icmp_ne (tgt := 49) hx hb d_F_itemsAtCursor_42 (by decide) (fun c_42 => ?_) (fun c_42 => ?_)
        · skip
          have hq : ¬ ofF dByt dLen adr (cN x) = 0 := fun q => c_42 ((plF_m1 hB (by omega)).mpr q)
          have n_p : plF dByt dLen adr (cN x) = nI (adr + ofF dByt dLen adr (cN x)) := plF_in hq
          have hl : lv_has ls 4 [(3, .int (nI (adr + ofF dByt dLen adr (cN x)))), (2, .int (nI (sKind (tab * 6 + cN x)))), (0, .ref (a 0)), (1, .int (nI (cN x)))] := by rw [← n_p]; exact hl
          refine lv_aload_n hx hb d_F_itemsAtCursor_49 rfl (lv_at hl 2 rfl) ?_
          refine va_get (D := D) (ci := 0) (C := R_F) (T := T_F) (N := 8) hx hb hts (fun w h => kT w (i_F w h)) hown hK hP 0 rfl rfl 3 (by decide) (hts _ (kT _ wd_24cf1a27)) (fun _ h9 => h9) rfl d_F_itemsAtCursor_50 ?_
          refine lv_aload_n hx hb d_F_itemsAtCursor_53 rfl (lv_at hl 2 rfl) ?_
          refine va_get (D := D) (ci := 0) (C := R_F) (T := T_F) (N := 8) hx hb hts (fun w h => kT w (i_F w h)) hown hK hP 0 rfl rfl 3 (by decide) (hts _ (kT _ wd_24cf1a27)) (fun _ h9 => h9) rfl d_F_itemsAtCursor_54 ?_
          refine lv_iload_n hx hb d_F_itemsAtCursor_57 rfl (lv_at hl 0 rfl) ?_
          refine k_callV (c_Data_target l D a g tw sLen sKind sExt sMust rTab rFil rNum rLnk rLen rItm made pItm held dByt dLen bByt bRea bRec bItm bFld bOff bOfp kept wrt wid ent ver fAdr fTab adr tab lf (adr + ofF dByt dLen adr (cN x))  hB hd) m_D_target wd_a6aced7a 4 4 rfl rfl rfl kT hx hb hml hown hts ⟨Nat.le_of_ble_eq_true rfl, Nat.le_of_ble_eq_true rfl⟩ ⟨Nat.le_of_ble_eq_true rfl, Nat.le_of_ble_eq_true rfl⟩ hK hP hD hS hA hZ hl.1 rfl rfl (Nat.le_of_ble_eq_true rfl) d_F_itemsAtCursor_58 (fun H locs hP hD hS => ?_)
          have hP : va_P D vwCl (Wd a g sLen sKind sExt sMust rTab rFil rNum rLnk rLen rItm made pItm held dByt dLen bByt bRea bRec bItm bFld bOff bOfp kept wrt wid ent ver fAdr fTab adr tab lf) H := hP
          have hD : va_D A (Wd a g sLen sKind sExt sMust rTab rFil rNum rLnk rLen rItm made pItm held dByt dLen bByt bRea bRec bItm bFld bOff bOfp kept wrt wid ent ver fAdr fTab adr tab lf) := hD
          refine W.eq (g2 := F0 m 61 ls [.int (nI ((adr + ofF dByt dLen adr (cN x)) + min (leN dByt dLen (nI (adr + ofF dByt dLen adr (cN x))) 4) 100000)), .ref (a 4)]) rfl ?_
          refine k_callV (c_Data_capped l D a g tw sLen sKind sExt sMust rTab rFil rNum rLnk rLen rItm made pItm held dByt dLen bByt bRea bRec bItm bFld bOff bOfp kept wrt wid ent ver fAdr fTab adr tab lf (nI ((adr + ofF dByt dLen adr (cN x)) + min (leN dByt dLen (nI (adr + ofF dByt dLen adr (cN x))) 4) 100000))  hB hd) m_D_capped wd_d6878f84 4 4 rfl rfl rfl kT hx hb hml hown hts ⟨Nat.le_of_ble_eq_true rfl, Nat.le_of_ble_eq_true rfl⟩ ⟨Nat.le_of_ble_eq_true rfl, Nat.le_of_ble_eq_true rfl⟩ hK hP hD hS hA hZ hl.1 rfl rfl (Nat.le_of_ble_eq_true rfl) d_F_itemsAtCursor_61 (fun H locs hP hD hS => ?_)
          have hP : va_P D vwCl (Wd a g sLen sKind sExt sMust rTab rFil rNum rLnk rLen rItm made pItm held dByt dLen bByt bRea bRec bItm bFld bOff bOfp kept wrt wid ent ver fAdr fTab adr tab lf) H := hP
          have hD : va_D A (Wd a g sLen sKind sExt sMust rTab rFil rNum rLnk rLen rItm made pItm held dByt dLen bByt bRea bRec bItm bFld bOff bOfp kept wrt wid ent ver fAdr fTab adr tab lf) := hD
          refine W.eq (g2 := F0 m 64 ls [.int (nI (min (leN dByt dLen (nI ((adr + ofF dByt dLen adr (cN x)) + min (leN dByt dLen (nI (adr + ofF dByt dLen adr (cN x))) 4) 100000)) 4) 100000))]) rfl ?_
          refine W.widen (k := 2) (n := 12) (Nat.le_of_ble_eq_true rfl) (Nat.le_of_ble_eq_true rfl) ?_
          exact x_ret (k_iret hx hb hr hlocks hK hP hD hS (by rw [cdKd, if_pos hC_2, if_pos (by omega)]) (by first | rw [itF, if_pos ((plF_m1 hB (by omega)).mp c_42)] | (rw [itF, if_neg hq]; rfl)) (rfl) d_F_itemsAtCursor_64)
        · skip
          refine lv_iconst (v := -1) hx hb d_F_itemsAtCursor_45 (by decide) ?_
          refine lv_goto (tgt := 64) hx hb d_F_itemsAtCursor_46 (by decide) ?_
          refine W.widen (k := 2) (n := 12) (Nat.le_of_ble_eq_true rfl) (Nat.le_of_ble_eq_true rfl) ?_
          exact x_ret (k_iret hx hb hr hlocks hK hP hD hS (by rw [cdKd, if_pos hC_2, if_pos (by omega)]) (by first | rw [itF, if_pos ((plF_m1 hB (by omega)).mp c_42)] | (rw [itF, if_neg hq]; rfl)) (rfl) d_F_itemsAtCursor_64)
      · skip
        have c_13 := mt (nI_eq (by omega) (by omega)).mpr c_13
        exact k_throw hl0 hx hb hown kT hts ⟨by decide, by decide⟩ wx_b1304150 hZ hex hlocks hK hP hD hS (hl.1.trans hml.symm) (Or.inr (Or.inr ⟨rfl, by rw [cdKd, if_pos hC_2, if_neg (by omega)]⟩)) (rfl) d_F_itemsAtCursor_16 d_F_itemsAtCursor_19 d_F_itemsAtCursor_20 d_F_itemsAtCursor_23 ⟨Nat.le_of_ble_eq_true rfl, Nat.le_of_ble_eq_true rfl⟩ ⟨Nat.le_of_ble_eq_true rfl, Nat.le_of_ble_eq_true rfl⟩ (Nat.le_of_ble_eq_true rfl) (Nat.le_of_ble_eq_true rfl)
set_option maxHeartbeats 4000000 in
set_option maxRecDepth 100000 in
theorem c_size (l : Launch) (hl0 : l.stackTraces = false) (D : va_G) (a : Nat → Nat) (g : Nat → ClassId) (tw : Nat) (sLen sKind : Nat → Nat) (sExt : Nat → Int32) (sMust : Nat → Bool) (rTab : Nat → Nat) (rFil : Nat → Bool) (rNum : Nat → Int64) (rLnk rLen : Nat → Nat) (rItm : Nat → Int32) (made : Nat) (pItm : Nat → Int32) (held : Nat) (dByt : Nat → Nat) (dLen : Nat) (bByt : Nat → Nat) (bRea : Nat → Bool) (bRec bItm bFld bOff bOfp : Nat → Nat) (kept wrt wid ent : Nat) (ver : Bool) (fAdr fTab adr tab : Nat) (lf : Int32) (x : Int32)  (ht : tab < 4) (hL : sLen tab ≤ 6) (hk : ∀ j, sKind j < 7) (hB : ∀ k, dByt k < 256) (hd : dLen ≤ 240) (hadr : adr < 2 ^ 29) : kMX l y_F_size b_F_size 2 (some .int) ({ frames := 8, cells := 2, slots := 12, locals := 133 }) D vwCl (WdT g) tw [.ref (a 0), .int x] (Wd a g sLen sKind sExt sMust rTab rFil rNum rLnk rLen rItm made pItm held dByt dLen bByt bRea bRec bItm bFld bOff bOfp kept wrt wid ent ver fAdr fTab adr tab lf) (cdKd (cdCur ver sLen tab x) (sKind (tab * 6 + cN x)) 4 5 = 0) (some (.int (itF dByt dLen adr (cN x)))) (Wd a g sLen sKind sExt sMust rTab rFil rNum rLnk rLen rItm made pItm held dByt dLen bByt bRea bRec bItm bFld bOff bOfp kept wrt wid ent ver fAdr fTab adr tab lf) (fun E => (E = xIS ∧ cdKd (cdCur ver sLen tab x) (sKind (tab * 6 + cN x)) 4 5 = 1) ∨ (E = xNS ∧ cdKd (cdCur ver sLen tab x) (sKind (tab * 6 + cN x)) 4 5 = 2) ∨ (E = xUO ∧ cdKd (cdCur ver sLen tab x) (sKind (tab * 6 + cN x)) 4 5 = 3)) (Wd a g sLen sKind sExt sMust rTab rFil rNum rLnk rLen rItm made pItm held dByt dLen bByt bRea bRec bItm bFld bOff bOfp kept wrt wid ent ver fAdr fTab adr tab lf) := by
  refine k_ofX (by decide) (Nat.le_of_ble_eq_true rfl) ?_
  intro p e s m below meth c A ls hx hb hr hlocks hml hex hts hown hA hP hK hD hS hZ hl
  have hl : lv_has ls 2 [(0, .ref (a 0)), (1, .int x)] := hl
  refine lv_aload_n hx hb d_F_size_0 rfl (lv_at hl 0 rfl) ?_
  refine lv_iload_n hx hb d_F_size_1 rfl (lv_at hl 1 rfl) ?_
  refine k_callVX (c_itemsAtCursor l hl0 D a g tw sLen sKind sExt sMust rTab rFil rNum rLnk rLen rItm made pItm held dByt dLen bByt bRea bRec bItm bFld bOff bOfp kept wrt wid ent ver fAdr fTab adr tab lf x  ht hL hk hB hd hadr) m_F_itemsAtCursor wd_79a62401 0 0 rfl rfl rfl kT hx hb hml hown hts ⟨Nat.le_of_ble_eq_true rfl, Nat.le_of_ble_eq_true rfl⟩ ⟨Nat.le_of_ble_eq_true rfl, Nat.le_of_ble_eq_true rfl⟩ hK hP hD hS hA hZ hl.1 rfl rfl (Nat.le_of_ble_eq_true rfl) d_F_size_2 (fun E ce q9 H locs hE hP hD hS hq9 hcv hcl => ?_) (fun H locs hC hP hD hS => ?_)
  · skip
    have hP : va_P D vwCl (Wd a g sLen sKind sExt sMust rTab rFil rNum rLnk rLen rItm made pItm held dByt dLen bByt bRea bRec bItm bFld bOff bOfp kept wrt wid ent ver fAdr fTab adr tab lf) H := hP
    have hD : va_D A (Wd a g sLen sKind sExt sMust rTab rFil rNum rLnk rLen rItm made pItm held dByt dLen bByt bRea bRec bItm bFld bOff bOfp kept wrt wid ent ver fAdr fTab adr tab lf) := hD
    exact k_out hex hlocks hK hP hD hS (by exact hE) (by rfl) hq9 hcv hcl (Nat.le_of_ble_eq_true rfl) (Nat.le_of_ble_eq_true rfl)
  · skip
    have hC_2 : cdKd (cdCur ver sLen tab x) (sKind (tab * 6 + cN x)) 4 5 = 0 := hC
    have hP : va_P D vwCl (Wd a g sLen sKind sExt sMust rTab rFil rNum rLnk rLen rItm made pItm held dByt dLen bByt bRea bRec bItm bFld bOff bOfp kept wrt wid ent ver fAdr fTab adr tab lf) H := hP
    have hD : va_D A (Wd a g sLen sKind sExt sMust rTab rFil rNum rLnk rLen rItm made pItm held dByt dLen bByt bRea bRec bItm bFld bOff bOfp kept wrt wid ent ver fAdr fTab adr tab lf) := hD
    refine W.eq (g2 := F0 m 5 ls [.int (itF dByt dLen adr (cN x))]) rfl ?_
    refine W.widen (k := 2) (n := 12) (Nat.le_of_ble_eq_true rfl) (Nat.le_of_ble_eq_true rfl) ?_
    exact x_ret (k_iret hx hb hr hlocks hK hP hD hS (hC_2) (rfl) (rfl) d_F_size_5)
set_option maxHeartbeats 4000000 in
set_option maxRecDepth 100000 in
theorem c_element (l : Launch) (hl0 : l.stackTraces = false) (D : va_G) (a : Nat → Nat) (g : Nat → ClassId) (tw : Nat) (sLen sKind : Nat → Nat) (sExt : Nat → Int32) (sMust : Nat → Bool) (rTab : Nat → Nat) (rFil : Nat → Bool) (rNum : Nat → Int64) (rLnk rLen : Nat → Nat) (rItm : Nat → Int32) (made : Nat) (pItm : Nat → Int32) (held : Nat) (dByt : Nat → Nat) (dLen : Nat) (bByt : Nat → Nat) (bRea : Nat → Bool) (bRec bItm bFld bOff bOfp : Nat → Nat) (kept wrt wid ent : Nat) (ver : Bool) (fAdr fTab adr tab : Nat) (lf : Int32) (x : Int32) (y : Int32)  (ht : tab < 4) (hL : sLen tab ≤ 6) (hk : ∀ j, sKind j < 7) (hB : ∀ k, dByt k < 256) (hd : dLen ≤ 240) (hadr : adr < 2 ^ 29) : kMX l y_F_element b_F_element 5 (some .int) ({ frames := 8, cells := 3, slots := 18, locals := 133 }) D vwCl (WdT g) tw [.ref (a 0), .int x, .int y] (Wd a g sLen sKind sExt sMust rTab rFil rNum rLnk rLen rItm made pItm held dByt dLen bByt bRea bRec bItm bFld bOff bOfp kept wrt wid ent ver fAdr fTab adr tab lf) (cdEl (cdKd (cdCur ver sLen tab x) (sKind (tab * 6 + cN x)) 4 5) (itF dByt dLen adr (cN x)) y = 0) (some (.int (if (sKind (tab * 6 + cN x)) = 4 then nI (leN dByt dLen (nI (tgF dByt dLen (adr + ofF dByt dLen adr (cN x)) + 4 + cN y)) 1) else (sxL 2 (leN dByt dLen (nI (tgF dByt dLen (adr + ofF dByt dLen adr (cN x)) + 4 + 2 * cN y)) 2)).toInt32))) (Wd a g sLen sKind sExt sMust rTab rFil rNum rLnk rLen rItm made pItm held dByt dLen bByt bRea bRec bItm bFld bOff bOfp kept wrt wid ent ver fAdr fTab adr tab lf) (fun E => (E = xIS ∧ cdEl (cdKd (cdCur ver sLen tab x) (sKind (tab * 6 + cN x)) 4 5) (itF dByt dLen adr (cN x)) y = 1) ∨ (E = xNS ∧ cdEl (cdKd (cdCur ver sLen tab x) (sKind (tab * 6 + cN x)) 4 5) (itF dByt dLen adr (cN x)) y = 2) ∨ (E = xUO ∧ cdEl (cdKd (cdCur ver sLen tab x) (sKind (tab * 6 + cN x)) 4 5) (itF dByt dLen adr (cN x)) y = 3) ∨ (E = xIO ∧ cdEl (cdKd (cdCur ver sLen tab x) (sKind (tab * 6 + cN x)) 4 5) (itF dByt dLen adr (cN x)) y = 4)) (Wd a g sLen sKind sExt sMust rTab rFil rNum rLnk rLen rItm made pItm held dByt dLen bByt bRea bRec bItm bFld bOff bOfp kept wrt wid ent ver fAdr fTab adr tab lf) := by
  refine k_ofX (by decide) (Nat.le_of_ble_eq_true rfl) ?_
  intro p e s m below meth c A ls hx hb hr hlocks hml hex hts hown hA hP hK hD hS hZ hl
  have hl : lv_has ls 5 [(0, .ref (a 0)), (1, .int x), (2, .int y)] := hl
  refine lv_aload_n hx hb d_F_element_0 rfl (lv_at hl 0 rfl) ?_
  refine lv_iload_n hx hb d_F_element_1 rfl (lv_at hl 1 rfl) ?_
  refine k_callVX (c_itemsAtCursor l hl0 D a g tw sLen sKind sExt sMust rTab rFil rNum rLnk rLen rItm made pItm held dByt dLen bByt bRea bRec bItm bFld bOff bOfp kept wrt wid ent ver fAdr fTab adr tab lf x  ht hL hk hB hd hadr) m_F_itemsAtCursor wd_79a62401 0 0 rfl rfl rfl kT hx hb hml hown hts ⟨Nat.le_of_ble_eq_true rfl, Nat.le_of_ble_eq_true rfl⟩ ⟨Nat.le_of_ble_eq_true rfl, Nat.le_of_ble_eq_true rfl⟩ hK hP hD hS hA hZ hl.1 rfl rfl (Nat.le_of_ble_eq_true rfl) d_F_element_2 (fun E ce q9 H locs hE hP hD hS hq9 hcv hcl => ?_) (fun H locs hC hP hD hS => ?_)
  · skip
    have hP : va_P D vwCl (Wd a g sLen sKind sExt sMust rTab rFil rNum rLnk rLen rItm made pItm held dByt dLen bByt bRea bRec bItm bFld bOff bOfp kept wrt wid ent ver fAdr fTab adr tab lf) H := hP
    have hD : va_D A (Wd a g sLen sKind sExt sMust rTab rFil rNum rLnk rLen rItm made pItm held dByt dLen bByt bRea bRec bItm bFld bOff bOfp kept wrt wid ent ver fAdr fTab adr tab lf) := hD
    exact k_out hex hlocks hK hP hD hS (by rcases hE with ⟨h1, h2⟩ | ⟨h1, h2⟩ | ⟨h1, h2⟩; exact Or.inl ⟨h1, by simp [cdEl, h2]⟩; exact Or.inr (Or.inl ⟨h1, by simp [cdEl, h2]⟩); exact Or.inr (Or.inr (Or.inl ⟨h1, by simp [cdEl, h2]⟩))) (by rfl) hq9 hcv hcl (Nat.le_of_ble_eq_true rfl) (Nat.le_of_ble_eq_true rfl)
  · skip
    have hC_2 : cdKd (cdCur ver sLen tab x) (sKind (tab * 6 + cN x)) 4 5 = 0 := hC
    have hP : va_P D vwCl (Wd a g sLen sKind sExt sMust rTab rFil rNum rLnk rLen rItm made pItm held dByt dLen bByt bRea bRec bItm bFld bOff bOfp kept wrt wid ent ver fAdr fTab adr tab lf) H := hP
    have hD : va_D A (Wd a g sLen sKind sExt sMust rTab rFil rNum rLnk rLen rItm made pItm held dByt dLen bByt bRea bRec bItm bFld bOff bOfp kept wrt wid ent ver fAdr fTab adr tab lf) := hD
    refine W.eq (g2 := F0 m 5 ls [.int (itF dByt dLen adr (cN x))]) rfl ?_
    refine lv_istore_n (lv' := [(3, .int (itF dByt dLen adr (cN x))), (0, .ref (a 0)), (1, .int x), (2, .int y)]) hx hb d_F_element_5 rfl hl (by decide) rfl (fun ls hl => ?_)
    refine lv_iload_n hx hb d_F_element_6 rfl (lv_at hl 3 rfl) ?_
    refine lv_if_lt (tgt := 15) hx hb d_F_element_7 (by decide) (fun c_7 => ?_) (fun c_7 => ?_)
    · skip
      exact k_throw hl0 hx hb hown kT hts ⟨by decide, by decide⟩ wx_be0090ef hZ hex hlocks hK hP hD hS (hl.1.trans hml.symm) (Or.inr (Or.inr (Or.inr ⟨rfl, by rw [cdEl, if_pos hC_2, if_neg (by simp [c_7])]⟩))) (rfl) d_F_element_15 d_F_element_18 d_F_element_19 d_F_element_22 ⟨Nat.le_of_ble_eq_true rfl, Nat.le_of_ble_eq_true rfl⟩ ⟨Nat.le_of_ble_eq_true rfl, Nat.le_of_ble_eq_true rfl⟩ (Nat.le_of_ble_eq_true rfl) (Nat.le_of_ble_eq_true rfl)
    · skip
      refine lv_iload_n hx hb d_F_element_10 rfl (lv_at hl 3 rfl) ?_
      refine lv_iload_n hx hb d_F_element_11 rfl (lv_at hl 0 rfl) ?_
      refine lv_icmp_lt (tgt := 23) hx hb d_F_element_12 (by decide) (fun c_12 => ?_) (fun c_12 => ?_)
      · skip
        have hcur : cdCur ver sLen tab x = 0 := cdKd_0 hC_2
        obtain ⟨n_x, b_x⟩ := hasF_spec (by omega) (cdCur_0 hcur).2
        have hl : lv_has ls 5 [(3, .int (itF dByt dLen adr (cN x))), (0, .ref (a 0)), (1, .int (nI (cN x))), (2, .int y)] := by rw [← n_x]; exact hl
        have hq : ¬ ofF dByt dLen adr (cN x) = 0 := itF_in c_7 c_12
        have n_y := nI_cN c_7
        have hk1 : sKind (tab * 6 + cN x) < 7 := hk _
        have hl : lv_has ls 5 [(3, .int (itF dByt dLen adr (cN x))), (0, .ref (a 0)), (1, .int (nI (cN x))), (2, .int (nI (cN y)))] := by rw [← n_y]; exact hl
        refine lv_aload_n hx hb d_F_element_23 rfl (lv_at hl 1 rfl) ?_
        refine va_get (D := D) (ci := 0) (C := R_F) (T := T_F) (N := 8) hx hb hts (fun w h => kT w (i_F w h)) hown hK hP 0 rfl rfl 3 (by decide) (hts _ (kT _ wd_24cf1a27)) (fun _ h9 => h9) rfl d_F_element_24 ?_
        refine lv_aload_n hx hb d_F_element_27 rfl (lv_at hl 1 rfl) ?_
        refine va_get (D := D) (ci := 0) (C := R_F) (T := T_F) (N := 8) hx hb hts (fun w h => kT w (i_F w h)) hown hK hP 0 rfl rfl 3 (by decide) (hts _ (kT _ wd_24cf1a27)) (fun _ h9 => h9) rfl d_F_element_28 ?_
        refine lv_aload_n hx hb d_F_element_31 rfl (lv_at hl 1 rfl) ?_
        refine va_get (D := D) (ci := 0) (C := R_F) (T := T_F) (N := 8) hx hb hts (fun w h => kT w (i_F w h)) hown hK hP 0 rfl rfl 6 (by decide) (hts _ (kT _ wd_59fc3318)) (fun _ h9 => h9) rfl d_F_element_32 ?_
        refine va_getN (D := D) (ci := 7) (C := R_C) (T := T_C) (N := 5) hx hb hts (fun w h => kT w (i_C w h)) hown hK hP 7 rfl rfl 3 (by decide) (va_Nw.use rfl (hZ.2.2.1 _ wn_7c226025)) (fun _ h9 => h9) rfl d_F_element_35 ?_
        refine lv_iload_n hx hb d_F_element_38 rfl (lv_at hl 2 rfl) ?_
        refine k_callV (c_Data_placeOf l D a g tw sLen sKind sExt sMust rTab rFil rNum rLnk rLen rItm made pItm held dByt dLen bByt bRea bRec bItm bFld bOff bOfp kept wrt wid ent ver fAdr fTab adr tab lf adr (cN x)  hB hd (by omega) (by omega)) m_D_placeOf wd_c6059eda 4 4 rfl rfl rfl kT hx hb hml hown hts ⟨Nat.le_of_ble_eq_true rfl, Nat.le_of_ble_eq_true rfl⟩ ⟨Nat.le_of_ble_eq_true rfl, Nat.le_of_ble_eq_true rfl⟩ hK hP hD hS hA hZ hl.1 rfl rfl (Nat.le_of_ble_eq_true rfl) d_F_element_39 (fun H locs hP hD hS => ?_)
        have hP : va_P D vwCl (Wd a g sLen sKind sExt sMust rTab rFil rNum rLnk rLen rItm made pItm held dByt dLen bByt bRea bRec bItm bFld bOff bOfp kept wrt wid ent ver fAdr fTab adr tab lf) H := hP
        have hD : va_D A (Wd a g sLen sKind sExt sMust rTab rFil rNum rLnk rLen rItm made pItm held dByt dLen bByt bRea bRec bItm bFld bOff bOfp kept wrt wid ent ver fAdr fTab adr tab lf) := hD
        refine W.eq (g2 := F0 m 42 ls [.int (plF dByt dLen adr (cN x)), .ref (a 4)]) rfl ?_
        refine lv_eqi (plF_in hq) ?_
        refine k_callV (c_Data_target l D a g tw sLen sKind sExt sMust rTab rFil rNum rLnk rLen rItm made pItm held dByt dLen bByt bRea bRec bItm bFld bOff bOfp kept wrt wid ent ver fAdr fTab adr tab lf (adr + ofF dByt dLen adr (cN x))  hB hd) m_D_target wd_a6aced7a 4 4 rfl rfl rfl kT hx hb hml hown hts ⟨Nat.le_of_ble_eq_true rfl, Nat.le_of_ble_eq_true rfl⟩ ⟨Nat.le_of_ble_eq_true rfl, Nat.le_of_ble_eq_true rfl⟩ hK hP hD hS hA hZ hl.1 rfl rfl (Nat.le_of_ble_eq_true rfl) d_F_element_42 (fun H locs hP hD hS => ?_)
        have hP : va_P D vwCl (Wd a g sLen sKind sExt sMust rTab rFil rNum rLnk rLen rItm made pItm held dByt dLen bByt bRea bRec bItm bFld bOff bOfp kept wrt wid ent ver fAdr fTab adr tab lf) H := hP
        have hD : va_D A (Wd a g sLen sKind sExt sMust rTab rFil rNum rLnk rLen rItm made pItm held dByt dLen bByt bRea bRec bItm bFld bOff bOfp kept wrt wid ent ver fAdr fTab adr tab lf) := hD
        refine W.eq (g2 := F0 m 45 ls [.int (nI ((adr + ofF dByt dLen adr (cN x)) + min (leN dByt dLen (nI (adr + ofF dByt dLen adr (cN x))) 4) 100000))]) rfl ?_
        refine W.eq (g2 := F0 m 45 ls [.int (nI (tgF dByt dLen (adr + ofF dByt dLen adr (cN x))))]) rfl ?_
        refine lv_iconst (v := nI 4) hx hb d_F_element_45 (by decide) ?_
        refine lv_iadd hx hb d_F_element_46 ?_
        refine lv_eqi (nI_add _ _) ?_
        refine lv_istore (lv' := [(4, .int (nI ((tgF dByt dLen (adr + ofF dByt dLen adr (cN x))) + 4))), (3, .int (itF dByt dLen adr (cN x))), (0, .ref (a 0)), (1, .int (nI (cN x))), (2, .int (nI (cN y)))]) hx hb d_F_element_47 hl (by decide) rfl (fun ls hl => ?_)
        refine lv_aload_n hx hb d_F_element_49 rfl (lv_at hl 2 rfl) ?_
        refine va_get (D := D) (ci := 0) (C := R_F) (T := T_F) (N := 8) hx hb hts (fun w h => kT w (i_F w h)) hown hK hP 0 rfl rfl 0 (by decide) (hts _ (kT _ wd_61505274)) (fun _ h9 => h9) rfl d_F_element_50 ?_
        refine lv_aload_n hx hb d_F_element_53 rfl (lv_at hl 2 rfl) ?_
        refine va_get (D := D) (ci := 0) (C := R_F) (T := T_F) (N := 8) hx hb hts (fun w h => kT w (i_F w h)) hown hK hP 0 rfl rfl 6 (by decide) (hts _ (kT _ wd_59fc3318)) (fun _ h9 => h9) rfl d_F_element_54 ?_
        refine va_getN (D := D) (ci := 7) (C := R_C) (T := T_C) (N := 5) hx hb hts (fun w h => kT w (i_C w h)) hown hK hP 7 rfl rfl 4 (by decide) (va_Nw.use rfl (hZ.2.2.1 _ wn_1769704a)) (fun _ h9 => h9) rfl d_F_element_57 ?_
        refine lv_iload_n hx hb d_F_element_60 rfl (lv_at hl 3 rfl) ?_
        refine k_callV (c_Schema_kindOf l D a g tw sLen sKind sExt sMust rTab rFil rNum rLnk rLen rItm made pItm held dByt dLen bByt bRea bRec bItm bFld bOff bOfp kept wrt wid ent ver fAdr fTab adr tab lf tab (cN x)  (by omega) (by omega)) m_S_kindOf wd_98c1bc35 1 1 rfl rfl rfl kT hx hb hml hown hts ⟨Nat.le_of_ble_eq_true rfl, Nat.le_of_ble_eq_true rfl⟩ ⟨Nat.le_of_ble_eq_true rfl, Nat.le_of_ble_eq_true rfl⟩ hK hP hD hS hA hZ hl.1 rfl rfl (Nat.le_of_ble_eq_true rfl) d_F_element_61 (fun H locs hP hD hS => ?_)
        have hP : va_P D vwCl (Wd a g sLen sKind sExt sMust rTab rFil rNum rLnk rLen rItm made pItm held dByt dLen bByt bRea bRec bItm bFld bOff bOfp kept wrt wid ent ver fAdr fTab adr tab lf) H := hP
        have hD : va_D A (Wd a g sLen sKind sExt sMust rTab rFil rNum rLnk rLen rItm made pItm held dByt dLen bByt bRea bRec bItm bFld bOff bOfp kept wrt wid ent ver fAdr fTab adr tab lf) := hD
        refine W.eq (g2 := F0 m 64 ls [.int (nI (sKind (tab * 6 + (cN x))))]) rfl ?_
        refine lv_iconst (v := nI 4) hx hb d_F_element_64 (by decide) ?_
        refine lv_icmp_ne (tgt := 80) hx hb d_F_element_65 (by decide) (fun c_65 => ?_) (fun c_65 => ?_)
        · skip
          have c_65 := mt (nI_eq (by omega) (by omega)).mpr c_65
          refine lv_aload_n hx hb d_F_element_80 rfl (lv_at hl 2 rfl) ?_
          refine va_get (D := D) (ci := 0) (C := R_F) (T := T_F) (N := 8) hx hb hts (fun w h => kT w (i_F w h)) hown hK hP 0 rfl rfl 3 (by decide) (hts _ (kT _ wd_24cf1a27)) (fun _ h9 => h9) rfl d_F_element_81 ?_
          refine lv_iload hx hb d_F_element_84 (lv_at hl 0 rfl) ?_
          refine lv_iconst (v := nI 2) hx hb d_F_element_86 (by decide) ?_
          refine lv_iload_n hx hb d_F_element_87 rfl (lv_at hl 4 rfl) ?_
          refine lv_imul hx hb d_F_element_88 ?_
          refine lv_eqi (pk_mul _ _) ?_
          refine lv_iadd hx hb d_F_element_89 ?_
          refine lv_eqi (nI_add _ _) ?_
          refine lv_iconst (v := nI 2) hx hb d_F_element_90 (by decide) ?_
          refine k_callV (c_Data_signed l D a g tw sLen sKind sExt sMust rTab rFil rNum rLnk rLen rItm made pItm held dByt dLen bByt bRea bRec bItm bFld bOff bOfp kept wrt wid ent ver fAdr fTab adr tab lf (nI (((tgF dByt dLen (adr + ofF dByt dLen adr (cN x))) + 4) + (2 * (cN y)))) 2  hB hd (by decide) (by decide)) m_D_signed wd_58a50798 4 4 rfl rfl rfl kT hx hb hml hown hts ⟨Nat.le_of_ble_eq_true rfl, Nat.le_of_ble_eq_true rfl⟩ ⟨Nat.le_of_ble_eq_true rfl, Nat.le_of_ble_eq_true rfl⟩ hK hP hD hS hA hZ hl.1 rfl rfl (Nat.le_of_ble_eq_true rfl) d_F_element_91 (fun H locs hP hD hS => ?_)
          have hP : va_P D vwCl (Wd a g sLen sKind sExt sMust rTab rFil rNum rLnk rLen rItm made pItm held dByt dLen bByt bRea bRec bItm bFld bOff bOfp kept wrt wid ent ver fAdr fTab adr tab lf) H := hP
          have hD : va_D A (Wd a g sLen sKind sExt sMust rTab rFil rNum rLnk rLen rItm made pItm held dByt dLen bByt bRea bRec bItm bFld bOff bOfp kept wrt wid ent ver fAdr fTab adr tab lf) := hD
          refine W.eq (g2 := F0 m 94 ls [.long (sxL 2 (leN dByt dLen (nI (((tgF dByt dLen (adr + ofF dByt dLen adr (cN x))) + 4) + (2 * (cN y)))) 2))]) rfl ?_
          refine lv_l2i hx hb d_F_element_94 rfl ?_
          refine W.widen (k := 3) (n := 18) (Nat.le_of_ble_eq_true rfl) (Nat.le_of_ble_eq_true rfl) ?_
          exact x_ret (k_iret hx hb hr hlocks hK hP hD hS (by rw [cdEl, if_pos hC_2, if_pos ⟨c_7, c_12⟩]) (by rw [if_neg c_65]) (rfl) d_F_element_95)
        · skip
          have c_65 := (nI_eq (by omega) (by omega)).mp c_65
          refine lv_aload_n hx hb d_F_element_68 rfl (lv_at hl 2 rfl) ?_
          refine va_get (D := D) (ci := 0) (C := R_F) (T := T_F) (N := 8) hx hb hts (fun w h => kT w (i_F w h)) hown hK hP 0 rfl rfl 3 (by decide) (hts _ (kT _ wd_24cf1a27)) (fun _ h9 => h9) rfl d_F_element_69 ?_
          refine lv_iload hx hb d_F_element_72 (lv_at hl 0 rfl) ?_
          refine lv_iload_n hx hb d_F_element_74 rfl (lv_at hl 4 rfl) ?_
          refine lv_iadd hx hb d_F_element_75 ?_
          refine lv_eqi (nI_add _ _) ?_
          refine k_callV (c_Data_unsignedByte l D a g tw sLen sKind sExt sMust rTab rFil rNum rLnk rLen rItm made pItm held dByt dLen bByt bRea bRec bItm bFld bOff bOfp kept wrt wid ent ver fAdr fTab adr tab lf (nI (((tgF dByt dLen (adr + ofF dByt dLen adr (cN x))) + 4) + (cN y)))  hB hd) m_D_unsignedByte wd_8cad2f06 4 4 rfl rfl rfl kT hx hb hml hown hts ⟨Nat.le_of_ble_eq_true rfl, Nat.le_of_ble_eq_true rfl⟩ ⟨Nat.le_of_ble_eq_true rfl, Nat.le_of_ble_eq_true rfl⟩ hK hP hD hS hA hZ hl.1 rfl rfl (Nat.le_of_ble_eq_true rfl) d_F_element_76 (fun H locs hP hD hS => ?_)
          have hP : va_P D vwCl (Wd a g sLen sKind sExt sMust rTab rFil rNum rLnk rLen rItm made pItm held dByt dLen bByt bRea bRec bItm bFld bOff bOfp kept wrt wid ent ver fAdr fTab adr tab lf) H := hP
          have hD : va_D A (Wd a g sLen sKind sExt sMust rTab rFil rNum rLnk rLen rItm made pItm held dByt dLen bByt bRea bRec bItm bFld bOff bOfp kept wrt wid ent ver fAdr fTab adr tab lf) := hD
          refine W.eq (g2 := F0 m 79 ls [.int (nI (leN dByt dLen (nI (((tgF dByt dLen (adr + ofF dByt dLen adr (cN x))) + 4) + (cN y))) 1))]) rfl ?_
          refine W.widen (k := 3) (n := 18) (Nat.le_of_ble_eq_true rfl) (Nat.le_of_ble_eq_true rfl) ?_
          exact x_ret (k_iret hx hb hr hlocks hK hP hD hS (by rw [cdEl, if_pos hC_2, if_pos ⟨c_7, c_12⟩]) (by rw [if_pos c_65]) (rfl) d_F_element_79)
      · skip
        exact k_throw hl0 hx hb hown kT hts ⟨by decide, by decide⟩ wx_be0090ef hZ hex hlocks hK hP hD hS (hl.1.trans hml.symm) (Or.inr (Or.inr (Or.inr ⟨rfl, by rw [cdEl, if_pos hC_2, if_neg (by simp [c_7, c_12])]⟩))) (rfl) d_F_element_15 d_F_element_18 d_F_element_19 d_F_element_22 ⟨Nat.le_of_ble_eq_true rfl, Nat.le_of_ble_eq_true rfl⟩ ⟨Nat.le_of_ble_eq_true rfl, Nat.le_of_ble_eq_true rfl⟩ (Nat.le_of_ble_eq_true rfl) (Nat.le_of_ble_eq_true rfl)

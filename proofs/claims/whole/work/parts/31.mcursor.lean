/-! tables that were verified -/
def FR (d : Nat → Nat) (n x : Nat) : Prop := x + 4 ≤ n ∧ vOf d n x = nI (vN d n x) ∧ vN d n x + 4 ≤ n ∧ leN d n (nI (vN d n x)) 2 % 2 = 0 ∧ vN d n x + leN d n (nI (vN d n x)) 2 ≤ n ∧ x + leN d n (nI (vN d n x + 2)) 2 ≤ n
theorem nI_m1 {a : Nat} (h : a < 2 ^ 31) : ¬ nI a = -1 := fun e => absurd (by rw [e]; decide) (nI_pos h)
theorem FR_of {d : Nat → Nat} {n x : Nat} (hB : ∀ k, d k < 256) (hn : n ≤ 240) (hx : x + 4 ≤ n) (hb : bdV d n x = false) (hi : ioF d n x (vN d n x) = -1) : FR d n x := by
  obtain ⟨h1, h2⟩ := vO_ok hB (by omega) hn hb
  unfold ioF at hi
  split at hi
  · exact absurd hi (nI_m1 (by omega))
  · split at hi
    · exact absurd hi (nI_m1 (by omega))
    · rename_i a b
      exact ⟨hx, h1, h2, by omega, by omega, by omega⟩
/-- the bounds of a field that is there -/
def FB (q : SR) (d : Nat → Nat) (n x t f : Nat) : Prop := ¬ ofF d n x f < 4 ∧ x + ofF d n x f + kWd (q.sKind (t * 6 + f)) ≤ n
def VG (q : SR) (d : Nat → Nat) (n : Nat) : Nat → Nat → Nat → Prop
  | 0, _, _ => False
  | K + 1, x, t => FR d n x ∧ t < 4 ∧ ∀ f, f < q.sLen t → ofF d n x f = 0 ∨ (FB q d n x t f ∧ (q.sKind (t * 6 + f) = 6 → VG q d n K (tgF d n (x + ofF d n x f)) (cN (q.sExt (t * 6 + f)))) ∧ (¬ q.sKind (t * 6 + f) = 6 → ¬ q.sKind (t * 6 + f) < 4 → sdF d n (q.sKind (t * 6 + f)) (tgF d n (x + ofF d n x f)) = true))
abbrev VE (q : SR) (d : Nat → Nat) (n x t : Nat) : Prop := ∃ K, VG q d n K x t
theorem VE_fr {q : SR} {d : Nat → Nat} {n x t : Nat} (h : VE q d n x t) : FR d n x ∧ t < 4 := by
  obtain ⟨K, h⟩ := h
  cases K with
  | zero => exact h.elim
  | succ K => exact ⟨h.1, h.2.1⟩
theorem VE_f {q : SR} {d : Nat → Nat} {n x t f : Nat} (h : VE q d n x t) (hf : f < q.sLen t) (h0 : ¬ ofF d n x f = 0) : FB q d n x t f ∧ (q.sKind (t * 6 + f) = 6 → VE q d n (tgF d n (x + ofF d n x f)) (cN (q.sExt (t * 6 + f)))) ∧ (¬ q.sKind (t * 6 + f) = 6 → ¬ q.sKind (t * 6 + f) < 4 → sdF d n (q.sKind (t * 6 + f)) (tgF d n (x + ofF d n x f)) = true) := by
  obtain ⟨K, h⟩ := h
  cases K with
  | zero => exact h.elim
  | succ K =>
    rcases h.2.2 f hf with h1 | ⟨h1, h2, h3⟩
    · exact absurd h1 h0
    · exact ⟨h1, fun e => ⟨K, h2 e⟩, h3⟩
theorem leN_c {d : Nat → Nat} {n a : Nat} (k : Nat) : leN d n (nI a) (k + 1) = bAt d n (nI a) + 256 * leN d n (nI (a + 1)) k := by
  induction k with
  | zero =>
    show 0 + bAt d n (nI a + nI 0) * 2 ^ (8 * 0) = _
    rw [nI_add]
    show 0 + bAt d n (nI a) * 1 = bAt d n (nI a) + 256 * 0
    omega
  | succ k ih =>
    show leN d n (nI a) (k + 1) + bAt d n (nI a + nI (k + 1)) * 2 ^ (8 * (k + 1)) = bAt d n (nI a) + 256 * (leN d n (nI (a + 1)) k + bAt d n (nI (a + 1) + nI k) * 2 ^ (8 * k))
    rw [ih, nI_add, nI_add, show a + 1 + k = a + (k + 1) by omega, show 2 ^ (8 * (k + 1)) = 256 * 2 ^ (8 * k) by rw [show 8 * (k + 1) = 8 * k + 8 by omega, Nat.pow_add]; omega]
    rw [Nat.mul_add, ← Nat.mul_assoc, ← Nat.mul_assoc, Nat.mul_comm _ 256]
    omega
theorem lN_ma (a b : Nat) : lN a * 256 + lN b = lN (b + 256 * a) := by
  apply Int64.toBitVec_inj.mp
  show BitVec.ofNat 64 a * 256#64 + BitVec.ofNat 64 b = BitVec.ofNat 64 (b + 256 * a)
  apply BitVec.eq_of_toNat_eq
  simp [BitVec.toNat_add, BitVec.toNat_mul, BitVec.toNat_ofNat]
  omega
theorem br_sx {k u : Nat} (hk : k < 4) (hu : u < 2 ^ (8 * kWd k)) : brI k (lN u) = sxL (kWd k) u := by
  have h4 : k = 0 ∨ k = 1 ∨ k = 2 ∨ k = 3 := by omega
  rcases h4 with rfl | rfl | rfl | rfl
  · have hu' : u < 256 := hu
    apply Int64.toInt_inj.mp
    show ((lN u).toInt32.toInt8.toInt32.toInt64).toInt = (sxL 1 u).toInt
    rw [sxL_toInt (w := 1) (by decide) (by decide) hu, lN_i32, Int32.toInt_toInt64, Int8.toInt_toInt32, Int32.toInt_toInt8, nI_toInt (by omega), Int.bmod_def]
    show (if (u : Int) % 256 < (256 + 1) / 2 then (u : Int) % 256 else (u : Int) % 256 - 256) = if 2 * u < 256 then (u : Int) else (u : Int) - 256
    split <;> split <;> omega
  · have hu' : u < 65536 := hu
    apply Int64.toInt_inj.mp
    show ((lN u).toInt32.toInt16.toInt32.toInt64).toInt = (sxL 2 u).toInt
    rw [sxL_toInt (w := 2) (by decide) (by decide) hu, lN_i32, Int32.toInt_toInt64, Int16.toInt_toInt32, Int32.toInt_toInt16, nI_toInt (by omega), Int.bmod_def]
    show (if (u : Int) % 65536 < (65536 + 1) / 2 then (u : Int) % 65536 else (u : Int) % 65536 - 65536) = if 2 * u < 65536 then (u : Int) else (u : Int) - 65536
    split <;> split <;> omega
  · exact sx4 hu
  · have hu' : u < 18446744073709551616 := hu
    apply Int64.toInt_inj.mp
    show (lN u).toInt = (sxL 8 u).toInt
    rw [sxL_toInt (w := 8) (by decide) (by decide) hu, lN_ti hu']
    show (if u < 9223372036854775808 then (u : Int) else (u : Int) - 18446744073709551616) = if 2 * u < 18446744073709551616 then (u : Int) else (u : Int) - 18446744073709551616
    split <;> split <;> omega
theorem sx_16 {u : Nat} (h : u < 2 ^ (8 * 2)) : (nI u).toInt16.toInt32 = (sxL 2 u).toInt32 := by
  have h' : u < 65536 := h
  have e : (nI u).toInt16.toInt32.toInt64 = sxL 2 u := by
    show _ = sxL (kWd 1) u
    rw [← br_sx (k := 1) (by decide) h]
    show _ = ((lN u).toInt32.toInt16.toInt32.toInt64)
    rw [lN_i32]
  rw [← e, Int32.toInt32_toInt64]
theorem hasF0 (y : Int32) : hasF 0 y = false := decide_eq_false (fun z => z.2 (by rw [nI_0]; exact i_le z.1))
theorem hasF_lt {n : Nat} {y : Int32} (h : hasF n y = true) : ¬ y < 0 ∧ y < nI n := by
  have h9 : ¬ y < 0 ∧ ¬ nI n ≤ y := of_decide_eq_true h
  exact ⟨h9.1, i_lt h9.2⟩
theorem hasF_ge {n : Nat} {y : Int32} (h : hasF n y = false) : ¬ (¬ y < 0 ∧ y < nI n) := by
  have h9 : ¬ (¬ y < 0 ∧ ¬ nI n ≤ y) := of_decide_eq_false h
  exact fun z => h9 ⟨z.1, fun w => i_nlt w z.2⟩
theorem min_31 (a : Nat) : min a 100000 < 2 ^ 31 := Nat.lt_of_le_of_lt (Nat.min_le_right _ _) (by decide)
theorem itF_y {d : Nat → Nat} {n x f : Nat} (h : ¬ ofF d n x f = 0) : itF d n x f = nI (min (leN d n (nI (tgF d n (x + ofF d n x f))) 4) 100000) := by rw [itF, if_neg h]
theorem cdEl_0 {cd : Nat} {len y : Int32} (h : cd = 0) (h2 : ¬ y < 0 ∧ y < len) : cdEl cd len y = 0 := by rw [cdEl, if_pos h, if_pos h2]
theorem cdEl_4 {cd : Nat} {len y : Int32} (h : cd = 0) (h2 : ¬ (¬ y < 0 ∧ y < len)) : cdEl cd len y = 4 := by rw [cdEl, if_pos h, if_neg h2]
theorem sd_4 {d : Nat → Nat} {n k s y : Nat} (h : sdF d n k s = true) (hk : ¬ k = 5) (hy : y < min (leN d n (nI s) 4) 100000) : s + 4 + y < n := by
  have h2 := (of_decide_eq_true h).2.2.2.2 hk
  generalize min (leN d n (nI s) 4) 100000 = c at *
  omega
theorem sd_5 {d : Nat → Nat} {n k s y : Nat} (h : sdF d n k s = true) (hk : k = 5) (hy : y < min (leN d n (nI s) 4) 100000) : s + 4 + 2 * y + 2 ≤ n := by
  have h2 := (of_decide_eq_true h).2.2.2.1 hk
  generalize min (leN d n (nI s) 4) 100000 = c at *
  omega
def cdO (cd : Nat) : Bool := decide (cd = 0)
theorem wd_4533cc18 : Cond.methodLink R_M 198 y_M_tableAt ∈ kGW := kGW_of (List.mem_of_getElem? (i := 1075) (by decide +kernel)) (by decide)
theorem wd_35e10521 : Cond.methodLink R_M 201 y_M_offset ∈ kGW := kGW_of (List.mem_of_getElem? (i := 1083) (by decide +kernel)) (by decide)
theorem wd_fe38dba4 : Cond.methodLink R_M 204 y_M_offset4 ∈ kGW := kGW_of (List.mem_of_getElem? (i := 1050) (by decide +kernel)) (by decide)
theorem wd_ccac33a8 : Cond.methodLink R_M 233 y_M_open ∈ kGW := kGW_of (List.mem_of_getElem? (i := 1107) (by decide +kernel)) (by decide)
theorem wd_e90247da : Cond.methodLink R_M 207 y_M_target ∈ kGW := kGW_of (List.mem_of_getElem? (i := 1087) (by decide +kernel)) (by decide)
theorem wd_be33e586 : Cond.methodLink R_M 137 y_M_wide ∈ kGW := kGW_of (List.mem_of_getElem? (i := 1002) (by decide +kernel)) (by decide)
theorem wd_8a7a8175 : Cond.constantLong R_M 237 256 ∈ kGW := kGW_of (List.mem_of_getElem? (i := 1115) (by decide +kernel)) (by decide)
set_option maxRecDepth 20000 in
theorem wd_27bace7b : Cond.code y_M_offset b_M_offset 4 (some .int) ∈ kGW := kGW_of (List.mem_of_getElem? (i := 1086) (by rfl)) (by decide)
theorem wd_8c95488c : Cond.instanceMethod y_M_offset ∈ kGW := kGW_of (List.mem_of_getElem? (i := 1085) (by decide +kernel)) (by decide)
theorem wd_2858d92f : Cond.selects R_M y_M_offset y_M_offset ∈ kGW := kGW_of (List.mem_of_getElem? (i := 42) (by decide +kernel)) (by decide)
set_option maxRecDepth 20000 in
theorem wd_c2b600c8 : Cond.code y_M_target b_M_target 4 (some .int) ∈ kGW := kGW_of (List.mem_of_getElem? (i := 1090) (by rfl)) (by decide)
theorem wd_57272306 : Cond.instanceMethod y_M_target ∈ kGW := kGW_of (List.mem_of_getElem? (i := 1089) (by decide +kernel)) (by decide)
theorem wd_e66f10c7 : Cond.selects R_M y_M_target y_M_target ∈ kGW := kGW_of (List.mem_of_getElem? (i := 43) (by decide +kernel)) (by decide)
set_option maxRecDepth 20000 in
theorem wd_29811282 : Cond.code y_M_open b_M_open 4 (some .boolean) ∈ kGW := kGW_of (List.mem_of_getElem? (i := 1110) (by rfl)) (by decide)
theorem wd_e9612f4e : Cond.instanceMethod y_M_open ∈ kGW := kGW_of (List.mem_of_getElem? (i := 1109) (by decide +kernel)) (by decide)
theorem wd_d8d63fba : Cond.selects R_M y_M_open y_M_open ∈ kGW := kGW_of (List.mem_of_getElem? (i := 45) (by decide +kernel)) (by decide)
set_option maxRecDepth 20000 in
theorem wd_48f36f25 : Cond.code y_M_down b_M_down 3 (some .int) ∈ kGW := kGW_of (List.mem_of_getElem? (i := 1106) (by rfl)) (by decide)
theorem wd_ec67e5ab : Cond.instanceMethod y_M_down ∈ kGW := kGW_of (List.mem_of_getElem? (i := 1104) (by decide +kernel)) (by decide)
theorem wd_40dcdfc0 : Cond.selects R_M y_M_down y_M_down ∈ kGW := kGW_of (List.mem_of_getElem? (i := 1105) (by decide +kernel)) (by decide)
set_option maxRecDepth 20000 in
theorem wd_5b1bf65a : Cond.code y_M_value b_M_value 7 (some .long) ∈ kGW := kGW_of (List.mem_of_getElem? (i := 1114) (by rfl)) (by decide)
theorem wd_3f226980 : Cond.instanceMethod y_M_value ∈ kGW := kGW_of (List.mem_of_getElem? (i := 1112) (by decide +kernel)) (by decide)
theorem wd_e58c1fa8 : Cond.selects R_M y_M_value y_M_value ∈ kGW := kGW_of (List.mem_of_getElem? (i := 1113) (by decide +kernel)) (by decide)
set_option maxRecDepth 20000 in
theorem wd_153776a0 : Cond.code y_M_size b_M_size 2 (some .int) ∈ kGW := kGW_of (List.mem_of_getElem? (i := 1119) (by rfl)) (by decide)
theorem wd_2f4e3c21 : Cond.instanceMethod y_M_size ∈ kGW := kGW_of (List.mem_of_getElem? (i := 1117) (by decide +kernel)) (by decide)
theorem wd_1de98d31 : Cond.selects R_M y_M_size y_M_size ∈ kGW := kGW_of (List.mem_of_getElem? (i := 1118) (by decide +kernel)) (by decide)
set_option maxRecDepth 20000 in
theorem wd_bf8b0a28 : Cond.code y_M_element b_M_element 5 (some .int) ∈ kGW := kGW_of (List.mem_of_getElem? (i := 1123) (by rfl)) (by decide)
theorem wd_d10d7564 : Cond.instanceMethod y_M_element ∈ kGW := kGW_of (List.mem_of_getElem? (i := 1121) (by decide +kernel)) (by decide)
theorem wd_7385ced2 : Cond.selects R_M y_M_element y_M_element ∈ kGW := kGW_of (List.mem_of_getElem? (i := 1122) (by decide +kernel)) (by decide)
theorem d_M_offset_0 : decode b_M_offset 0 = .ok (.aload_n 0, 1) := by decide +kernel
theorem d_M_offset_1 : decode b_M_offset 1 = .ok (.iload_n 1, 1) := by decide +kernel
theorem d_M_offset_2 : decode b_M_offset 2 = .ok (.invokevirtual 198, 3) := by decide +kernel
theorem d_M_offset_5 : decode b_M_offset 5 = .ok (.istore_n 3, 1) := by decide +kernel
theorem d_M_offset_6 : decode b_M_offset 6 = .ok (.iconst 4, 1) := by decide +kernel
theorem d_M_offset_7 : decode b_M_offset 7 = .ok (.iconst 2, 1) := by decide +kernel
theorem d_M_offset_8 : decode b_M_offset 8 = .ok (.iload_n 2, 1) := by decide +kernel
theorem d_M_offset_9 : decode b_M_offset 9 = .ok (.imul, 1) := by decide +kernel
theorem d_M_offset_10 : decode b_M_offset 10 = .ok (.iadd, 1) := by decide +kernel
theorem d_M_offset_11 : decode b_M_offset 11 = .ok (.aload_n 0, 1) := by decide +kernel
theorem d_M_offset_12 : decode b_M_offset 12 = .ok (.iload_n 3, 1) := by decide +kernel
theorem d_M_offset_13 : decode b_M_offset 13 = .ok (.invokevirtual 167, 3) := by decide +kernel
theorem d_M_offset_16 : decode b_M_offset 16 = .ok (.if_icmp .ge 17, 3) := by decide +kernel
theorem d_M_offset_19 : decode b_M_offset 19 = .ok (.aload_n 0, 1) := by decide +kernel
theorem d_M_offset_20 : decode b_M_offset 20 = .ok (.iload_n 3, 1) := by decide +kernel
theorem d_M_offset_21 : decode b_M_offset 21 = .ok (.iconst 4, 1) := by decide +kernel
theorem d_M_offset_22 : decode b_M_offset 22 = .ok (.iadd, 1) := by decide +kernel
theorem d_M_offset_23 : decode b_M_offset 23 = .ok (.iconst 2, 1) := by decide +kernel
theorem d_M_offset_24 : decode b_M_offset 24 = .ok (.iload_n 2, 1) := by decide +kernel
theorem d_M_offset_25 : decode b_M_offset 25 = .ok (.imul, 1) := by decide +kernel
theorem d_M_offset_26 : decode b_M_offset 26 = .ok (.iadd, 1) := by decide +kernel
theorem d_M_offset_27 : decode b_M_offset 27 = .ok (.invokevirtual 167, 3) := by decide +kernel
theorem d_M_offset_30 : decode b_M_offset 30 = .ok (.goto 4, 3) := by decide +kernel
theorem d_M_offset_33 : decode b_M_offset 33 = .ok (.iconst 0, 1) := by decide +kernel
theorem d_M_offset_34 : decode b_M_offset 34 = .ok (.ireturn, 1) := by decide +kernel
theorem d_M_target_0 : decode b_M_target 0 = .ok (.iload_n 1, 1) := by decide +kernel
theorem d_M_target_1 : decode b_M_target 1 = .ok (.aload_n 0, 1) := by decide +kernel
theorem d_M_target_2 : decode b_M_target 2 = .ok (.iload_n 1, 1) := by decide +kernel
theorem d_M_target_3 : decode b_M_target 3 = .ok (.iload_n 2, 1) := by decide +kernel
theorem d_M_target_4 : decode b_M_target 4 = .ok (.invokevirtual 201, 3) := by decide +kernel
theorem d_M_target_7 : decode b_M_target 7 = .ok (.iadd, 1) := by decide +kernel
theorem d_M_target_8 : decode b_M_target 8 = .ok (.istore_n 3, 1) := by decide +kernel
theorem d_M_target_9 : decode b_M_target 9 = .ok (.iload_n 3, 1) := by decide +kernel
theorem d_M_target_10 : decode b_M_target 10 = .ok (.aload_n 0, 1) := by decide +kernel
theorem d_M_target_11 : decode b_M_target 11 = .ok (.iload_n 3, 1) := by decide +kernel
theorem d_M_target_12 : decode b_M_target 12 = .ok (.invokevirtual 204, 3) := by decide +kernel
theorem d_M_target_15 : decode b_M_target 15 = .ok (.iadd, 1) := by decide +kernel
theorem d_M_target_16 : decode b_M_target 16 = .ok (.ireturn, 1) := by decide +kernel
theorem d_M_open_0 : decode b_M_open 0 = .ok (.aload_n 0, 1) := by decide +kernel
theorem d_M_open_1 : decode b_M_open 1 = .ok (.iconst 0, 1) := by decide +kernel
theorem d_M_open_2 : decode b_M_open 2 = .ok (.putfield 82, 3) := by decide +kernel
theorem d_M_open_5 : decode b_M_open 5 = .ok (.aload_n 0, 1) := by decide +kernel
theorem d_M_open_6 : decode b_M_open 6 = .ok (.getfield 93, 3) := by decide +kernel
theorem d_M_open_9 : decode b_M_open 9 = .ok (.ifCond .ne 11, 3) := by decide +kernel
theorem d_M_open_12 : decode b_M_open 12 = .ok (.aload_n 0, 1) := by decide +kernel
theorem d_M_open_13 : decode b_M_open 13 = .ok (.iconst 1, 1) := by decide +kernel
theorem d_M_open_14 : decode b_M_open 14 = .ok (.putfield 82, 3) := by decide +kernel
theorem d_M_open_17 : decode b_M_open 17 = .ok (.goto 70, 3) := by decide +kernel
theorem d_M_open_20 : decode b_M_open 20 = .ok (.iload_n 1, 1) := by decide +kernel
theorem d_M_open_21 : decode b_M_open 21 = .ok (.aload_n 0, 1) := by decide +kernel
theorem d_M_open_22 : decode b_M_open 22 = .ok (.getfield 7, 3) := by decide +kernel
theorem d_M_open_25 : decode b_M_open 25 = .ok (.aload_n 0, 1) := by decide +kernel
theorem d_M_open_26 : decode b_M_open 26 = .ok (.getfield 230, 3) := by decide +kernel
theorem d_M_open_29 : decode b_M_open 29 = .ok (.iaload, 1) := by decide +kernel
theorem d_M_open_30 : decode b_M_open 30 = .ok (.iconst 1, 1) := by decide +kernel
theorem d_M_open_31 : decode b_M_open 31 = .ok (.isub, 1) := by decide +kernel
theorem d_M_open_32 : decode b_M_open 32 = .ok (.invokestatic 85, 3) := by decide +kernel
theorem d_M_open_35 : decode b_M_open 35 = .ok (.ifCond .eq 11, 3) := by decide +kernel
theorem d_M_open_38 : decode b_M_open 38 = .ok (.aload_n 0, 1) := by decide +kernel
theorem d_M_open_39 : decode b_M_open 39 = .ok (.iconst 2, 1) := by decide +kernel
theorem d_M_open_40 : decode b_M_open 40 = .ok (.putfield 82, 3) := by decide +kernel
theorem d_M_open_43 : decode b_M_open 43 = .ok (.goto 44, 3) := by decide +kernel
theorem d_M_open_46 : decode b_M_open 46 = .ok (.aload_n 0, 1) := by decide +kernel
theorem d_M_open_47 : decode b_M_open 47 = .ok (.getfield 13, 3) := by decide +kernel
theorem d_M_open_50 : decode b_M_open 50 = .ok (.bipush 6, 2) := by decide +kernel
theorem d_M_open_52 : decode b_M_open 52 = .ok (.aload_n 0, 1) := by decide +kernel
theorem d_M_open_53 : decode b_M_open 53 = .ok (.getfield 230, 3) := by decide +kernel
theorem d_M_open_56 : decode b_M_open 56 = .ok (.imul, 1) := by decide +kernel
theorem d_M_open_57 : decode b_M_open 57 = .ok (.iload_n 1, 1) := by decide +kernel
theorem d_M_open_58 : decode b_M_open 58 = .ok (.iadd, 1) := by decide +kernel
theorem d_M_open_59 : decode b_M_open 59 = .ok (.iaload, 1) := by decide +kernel
theorem d_M_open_60 : decode b_M_open 60 = .ok (.iload_n 2, 1) := by decide +kernel
theorem d_M_open_61 : decode b_M_open 61 = .ok (.if_icmp .lt 21, 3) := by decide +kernel
theorem d_M_open_64 : decode b_M_open 64 = .ok (.aload_n 0, 1) := by decide +kernel
theorem d_M_open_65 : decode b_M_open 65 = .ok (.getfield 13, 3) := by decide +kernel
theorem d_M_open_68 : decode b_M_open 68 = .ok (.bipush 6, 2) := by decide +kernel
theorem d_M_open_70 : decode b_M_open 70 = .ok (.aload_n 0, 1) := by decide +kernel
theorem d_M_open_71 : decode b_M_open 71 = .ok (.getfield 230, 3) := by decide +kernel
theorem d_M_open_74 : decode b_M_open 74 = .ok (.imul, 1) := by decide +kernel
theorem d_M_open_75 : decode b_M_open 75 = .ok (.iload_n 1, 1) := by decide +kernel
theorem d_M_open_76 : decode b_M_open 76 = .ok (.iadd, 1) := by decide +kernel
theorem d_M_open_77 : decode b_M_open 77 = .ok (.iaload, 1) := by decide +kernel
theorem d_M_open_78 : decode b_M_open 78 = .ok (.iload_n 3, 1) := by decide +kernel
theorem d_M_open_79 : decode b_M_open 79 = .ok (.if_icmp .le 8, 3) := by decide +kernel
theorem d_M_open_82 : decode b_M_open 82 = .ok (.aload_n 0, 1) := by decide +kernel
theorem d_M_open_83 : decode b_M_open 83 = .ok (.iconst 3, 1) := by decide +kernel
theorem d_M_open_84 : decode b_M_open 84 = .ok (.putfield 82, 3) := by decide +kernel
theorem d_M_open_87 : decode b_M_open 87 = .ok (.aload_n 0, 1) := by decide +kernel
theorem d_M_open_88 : decode b_M_open 88 = .ok (.getfield 82, 3) := by decide +kernel
theorem d_M_open_91 : decode b_M_open 91 = .ok (.ifCond .ne 7, 3) := by decide +kernel
theorem d_M_open_94 : decode b_M_open 94 = .ok (.iconst 1, 1) := by decide +kernel
theorem d_M_open_95 : decode b_M_open 95 = .ok (.goto 4, 3) := by decide +kernel
theorem d_M_open_98 : decode b_M_open 98 = .ok (.iconst 0, 1) := by decide +kernel
theorem d_M_open_99 : decode b_M_open 99 = .ok (.ireturn, 1) := by decide +kernel
theorem d_M_down_0 : decode b_M_down 0 = .ok (.aload_n 0, 1) := by decide +kernel
theorem d_M_down_1 : decode b_M_down 1 = .ok (.iload_n 1, 1) := by decide +kernel
theorem d_M_down_2 : decode b_M_down 2 = .ok (.bipush 6, 2) := by decide +kernel
theorem d_M_down_4 : decode b_M_down 4 = .ok (.bipush 6, 2) := by decide +kernel
theorem d_M_down_6 : decode b_M_down 6 = .ok (.invokevirtual 233, 3) := by decide +kernel
theorem d_M_down_9 : decode b_M_down 9 = .ok (.ifCond .eq 15, 3) := by decide +kernel
theorem d_M_down_12 : decode b_M_down 12 = .ok (.aload_n 0, 1) := by decide +kernel
theorem d_M_down_13 : decode b_M_down 13 = .ok (.aload_n 0, 1) := by decide +kernel
theorem d_M_down_14 : decode b_M_down 14 = .ok (.getfield 227, 3) := by decide +kernel
theorem d_M_down_17 : decode b_M_down 17 = .ok (.iload_n 1, 1) := by decide +kernel
theorem d_M_down_18 : decode b_M_down 18 = .ok (.invokevirtual 201, 3) := by decide +kernel
theorem d_M_down_21 : decode b_M_down 21 = .ok (.ifCond .ne 5, 3) := by decide +kernel
theorem d_M_down_24 : decode b_M_down 24 = .ok (.iconst 0, 1) := by decide +kernel
theorem d_M_down_25 : decode b_M_down 25 = .ok (.ireturn, 1) := by decide +kernel
theorem d_M_down_26 : decode b_M_down 26 = .ok (.aload_n 0, 1) := by decide +kernel
theorem d_M_down_27 : decode b_M_down 27 = .ok (.aload_n 0, 1) := by decide +kernel
theorem d_M_down_28 : decode b_M_down 28 = .ok (.getfield 227, 3) := by decide +kernel
theorem d_M_down_31 : decode b_M_down 31 = .ok (.iload_n 1, 1) := by decide +kernel
theorem d_M_down_32 : decode b_M_down 32 = .ok (.invokevirtual 207, 3) := by decide +kernel
theorem d_M_down_35 : decode b_M_down 35 = .ok (.istore_n 2, 1) := by decide +kernel
theorem d_M_down_36 : decode b_M_down 36 = .ok (.aload_n 0, 1) := by decide +kernel
theorem d_M_down_37 : decode b_M_down 37 = .ok (.aload_n 0, 1) := by decide +kernel
theorem d_M_down_38 : decode b_M_down 38 = .ok (.getfield 16, 3) := by decide +kernel
theorem d_M_down_41 : decode b_M_down 41 = .ok (.bipush 6, 2) := by decide +kernel
theorem d_M_down_43 : decode b_M_down 43 = .ok (.aload_n 0, 1) := by decide +kernel
theorem d_M_down_44 : decode b_M_down 44 = .ok (.getfield 230, 3) := by decide +kernel
theorem d_M_down_47 : decode b_M_down 47 = .ok (.imul, 1) := by decide +kernel
theorem d_M_down_48 : decode b_M_down 48 = .ok (.iload_n 1, 1) := by decide +kernel
theorem d_M_down_49 : decode b_M_down 49 = .ok (.iadd, 1) := by decide +kernel
theorem d_M_down_50 : decode b_M_down 50 = .ok (.iaload, 1) := by decide +kernel
theorem d_M_down_51 : decode b_M_down 51 = .ok (.putfield 230, 3) := by decide +kernel
theorem d_M_down_54 : decode b_M_down 54 = .ok (.aload_n 0, 1) := by decide +kernel
theorem d_M_down_55 : decode b_M_down 55 = .ok (.iload_n 2, 1) := by decide +kernel
theorem d_M_down_56 : decode b_M_down 56 = .ok (.putfield 227, 3) := by decide +kernel
theorem d_M_down_59 : decode b_M_down 59 = .ok (.iconst 1, 1) := by decide +kernel
theorem d_M_down_60 : decode b_M_down 60 = .ok (.ireturn, 1) := by decide +kernel
theorem d_M_value_0 : decode b_M_value 0 = .ok (.aload_n 0, 1) := by decide +kernel
theorem d_M_value_1 : decode b_M_value 1 = .ok (.iload_n 1, 1) := by decide +kernel
theorem d_M_value_2 : decode b_M_value 2 = .ok (.iconst 0, 1) := by decide +kernel
theorem d_M_value_3 : decode b_M_value 3 = .ok (.iconst 3, 1) := by decide +kernel
theorem d_M_value_4 : decode b_M_value 4 = .ok (.invokevirtual 233, 3) := by decide +kernel
theorem d_M_value_7 : decode b_M_value 7 = .ok (.ifCond .ne 5, 3) := by decide +kernel
theorem d_M_value_10 : decode b_M_value 10 = .ok (.lconst 0, 1) := by decide +kernel
theorem d_M_value_11 : decode b_M_value 11 = .ok (.lreturn, 1) := by decide +kernel
theorem d_M_value_12 : decode b_M_value 12 = .ok (.bipush 6, 2) := by decide +kernel
theorem d_M_value_14 : decode b_M_value 14 = .ok (.aload_n 0, 1) := by decide +kernel
theorem d_M_value_15 : decode b_M_value 15 = .ok (.getfield 230, 3) := by decide +kernel
theorem d_M_value_18 : decode b_M_value 18 = .ok (.imul, 1) := by decide +kernel
theorem d_M_value_19 : decode b_M_value 19 = .ok (.iload_n 1, 1) := by decide +kernel
theorem d_M_value_20 : decode b_M_value 20 = .ok (.iadd, 1) := by decide +kernel
theorem d_M_value_21 : decode b_M_value 21 = .ok (.istore_n 2, 1) := by decide +kernel
theorem d_M_value_22 : decode b_M_value 22 = .ok (.aload_n 0, 1) := by decide +kernel
theorem d_M_value_23 : decode b_M_value 23 = .ok (.aload_n 0, 1) := by decide +kernel
theorem d_M_value_24 : decode b_M_value 24 = .ok (.getfield 227, 3) := by decide +kernel
theorem d_M_value_27 : decode b_M_value 27 = .ok (.iload_n 1, 1) := by decide +kernel
theorem d_M_value_28 : decode b_M_value 28 = .ok (.invokevirtual 201, 3) := by decide +kernel
theorem d_M_value_31 : decode b_M_value 31 = .ok (.istore_n 3, 1) := by decide +kernel
theorem d_M_value_32 : decode b_M_value 32 = .ok (.iload_n 3, 1) := by decide +kernel
theorem d_M_value_33 : decode b_M_value 33 = .ok (.ifCond .ne 11, 3) := by decide +kernel
theorem d_M_value_36 : decode b_M_value 36 = .ok (.aload_n 0, 1) := by decide +kernel
theorem d_M_value_37 : decode b_M_value 37 = .ok (.getfield 16, 3) := by decide +kernel
theorem d_M_value_40 : decode b_M_value 40 = .ok (.iload_n 2, 1) := by decide +kernel
theorem d_M_value_41 : decode b_M_value 41 = .ok (.iaload, 1) := by decide +kernel
theorem d_M_value_42 : decode b_M_value 42 = .ok (.i2l, 1) := by decide +kernel
theorem d_M_value_43 : decode b_M_value 43 = .ok (.lreturn, 1) := by decide +kernel
theorem d_M_value_44 : decode b_M_value 44 = .ok (.lconst 0, 1) := by decide +kernel
theorem d_M_value_45 : decode b_M_value 45 = .ok (.lstore 4, 2) := by decide +kernel
theorem d_M_value_47 : decode b_M_value 47 = .ok (.aload_n 0, 1) := by decide +kernel
theorem d_M_value_48 : decode b_M_value 48 = .ok (.getfield 13, 3) := by decide +kernel
theorem d_M_value_51 : decode b_M_value 51 = .ok (.iload_n 2, 1) := by decide +kernel
theorem d_M_value_52 : decode b_M_value 52 = .ok (.iaload, 1) := by decide +kernel
theorem d_M_value_53 : decode b_M_value 53 = .ok (.invokestatic 137, 3) := by decide +kernel
theorem d_M_value_56 : decode b_M_value 56 = .ok (.iconst 1, 1) := by decide +kernel
theorem d_M_value_57 : decode b_M_value 57 = .ok (.isub, 1) := by decide +kernel
theorem d_M_value_58 : decode b_M_value 58 = .ok (.istore 6, 2) := by decide +kernel
theorem d_M_value_60 : decode b_M_value 60 = .ok (.iload 6, 2) := by decide +kernel
theorem d_M_value_62 : decode b_M_value 62 = .ok (.ifCond .lt 33, 3) := by decide +kernel
theorem d_M_value_65 : decode b_M_value 65 = .ok (.lload 4, 2) := by decide +kernel
theorem d_M_value_67 : decode b_M_value 67 = .ok (.ldc2_w 237, 3) := by decide +kernel
theorem d_M_value_70 : decode b_M_value 70 = .ok (.lmul, 1) := by decide +kernel
theorem d_M_value_71 : decode b_M_value 71 = .ok (.aload_n 0, 1) := by decide +kernel
theorem d_M_value_72 : decode b_M_value 72 = .ok (.getfield 66, 3) := by decide +kernel
theorem d_M_value_75 : decode b_M_value 75 = .ok (.aload_n 0, 1) := by decide +kernel
theorem d_M_value_76 : decode b_M_value 76 = .ok (.getfield 227, 3) := by decide +kernel
theorem d_M_value_79 : decode b_M_value 79 = .ok (.iload_n 3, 1) := by decide +kernel
theorem d_M_value_80 : decode b_M_value 80 = .ok (.iadd, 1) := by decide +kernel
theorem d_M_value_81 : decode b_M_value 81 = .ok (.iload 6, 2) := by decide +kernel
theorem d_M_value_83 : decode b_M_value 83 = .ok (.iadd, 1) := by decide +kernel
theorem d_M_value_84 : decode b_M_value 84 = .ok (.iaload, 1) := by decide +kernel
theorem d_M_value_85 : decode b_M_value 85 = .ok (.i2l, 1) := by decide +kernel
theorem d_M_value_86 : decode b_M_value 86 = .ok (.ladd, 1) := by decide +kernel
theorem d_M_value_87 : decode b_M_value 87 = .ok (.lstore 4, 2) := by decide +kernel
theorem d_M_value_89 : decode b_M_value 89 = .ok (.iinc 6 (-1), 3) := by decide +kernel
theorem d_M_value_92 : decode b_M_value 92 = .ok (.goto (-32), 3) := by decide +kernel
theorem d_M_value_95 : decode b_M_value 95 = .ok (.aload_n 0, 1) := by decide +kernel
theorem d_M_value_96 : decode b_M_value 96 = .ok (.getfield 13, 3) := by decide +kernel
theorem d_M_value_99 : decode b_M_value 99 = .ok (.iload_n 2, 1) := by decide +kernel
theorem d_M_value_100 : decode b_M_value 100 = .ok (.iaload, 1) := by decide +kernel
theorem d_M_value_101 : decode b_M_value 101 = .ok (.lload 4, 2) := by decide +kernel
theorem d_M_value_103 : decode b_M_value 103 = .ok (.invokestatic 107, 3) := by decide +kernel
theorem d_M_value_106 : decode b_M_value 106 = .ok (.lreturn, 1) := by decide +kernel
theorem d_M_size_0 : decode b_M_size 0 = .ok (.aload_n 0, 1) := by decide +kernel
theorem d_M_size_1 : decode b_M_size 1 = .ok (.iload_n 1, 1) := by decide +kernel
theorem d_M_size_2 : decode b_M_size 2 = .ok (.iconst 4, 1) := by decide +kernel
theorem d_M_size_3 : decode b_M_size 3 = .ok (.iconst 5, 1) := by decide +kernel
theorem d_M_size_4 : decode b_M_size 4 = .ok (.invokevirtual 233, 3) := by decide +kernel
theorem d_M_size_7 : decode b_M_size 7 = .ok (.ifCond .ne 5, 3) := by decide +kernel
theorem d_M_size_10 : decode b_M_size 10 = .ok (.iconst 0, 1) := by decide +kernel
theorem d_M_size_11 : decode b_M_size 11 = .ok (.ireturn, 1) := by decide +kernel
theorem d_M_size_12 : decode b_M_size 12 = .ok (.aload_n 0, 1) := by decide +kernel
theorem d_M_size_13 : decode b_M_size 13 = .ok (.aload_n 0, 1) := by decide +kernel
theorem d_M_size_14 : decode b_M_size 14 = .ok (.getfield 227, 3) := by decide +kernel
theorem d_M_size_17 : decode b_M_size 17 = .ok (.iload_n 1, 1) := by decide +kernel
theorem d_M_size_18 : decode b_M_size 18 = .ok (.invokevirtual 201, 3) := by decide +kernel
theorem d_M_size_21 : decode b_M_size 21 = .ok (.ifCond .ne 7, 3) := by decide +kernel
theorem d_M_size_24 : decode b_M_size 24 = .ok (.iconst (-1), 1) := by decide +kernel
theorem d_M_size_25 : decode b_M_size 25 = .ok (.goto 16, 3) := by decide +kernel
theorem d_M_size_28 : decode b_M_size 28 = .ok (.aload_n 0, 1) := by decide +kernel
theorem d_M_size_29 : decode b_M_size 29 = .ok (.aload_n 0, 1) := by decide +kernel
theorem d_M_size_30 : decode b_M_size 30 = .ok (.aload_n 0, 1) := by decide +kernel
theorem d_M_size_31 : decode b_M_size 31 = .ok (.getfield 227, 3) := by decide +kernel
theorem d_M_size_34 : decode b_M_size 34 = .ok (.iload_n 1, 1) := by decide +kernel
theorem d_M_size_35 : decode b_M_size 35 = .ok (.invokevirtual 207, 3) := by decide +kernel
theorem d_M_size_38 : decode b_M_size 38 = .ok (.invokevirtual 204, 3) := by decide +kernel
theorem d_M_size_41 : decode b_M_size 41 = .ok (.ireturn, 1) := by decide +kernel
theorem d_M_element_0 : decode b_M_element 0 = .ok (.aload_n 0, 1) := by decide +kernel
theorem d_M_element_1 : decode b_M_element 1 = .ok (.iload_n 1, 1) := by decide +kernel
theorem d_M_element_2 : decode b_M_element 2 = .ok (.iconst 4, 1) := by decide +kernel
theorem d_M_element_3 : decode b_M_element 3 = .ok (.iconst 5, 1) := by decide +kernel
theorem d_M_element_4 : decode b_M_element 4 = .ok (.invokevirtual 233, 3) := by decide +kernel
theorem d_M_element_7 : decode b_M_element 7 = .ok (.ifCond .ne 5, 3) := by decide +kernel
theorem d_M_element_10 : decode b_M_element 10 = .ok (.iconst 0, 1) := by decide +kernel
theorem d_M_element_11 : decode b_M_element 11 = .ok (.ireturn, 1) := by decide +kernel
theorem d_M_element_12 : decode b_M_element 12 = .ok (.aload_n 0, 1) := by decide +kernel
theorem d_M_element_13 : decode b_M_element 13 = .ok (.aload_n 0, 1) := by decide +kernel
theorem d_M_element_14 : decode b_M_element 14 = .ok (.getfield 227, 3) := by decide +kernel
theorem d_M_element_17 : decode b_M_element 17 = .ok (.iload_n 1, 1) := by decide +kernel
theorem d_M_element_18 : decode b_M_element 18 = .ok (.invokevirtual 201, 3) := by decide +kernel
theorem d_M_element_21 : decode b_M_element 21 = .ok (.ifCond .ne 7, 3) := by decide +kernel
theorem d_M_element_24 : decode b_M_element 24 = .ok (.iconst 0, 1) := by decide +kernel
theorem d_M_element_25 : decode b_M_element 25 = .ok (.goto 16, 3) := by decide +kernel
theorem d_M_element_28 : decode b_M_element 28 = .ok (.aload_n 0, 1) := by decide +kernel
theorem d_M_element_29 : decode b_M_element 29 = .ok (.aload_n 0, 1) := by decide +kernel
theorem d_M_element_30 : decode b_M_element 30 = .ok (.aload_n 0, 1) := by decide +kernel
theorem d_M_element_31 : decode b_M_element 31 = .ok (.getfield 227, 3) := by decide +kernel
theorem d_M_element_34 : decode b_M_element 34 = .ok (.iload_n 1, 1) := by decide +kernel
theorem d_M_element_35 : decode b_M_element 35 = .ok (.invokevirtual 207, 3) := by decide +kernel
theorem d_M_element_38 : decode b_M_element 38 = .ok (.invokevirtual 204, 3) := by decide +kernel
theorem d_M_element_41 : decode b_M_element 41 = .ok (.istore_n 3, 1) := by decide +kernel
theorem d_M_element_42 : decode b_M_element 42 = .ok (.iload_n 2, 1) := by decide +kernel
theorem d_M_element_43 : decode b_M_element 43 = .ok (.iload_n 3, 1) := by decide +kernel
theorem d_M_element_44 : decode b_M_element 44 = .ok (.iconst 1, 1) := by decide +kernel
theorem d_M_element_45 : decode b_M_element 45 = .ok (.isub, 1) := by decide +kernel
theorem d_M_element_46 : decode b_M_element 46 = .ok (.invokestatic 85, 3) := by decide +kernel
theorem d_M_element_49 : decode b_M_element 49 = .ok (.ifCond .eq 9, 3) := by decide +kernel
theorem d_M_element_52 : decode b_M_element 52 = .ok (.aload_n 0, 1) := by decide +kernel
theorem d_M_element_53 : decode b_M_element 53 = .ok (.iconst 4, 1) := by decide +kernel
theorem d_M_element_54 : decode b_M_element 54 = .ok (.invokevirtual 89, 3) := by decide +kernel
theorem d_M_element_57 : decode b_M_element 57 = .ok (.ireturn, 1) := by decide +kernel
theorem d_M_element_58 : decode b_M_element 58 = .ok (.aload_n 0, 1) := by decide +kernel
theorem d_M_element_59 : decode b_M_element 59 = .ok (.aload_n 0, 1) := by decide +kernel
theorem d_M_element_60 : decode b_M_element 60 = .ok (.getfield 227, 3) := by decide +kernel
theorem d_M_element_63 : decode b_M_element 63 = .ok (.iload_n 1, 1) := by decide +kernel
theorem d_M_element_64 : decode b_M_element 64 = .ok (.invokevirtual 207, 3) := by decide +kernel
theorem d_M_element_67 : decode b_M_element 67 = .ok (.iconst 4, 1) := by decide +kernel
theorem d_M_element_68 : decode b_M_element 68 = .ok (.iadd, 1) := by decide +kernel
theorem d_M_element_69 : decode b_M_element 69 = .ok (.istore 4, 2) := by decide +kernel
theorem d_M_element_71 : decode b_M_element 71 = .ok (.aload_n 0, 1) := by decide +kernel
theorem d_M_element_72 : decode b_M_element 72 = .ok (.getfield 13, 3) := by decide +kernel
theorem d_M_element_75 : decode b_M_element 75 = .ok (.bipush 6, 2) := by decide +kernel
theorem d_M_element_77 : decode b_M_element 77 = .ok (.aload_n 0, 1) := by decide +kernel
theorem d_M_element_78 : decode b_M_element 78 = .ok (.getfield 230, 3) := by decide +kernel
theorem d_M_element_81 : decode b_M_element 81 = .ok (.imul, 1) := by decide +kernel
theorem d_M_element_82 : decode b_M_element 82 = .ok (.iload_n 1, 1) := by decide +kernel
theorem d_M_element_83 : decode b_M_element 83 = .ok (.iadd, 1) := by decide +kernel
theorem d_M_element_84 : decode b_M_element 84 = .ok (.iaload, 1) := by decide +kernel
theorem d_M_element_85 : decode b_M_element 85 = .ok (.iconst 4, 1) := by decide +kernel
theorem d_M_element_86 : decode b_M_element 86 = .ok (.if_icmp .ne 15, 3) := by decide +kernel
theorem d_M_element_89 : decode b_M_element 89 = .ok (.aload_n 0, 1) := by decide +kernel
theorem d_M_element_90 : decode b_M_element 90 = .ok (.getfield 66, 3) := by decide +kernel
theorem d_M_element_93 : decode b_M_element 93 = .ok (.iload 4, 2) := by decide +kernel
theorem d_M_element_95 : decode b_M_element 95 = .ok (.iload_n 2, 1) := by decide +kernel
theorem d_M_element_96 : decode b_M_element 96 = .ok (.iadd, 1) := by decide +kernel
theorem d_M_element_97 : decode b_M_element 97 = .ok (.iaload, 1) := by decide +kernel
theorem d_M_element_98 : decode b_M_element 98 = .ok (.goto 14, 3) := by decide +kernel
theorem d_M_element_101 : decode b_M_element 101 = .ok (.aload_n 0, 1) := by decide +kernel
theorem d_M_element_102 : decode b_M_element 102 = .ok (.iload 4, 2) := by decide +kernel
theorem d_M_element_104 : decode b_M_element 104 = .ok (.iconst 2, 1) := by decide +kernel
theorem d_M_element_105 : decode b_M_element 105 = .ok (.iload_n 2, 1) := by decide +kernel
theorem d_M_element_106 : decode b_M_element 106 = .ok (.imul, 1) := by decide +kernel
theorem d_M_element_107 : decode b_M_element 107 = .ok (.iadd, 1) := by decide +kernel
theorem d_M_element_108 : decode b_M_element 108 = .ok (.invokevirtual 167, 3) := by decide +kernel
theorem d_M_element_111 : decode b_M_element 111 = .ok (.i2s, 1) := by decide +kernel
theorem d_M_element_112 : decode b_M_element 112 = .ok (.ireturn, 1) := by decide +kernel
theorem m_M_offset : kIV y_M_offset b_M_offset 4 (some .int) 2 := ⟨⟨wd_27bace7b, wd_5cde94ae, ⟨by decide, by decide⟩, by decide +kernel⟩, wd_8c95488c, wd_2858d92f⟩
theorem m_M_target : kIV y_M_target b_M_target 4 (some .int) 2 := ⟨⟨wd_c2b600c8, wd_5cde94ae, ⟨by decide, by decide⟩, by decide +kernel⟩, wd_57272306, wd_e66f10c7⟩
theorem m_M_open : kIV y_M_open b_M_open 4 (some .boolean) 3 := ⟨⟨wd_29811282, wd_5cde94ae, ⟨by decide, by decide⟩, by decide +kernel⟩, wd_e9612f4e, wd_d8d63fba⟩
theorem m_M_down : kIV y_M_down b_M_down 3 (some .int) 1 := ⟨⟨wd_48f36f25, wd_5cde94ae, ⟨by decide, by decide⟩, by decide +kernel⟩, wd_ec67e5ab, wd_40dcdfc0⟩
theorem m_M_value : kIV y_M_value b_M_value 7 (some .long) 1 := ⟨⟨wd_5b1bf65a, wd_5cde94ae, ⟨by decide, by decide⟩, by decide +kernel⟩, wd_3f226980, wd_e58c1fa8⟩
theorem m_M_size : kIV y_M_size b_M_size 2 (some .int) 1 := ⟨⟨wd_153776a0, wd_5cde94ae, ⟨by decide, by decide⟩, by decide +kernel⟩, wd_2f4e3c21, wd_1de98d31⟩
theorem m_M_element : kIV y_M_element b_M_element 5 (some .int) 2 := ⟨⟨wd_bf8b0a28, wd_5cde94ae, ⟨by decide, by decide⟩, by decide +kernel⟩, wd_d10d7564, wd_7385ced2⟩
set_option maxHeartbeats 4000000 in
set_option maxRecDepth 100000 in
theorem m_offset (l : Launch) (D : va_G) (am : Nat → Nat) (gm : Nat → ClassId) (tw : Nat) (sLen sKind : Nat → Nat) (sExt : Nat → Int32) (sMust : Nat → Bool) (rTab : Nat → Nat) (rFil : Nat → Bool) (mNum : Nat → Int64) (rLen : Nat → Nat) (rItm : Nat → Int32) (made : Nat) (pItm : Nat → Int32) (held : Nat) (dByt : Nat → Nat) (dLen : Nat) (ver : Bool) (fAdr fTab adr tab : Nat) (lf : Int32) (mCode : Nat) (row : Nat → Nat) (mWr mWid : Nat) (mOv : Bool) (mPl mTh mSp mPile mNext mSh : Nat → Nat) (mShs : Nat) (mRea : Nat → Bool) (mWg : Int32) (mEn mDp : Nat) (mAt mTb mSt : Nat → Nat) (a0 : Nat) (f : Nat)  (hfr : FR dByt dLen a0) (hf : f < 6) (hB : ∀ k, dByt k < 256) (hd : dLen ≤ 240) : kM l y_M_offset b_M_offset 4 (some .int) ({ frames := 3, cells := 0, slots := 0, locals := 63 }) D vwCl (WmT gm) tw [.ref (am 0), .int (nI a0), .int (nI f)] (Wm am gm sLen sKind sExt sMust rTab rFil mNum rLen rItm made pItm held dByt dLen ver fAdr fTab adr tab lf mCode row mWr mWid mOv mPl mTh mSp mPile mNext mSh mShs mRea mWg mEn mDp mAt mTb mSt) (some (.int (nI (ofF dByt dLen a0 f)))) (Wm am gm sLen sKind sExt sMust rTab rFil mNum rLen rItm made pItm held dByt dLen ver fAdr fTab adr tab lf mCode row mWr mWid mOv mPl mTh mSp mPile mNext mSh mShs mRea mWg mEn mDp mAt mTb mSt) := by
  refine k_of (by decide) (Nat.le_of_ble_eq_true rfl) ?_
  intro p e s m below meth c A ls hx hb hr hlocks hml hts hown hin0 hA hP hK hD hS hZ hl
  have hl : lv_has ls 4 [(0, .ref (am 0)), (1, .int (nI a0)), (2, .int (nI f))] := hl
  obtain ⟨r1, r2, r3, r4, r5, r6⟩ := hfr
  have hl2 : leN dByt dLen (nI (vN dByt dLen a0)) 2 < 65536 := leN_lt hB 2
  refine lv_aload_n hx hb d_M_offset_0 rfl (lv_at hl 0 rfl) ?_
  refine lv_iload_n hx hb d_M_offset_1 rfl (lv_at hl 1 rfl) ?_
  refine k_callV (m_tableAt l D am gm tw sLen sKind sExt sMust rTab rFil mNum rLen rItm made pItm held dByt dLen ver fAdr fTab adr tab lf mCode row mWr mWid mOv mPl mTh mSp mPile mNext mSh mShs mRea mWg mEn mDp mAt mTb mSt a0  r1 hB hd) m_M_tableAt wd_4533cc18 0 8 rfl rfl rfl kT hx hb hml hown hts ⟨Nat.le_of_ble_eq_true rfl, Nat.le_of_ble_eq_true rfl⟩ ⟨Nat.le_of_ble_eq_true rfl, Nat.le_of_ble_eq_true rfl⟩ hK hP hD hS hA hZ hl.1 rfl rfl (Nat.le_of_ble_eq_true rfl) d_M_offset_2 (fun H locs hP hD hS => ?_)
  have hP : va_P D vwCl (Wm am gm sLen sKind sExt sMust rTab rFil mNum rLen rItm made pItm held dByt dLen ver fAdr fTab adr tab lf mCode row mWr mWid mOv mPl mTh mSp mPile mNext mSh mShs mRea mWg mEn mDp mAt mTb mSt) H := hP
  have hD : va_D A (Wm am gm sLen sKind sExt sMust rTab rFil mNum rLen rItm made pItm held dByt dLen ver fAdr fTab adr tab lf mCode row mWr mWid mOv mPl mTh mSp mPile mNext mSh mShs mRea mWg mEn mDp mAt mTb mSt) := hD
  refine W.eq (g2 := F0 m 5 ls [.int (vOf dByt dLen a0)]) rfl ?_
  refine lv_eqi r2 ?_
  refine lv_istore_n (lv' := [(3, .int (nI (vN dByt dLen a0))), (0, .ref (am 0)), (1, .int (nI a0)), (2, .int (nI f))]) hx hb d_M_offset_5 rfl hl (by decide) rfl (fun ls hl => ?_)
  refine lv_iconst (v := nI 4) hx hb d_M_offset_6 (by decide) ?_
  refine lv_iconst (v := nI 2) hx hb d_M_offset_7 (by decide) ?_
  refine lv_iload_n hx hb d_M_offset_8 rfl (lv_at hl 3 rfl) ?_
  refine lv_imul hx hb d_M_offset_9 ?_
  refine lv_eqi (pk_mul _ _) ?_
  refine lv_iadd hx hb d_M_offset_10 ?_
  refine lv_eqi (nI_add _ _) ?_
  refine lv_aload_n hx hb d_M_offset_11 rfl (lv_at hl 1 rfl) ?_
  refine lv_iload_n hx hb d_M_offset_12 rfl (lv_at hl 0 rfl) ?_
  refine k_callV (m_two l D am gm tw sLen sKind sExt sMust rTab rFil mNum rLen rItm made pItm held dByt dLen ver fAdr fTab adr tab lf mCode row mWr mWid mOv mPl mTh mSp mPile mNext mSh mShs mRea mWg mEn mDp mAt mTb mSt (vN dByt dLen a0)  (by omega) hB hd) m_M_two wd_f4633fa4 0 8 rfl rfl rfl kT hx hb hml hown hts ⟨Nat.le_of_ble_eq_true rfl, Nat.le_of_ble_eq_true rfl⟩ ⟨Nat.le_of_ble_eq_true rfl, Nat.le_of_ble_eq_true rfl⟩ hK hP hD hS hA hZ hl.1 rfl rfl (Nat.le_of_ble_eq_true rfl) d_M_offset_13 (fun H locs hP hD hS => ?_)
  have hP : va_P D vwCl (Wm am gm sLen sKind sExt sMust rTab rFil mNum rLen rItm made pItm held dByt dLen ver fAdr fTab adr tab lf mCode row mWr mWid mOv mPl mTh mSp mPile mNext mSh mShs mRea mWg mEn mDp mAt mTb mSt) H := hP
  have hD : va_D A (Wm am gm sLen sKind sExt sMust rTab rFil mNum rLen rItm made pItm held dByt dLen ver fAdr fTab adr tab lf mCode row mWr mWid mOv mPl mTh mSp mPile mNext mSh mShs mRea mWg mEn mDp mAt mTb mSt) := hD
  refine W.eq (g2 := F0 m 16 ls [.int (nI (leN dByt dLen (nI (vN dByt dLen a0)) 2)), .int (nI (4 + (2 * f)))]) rfl ?_
  refine lv_icmp_ge (tgt := 33) hx hb d_M_offset_16 (by decide) (fun c_16 => ?_) (fun c_16 => ?_)
  · skip
    have c_16 := (nI_leI (by omega) (by omega)).mp c_16
    refine lv_iconst (v := nI 0) hx hb d_M_offset_33 (by decide) ?_
    exact k_iret hx hb hr hlocks hK hP hD hS (trivial) (nI_congr (by rw [ofF, r2, offF, if_neg (by omega)])) (rfl) d_M_offset_34
  · skip
    have c_16 := mt (nI_leI (by omega) (by omega)).mpr c_16
    refine lv_aload_n hx hb d_M_offset_19 rfl (lv_at hl 1 rfl) ?_
    refine lv_iload_n hx hb d_M_offset_20 rfl (lv_at hl 0 rfl) ?_
    refine lv_iconst (v := nI 4) hx hb d_M_offset_21 (by decide) ?_
    refine lv_iadd hx hb d_M_offset_22 ?_
    refine lv_eqi (nI_add _ _) ?_
    refine lv_iconst (v := nI 2) hx hb d_M_offset_23 (by decide) ?_
    refine lv_iload_n hx hb d_M_offset_24 rfl (lv_at hl 3 rfl) ?_
    refine lv_imul hx hb d_M_offset_25 ?_
    refine lv_eqi (pk_mul _ _) ?_
    refine lv_iadd hx hb d_M_offset_26 ?_
    refine lv_eqi (nI_add _ _) ?_
    refine k_callV (m_two l D am gm tw sLen sKind sExt sMust rTab rFil mNum rLen rItm made pItm held dByt dLen ver fAdr fTab adr tab lf mCode row mWr mWid mOv mPl mTh mSp mPile mNext mSh mShs mRea mWg mEn mDp mAt mTb mSt (((vN dByt dLen a0) + 4) + (2 * f))  (by omega) hB hd) m_M_two wd_f4633fa4 0 8 rfl rfl rfl kT hx hb hml hown hts ⟨Nat.le_of_ble_eq_true rfl, Nat.le_of_ble_eq_true rfl⟩ ⟨Nat.le_of_ble_eq_true rfl, Nat.le_of_ble_eq_true rfl⟩ hK hP hD hS hA hZ hl.1 rfl rfl (Nat.le_of_ble_eq_true rfl) d_M_offset_27 (fun H locs hP hD hS => ?_)
    have hP : va_P D vwCl (Wm am gm sLen sKind sExt sMust rTab rFil mNum rLen rItm made pItm held dByt dLen ver fAdr fTab adr tab lf mCode row mWr mWid mOv mPl mTh mSp mPile mNext mSh mShs mRea mWg mEn mDp mAt mTb mSt) H := hP
    have hD : va_D A (Wm am gm sLen sKind sExt sMust rTab rFil mNum rLen rItm made pItm held dByt dLen ver fAdr fTab adr tab lf mCode row mWr mWid mOv mPl mTh mSp mPile mNext mSh mShs mRea mWg mEn mDp mAt mTb mSt) := hD
    refine W.eq (g2 := F0 m 30 ls [.int (nI (leN dByt dLen (nI (((vN dByt dLen a0) + 4) + (2 * f))) 2))]) rfl ?_
    refine lv_goto (tgt := 34) hx hb d_M_offset_30 (by decide) ?_
    exact k_iret hx hb hr hlocks hK hP hD hS (trivial) (nI_congr (by rw [ofF, r2, offF, if_pos (by omega), nI_add]; rw [show vN dByt dLen a0 + (4 + 2 * f) = vN dByt dLen a0 + 4 + 2 * f by omega])) (rfl) d_M_offset_34
set_option maxHeartbeats 4000000 in
set_option maxRecDepth 100000 in
theorem m_target (l : Launch) (D : va_G) (am : Nat → Nat) (gm : Nat → ClassId) (tw : Nat) (sLen sKind : Nat → Nat) (sExt : Nat → Int32) (sMust : Nat → Bool) (rTab : Nat → Nat) (rFil : Nat → Bool) (mNum : Nat → Int64) (rLen : Nat → Nat) (rItm : Nat → Int32) (made : Nat) (pItm : Nat → Int32) (held : Nat) (dByt : Nat → Nat) (dLen : Nat) (ver : Bool) (fAdr fTab adr tab : Nat) (lf : Int32) (mCode : Nat) (row : Nat → Nat) (mWr mWid : Nat) (mOv : Bool) (mPl mTh mSp mPile mNext mSh : Nat → Nat) (mShs : Nat) (mRea : Nat → Bool) (mWg : Int32) (mEn mDp : Nat) (mAt mTb mSt : Nat → Nat) (a0 : Nat) (f : Nat)  (hfr : FR dByt dLen a0) (hf : f < 6) (hp4 : a0 + ofF dByt dLen a0 f + 4 ≤ dLen) (hB : ∀ k, dByt k < 256) (hd : dLen ≤ 240) : kM l y_M_target b_M_target 4 (some .int) ({ frames := 4, cells := 0, slots := 0, locals := 86 }) D vwCl (WmT gm) tw [.ref (am 0), .int (nI a0), .int (nI f)] (Wm am gm sLen sKind sExt sMust rTab rFil mNum rLen rItm made pItm held dByt dLen ver fAdr fTab adr tab lf mCode row mWr mWid mOv mPl mTh mSp mPile mNext mSh mShs mRea mWg mEn mDp mAt mTb mSt) (some (.int (nI (tgF dByt dLen (a0 + ofF dByt dLen a0 f))))) (Wm am gm sLen sKind sExt sMust rTab rFil mNum rLen rItm made pItm held dByt dLen ver fAdr fTab adr tab lf mCode row mWr mWid mOv mPl mTh mSp mPile mNext mSh mShs mRea mWg mEn mDp mAt mTb mSt) := by
  refine k_of (by decide) (Nat.le_of_ble_eq_true rfl) ?_
  intro p e s m below meth c A ls hx hb hr hlocks hml hts hown hin0 hA hP hK hD hS hZ hl
  have hl : lv_has ls 4 [(0, .ref (am 0)), (1, .int (nI a0)), (2, .int (nI f))] := hl
  refine lv_iload_n hx hb d_M_target_0 rfl (lv_at hl 1 rfl) ?_
  refine lv_aload_n hx hb d_M_target_1 rfl (lv_at hl 0 rfl) ?_
  refine lv_iload_n hx hb d_M_target_2 rfl (lv_at hl 1 rfl) ?_
  refine lv_iload_n hx hb d_M_target_3 rfl (lv_at hl 2 rfl) ?_
  refine k_callV (m_offset l D am gm tw sLen sKind sExt sMust rTab rFil mNum rLen rItm made pItm held dByt dLen ver fAdr fTab adr tab lf mCode row mWr mWid mOv mPl mTh mSp mPile mNext mSh mShs mRea mWg mEn mDp mAt mTb mSt a0 f  hfr hf hB hd) m_M_offset wd_35e10521 0 8 rfl rfl rfl kT hx hb hml hown hts ⟨Nat.le_of_ble_eq_true rfl, Nat.le_of_ble_eq_true rfl⟩ ⟨Nat.le_of_ble_eq_true rfl, Nat.le_of_ble_eq_true rfl⟩ hK hP hD hS hA hZ hl.1 rfl rfl (Nat.le_of_ble_eq_true rfl) d_M_target_4 (fun H locs hP hD hS => ?_)
  have hP : va_P D vwCl (Wm am gm sLen sKind sExt sMust rTab rFil mNum rLen rItm made pItm held dByt dLen ver fAdr fTab adr tab lf mCode row mWr mWid mOv mPl mTh mSp mPile mNext mSh mShs mRea mWg mEn mDp mAt mTb mSt) H := hP
  have hD : va_D A (Wm am gm sLen sKind sExt sMust rTab rFil mNum rLen rItm made pItm held dByt dLen ver fAdr fTab adr tab lf mCode row mWr mWid mOv mPl mTh mSp mPile mNext mSh mShs mRea mWg mEn mDp mAt mTb mSt) := hD
  refine W.eq (g2 := F0 m 7 ls [.int (nI (ofF dByt dLen a0 f)), .int (nI a0)]) rfl ?_
  refine lv_iadd hx hb d_M_target_7 ?_
  refine lv_eqi (nI_add _ _) ?_
  refine lv_istore_n (lv' := [(3, .int (nI (a0 + (ofF dByt dLen a0 f)))), (0, .ref (am 0)), (1, .int (nI a0)), (2, .int (nI f))]) hx hb d_M_target_8 rfl hl (by decide) rfl (fun ls hl => ?_)
  refine lv_iload_n hx hb d_M_target_9 rfl (lv_at hl 0 rfl) ?_
  refine lv_aload_n hx hb d_M_target_10 rfl (lv_at hl 1 rfl) ?_
  refine lv_iload_n hx hb d_M_target_11 rfl (lv_at hl 0 rfl) ?_
  refine k_callV (m_offset4 l D am gm tw sLen sKind sExt sMust rTab rFil mNum rLen rItm made pItm held dByt dLen ver fAdr fTab adr tab lf mCode row mWr mWid mOv mPl mTh mSp mPile mNext mSh mShs mRea mWg mEn mDp mAt mTb mSt (a0 + (ofF dByt dLen a0 f))  hp4 hB hd) m_M_offset4 wd_fe38dba4 0 8 rfl rfl rfl kT hx hb hml hown hts ⟨Nat.le_of_ble_eq_true rfl, Nat.le_of_ble_eq_true rfl⟩ ⟨Nat.le_of_ble_eq_true rfl, Nat.le_of_ble_eq_true rfl⟩ hK hP hD hS hA hZ hl.1 rfl rfl (Nat.le_of_ble_eq_true rfl) d_M_target_12 (fun H locs hP hD hS => ?_)
  have hP : va_P D vwCl (Wm am gm sLen sKind sExt sMust rTab rFil mNum rLen rItm made pItm held dByt dLen ver fAdr fTab adr tab lf mCode row mWr mWid mOv mPl mTh mSp mPile mNext mSh mShs mRea mWg mEn mDp mAt mTb mSt) H := hP
  have hD : va_D A (Wm am gm sLen sKind sExt sMust rTab rFil mNum rLen rItm made pItm held dByt dLen ver fAdr fTab adr tab lf mCode row mWr mWid mOv mPl mTh mSp mPile mNext mSh mShs mRea mWg mEn mDp mAt mTb mSt) := hD
  refine W.eq (g2 := F0 m 15 ls [.int (nI (min (leN dByt dLen (nI (a0 + (ofF dByt dLen a0 f))) 4) 100000)), .int (nI (a0 + (ofF dByt dLen a0 f)))]) rfl ?_
  refine lv_iadd hx hb d_M_target_15 ?_
  refine lv_eqi (nI_add _ _) ?_
  exact k_iret hx hb hr hlocks hK hP hD hS (trivial) (rfl) (rfl) d_M_target_16
set_option maxHeartbeats 4000000 in
set_option maxRecDepth 100000 in
theorem m_open (l : Launch) (D : va_G) (am : Nat → Nat) (gm : Nat → ClassId) (tw : Nat) (sLen sKind : Nat → Nat) (sExt : Nat → Int32) (sMust : Nat → Bool) (rTab : Nat → Nat) (rFil : Nat → Bool) (mNum : Nat → Int64) (rLen : Nat → Nat) (rItm : Nat → Int32) (made : Nat) (pItm : Nat → Int32) (held : Nat) (dByt : Nat → Nat) (dLen : Nat) (ver : Bool) (fAdr fTab adr tab : Nat) (lf : Int32) (mCode : Nat) (row : Nat → Nat) (mWr mWid : Nat) (mOv : Bool) (mPl mTh mSp mPile mNext mSh : Nat → Nat) (mShs : Nat) (mRea : Nat → Bool) (mWg : Int32) (mEn mDp : Nat) (mAt mTb mSt : Nat → Nat) (x : Int32) (lo : Nat) (hi : Nat)  (ht : tab < 4) (hL : ∀ t, sLen t ≤ 6) (hlo : lo < 7) (hhi : hi < 7) (hk : ∀ j, sKind j < 7) : kM l y_M_open b_M_open 4 (some .boolean) ({ frames := 1, cells := 0, slots := 0, locals := 21 }) D vwCl (WmT gm) tw [.ref (am 0), .int x, .int (nI lo), .int (nI hi)] (Wm am gm sLen sKind sExt sMust rTab rFil mNum rLen rItm made pItm held dByt dLen ver fAdr fTab adr tab lf mCode row mWr mWid mOv mPl mTh mSp mPile mNext mSh mShs mRea mWg mEn mDp mAt mTb mSt) (some (.int (bI (cdO (cdKd (cdCur ver sLen tab x) (sKind (tab * 6 + cN x)) lo hi))))) (Wm am gm sLen sKind sExt sMust rTab rFil mNum rLen rItm made pItm held dByt dLen ver fAdr fTab adr tab lf (cdKd (cdCur ver sLen tab x) (sKind (tab * 6 + cN x)) lo hi) row mWr mWid mOv mPl mTh mSp mPile mNext mSh mShs mRea mWg mEn mDp mAt mTb mSt) := by
  refine k_of (by decide) (Nat.le_of_ble_eq_true rfl) ?_
  intro p e s m below meth c A ls hx hb hr hlocks hml hts hown hin0 hA hP hK hD hS hZ hl
  have hl : lv_has ls 4 [(0, .ref (am 0)), (1, .int x), (2, .int (nI lo)), (3, .int (nI hi))] := hl
  have hL1 := hL tab
  have hk1 : (sKind (tab * 6 + cN x)) < 7 := hk _
  refine lv_aload_n hx hb d_M_open_0 rfl (lv_at hl 0 rfl) ?_
  refine lv_iconst (v := nI 0) hx hb d_M_open_1 (by decide) ?_
  refine va_put (D := D) (ci := 8) (ty := .int) (C := R_M) (T := T_M) (N := 39) hx hb hts (fun w h => kT w (i_M w h)) ty_M tyk_M nm_M hown hK hP hD hS 0 rfl rfl 0 (by decide) (hts _ (kT _ wd_8b8ffda9)) (fun _ h9 => h9) rfl (by decide +kernel) rfl rfl (Nat.le_of_ble_eq_true rfl) d_M_open_2 (fun H locs hP hD hS => ?_)
  have hP : va_P D vwCl (Wm am gm sLen sKind sExt sMust rTab rFil mNum rLen rItm made pItm held dByt dLen ver fAdr fTab adr tab lf 0 row mWr mWid mOv mPl mTh mSp mPile mNext mSh mShs mRea mWg mEn mDp mAt mTb mSt) H := hP
  have hD : va_D A (Wm am gm sLen sKind sExt sMust rTab rFil mNum rLen rItm made pItm held dByt dLen ver fAdr fTab adr tab lf 0 row mWr mWid mOv mPl mTh mSp mPile mNext mSh mShs mRea mWg mEn mDp mAt mTb mSt) := hD
  refine lv_aload_n hx hb d_M_open_5 rfl (lv_at hl 0 rfl) ?_
  refine va_get (D := D) (ci := 8) (C := R_M) (T := T_M) (N := 39) hx hb hts (fun w h => kT w (i_M w h)) hown hK hP 0 rfl rfl 27 (by decide) (hts _ (kT _ wd_a47358da)) (fun _ h9 => h9) rfl d_M_open_6 ?_
  refine lv_if_ne (tgt := 20) hx hb d_M_open_9 (by decide) (fun c_9 => ?_) (fun c_9 => ?_)
  · skip
    have c_9 := mt (bI_0).mpr c_9
    have c_9 := eq_true_of_ne_false c_9
    refine lv_iload_n hx hb d_M_open_20 rfl (lv_at hl 1 rfl) ?_
    refine lv_aload_n hx hb d_M_open_21 rfl (lv_at hl 0 rfl) ?_
    refine va_get (D := D) (ci := 8) (C := R_M) (T := T_M) (N := 39) hx hb hts (fun w h => kT w (i_M w h)) hown hK hP 0 rfl rfl 1 (by decide) (hts _ (kT _ wd_4d2260e1)) (fun _ h9 => h9) rfl d_M_open_22 ?_
    refine lv_aload_n hx hb d_M_open_25 rfl (lv_at hl 0 rfl) ?_
    refine va_get (D := D) (ci := 8) (C := R_M) (T := T_M) (N := 39) hx hb hts (fun w h => kT w (i_M w h)) hown hK hP 0 rfl rfl 31 (by decide) (hts _ (kT _ wd_e5a19dfd)) (fun _ h9 => h9) rfl d_M_open_26 ?_
    refine n_iald hx hb hK hP 1 0 rfl rfl (i := tab) (by omega) (by decide) d_M_open_29 ?_
    refine lv_iconst (v := nI 1) hx hb d_M_open_30 (by decide) ?_
    refine lv_isub hx hb d_M_open_31 ?_
    refine k_callS (m_out l D am gm tw sLen sKind sExt sMust rTab rFil mNum rLen rItm made pItm held dByt dLen ver fAdr fTab adr tab lf 0 row mWr mWid mOv mPl mTh mSp mPile mNext mSh mShs mRea mWg mEn mDp mAt mTb mSt x ((nI (sLen tab)) - (nI 1))  ) m_M_out wd_0c68f9ea kT hx hb hml hown hts ⟨Nat.le_of_ble_eq_true rfl, Nat.le_of_ble_eq_true rfl⟩ ⟨Nat.le_of_ble_eq_true rfl, Nat.le_of_ble_eq_true rfl⟩ hK hP hD hS hA hZ hl.1 rfl rfl (Nat.le_of_ble_eq_true rfl) d_M_open_32 (fun H locs hP hD hS => ?_)
    have hP : va_P D vwCl (Wm am gm sLen sKind sExt sMust rTab rFil mNum rLen rItm made pItm held dByt dLen ver fAdr fTab adr tab lf 0 row mWr mWid mOv mPl mTh mSp mPile mNext mSh mShs mRea mWg mEn mDp mAt mTb mSt) H := hP
    have hD : va_D A (Wm am gm sLen sKind sExt sMust rTab rFil mNum rLen rItm made pItm held dByt dLen ver fAdr fTab adr tab lf 0 row mWr mWid mOv mPl mTh mSp mPile mNext mSh mShs mRea mWg mEn mDp mAt mTb mSt) := hD
    refine W.eq (g2 := F0 m 35 ls [.int (bI (outB x ((nI (sLen tab)) - (nI 1))))]) rfl ?_
    refine lv_if_eq (tgt := 46) hx hb d_M_open_35 (by decide) (fun c_35 => ?_) (fun c_35 => ?_)
    · skip
      have c_35 := (bI_0).mp c_35
      have hcu : cdCur ver sLen tab x = 0 := by rw [cdCur, if_pos c_9, if_pos (out_y (by omega) c_35)]
      obtain ⟨n_x, b_x⟩ := hasF_spec (by omega) (out_y (by omega) c_35)
      have hl : lv_has ls 4 [(0, .ref (am 0)), (1, .int (nI (cN x))), (2, .int (nI lo)), (3, .int (nI hi))] := by rw [← n_x]; exact hl
      refine lv_aload_n hx hb d_M_open_46 rfl (lv_at hl 0 rfl) ?_
      refine va_get (D := D) (ci := 8) (C := R_M) (T := T_M) (N := 39) hx hb hts (fun w h => kT w (i_M w h)) hown hK hP 0 rfl rfl 2 (by decide) (hts _ (kT _ wd_91f4763a)) (fun _ h9 => h9) rfl d_M_open_47 ?_
      refine lv_bipush (v := nI 6) hx hb d_M_open_50 (by decide) ?_
      refine lv_aload_n hx hb d_M_open_52 rfl (lv_at hl 0 rfl) ?_
      refine va_get (D := D) (ci := 8) (C := R_M) (T := T_M) (N := 39) hx hb hts (fun w h => kT w (i_M w h)) hown hK hP 0 rfl rfl 31 (by decide) (hts _ (kT _ wd_e5a19dfd)) (fun _ h9 => h9) rfl d_M_open_53 ?_
      refine lv_imul hx hb d_M_open_56 ?_
      refine lv_eqi ((pk_mul _ _).trans (nI_congr (Nat.mul_comm _ _))) ?_
      refine lv_iload_n hx hb d_M_open_57 rfl (lv_at hl 1 rfl) ?_
      refine lv_iadd hx hb d_M_open_58 ?_
      refine lv_eqi (nI_add _ _) ?_
      refine n_iald hx hb hK hP 2 1 rfl rfl (i := ((tab * 6) + (cN x))) (by omega) (by decide) d_M_open_59 ?_
      refine lv_iload_n hx hb d_M_open_60 rfl (lv_at hl 2 rfl) ?_
      refine lv_icmp_lt (tgt := 82) hx hb d_M_open_61 (by decide) (fun c_61 => ?_) (fun c_61 => ?_)
      · skip
        have c_61 := (nI_ltI (by omega) (by omega)).mp c_61
        have hcd : cdKd (cdCur ver sLen tab x) (sKind (tab * 6 + cN x)) lo hi = 3 := by rw [cdKd, if_pos hcu, if_neg (by omega)]
        refine lv_aload_n hx hb d_M_open_82 rfl (lv_at hl 0 rfl) ?_
        refine lv_iconst (v := nI 3) hx hb d_M_open_83 (by decide) ?_
        refine va_put (D := D) (ci := 8) (ty := .int) (C := R_M) (T := T_M) (N := 39) hx hb hts (fun w h => kT w (i_M w h)) ty_M tyk_M nm_M hown hK hP hD hS 0 rfl rfl 0 (by decide) (hts _ (kT _ wd_8b8ffda9)) (fun _ h9 => h9) rfl (by decide +kernel) rfl rfl (Nat.le_of_ble_eq_true rfl) d_M_open_84 (fun H locs hP hD hS => ?_)
        have hP : va_P D vwCl (Wm am gm sLen sKind sExt sMust rTab rFil mNum rLen rItm made pItm held dByt dLen ver fAdr fTab adr tab lf 3 row mWr mWid mOv mPl mTh mSp mPile mNext mSh mShs mRea mWg mEn mDp mAt mTb mSt) H := hP
        have hD : va_D A (Wm am gm sLen sKind sExt sMust rTab rFil mNum rLen rItm made pItm held dByt dLen ver fAdr fTab adr tab lf 3 row mWr mWid mOv mPl mTh mSp mPile mNext mSh mShs mRea mWg mEn mDp mAt mTb mSt) := hD
        refine lv_aload_n hx hb d_M_open_87 rfl (lv_at hl 0 rfl) ?_
        refine va_get (D := D) (ci := 8) (C := R_M) (T := T_M) (N := 39) hx hb hts (fun w h => kT w (i_M w h)) hown hK hP 0 rfl rfl 0 (by decide) (hts _ (kT _ wd_8b8ffda9)) (fun _ h9 => h9) rfl d_M_open_88 ?_
        refine lv_if_ne (tgt := 98) hx hb d_M_open_91 (by decide) (fun _ => ?_) (fun c_91 => absurd c_91 (by decide))
        refine lv_iconst (v := nI 0) hx hb d_M_open_98 (by decide) ?_
        exact k_zret hx hb hr hlocks hK hP hD hS (trivial) (by rw [nI_bI0, hcd]; rfl) (by rw [hcd]; first | done | rfl) (bI_nar _) d_M_open_99
      · skip
        have c_61 := mt (nI_ltI (by omega) (by omega)).mpr c_61
        refine lv_aload_n hx hb d_M_open_64 rfl (lv_at hl 0 rfl) ?_
        refine va_get (D := D) (ci := 8) (C := R_M) (T := T_M) (N := 39) hx hb hts (fun w h => kT w (i_M w h)) hown hK hP 0 rfl rfl 2 (by decide) (hts _ (kT _ wd_91f4763a)) (fun _ h9 => h9) rfl d_M_open_65 ?_
        refine lv_bipush (v := nI 6) hx hb d_M_open_68 (by decide) ?_
        refine lv_aload_n hx hb d_M_open_70 rfl (lv_at hl 0 rfl) ?_
        refine va_get (D := D) (ci := 8) (C := R_M) (T := T_M) (N := 39) hx hb hts (fun w h => kT w (i_M w h)) hown hK hP 0 rfl rfl 31 (by decide) (hts _ (kT _ wd_e5a19dfd)) (fun _ h9 => h9) rfl d_M_open_71 ?_
        refine lv_imul hx hb d_M_open_74 ?_
        refine lv_eqi ((pk_mul _ _).trans (nI_congr (Nat.mul_comm _ _))) ?_
        refine lv_iload_n hx hb d_M_open_75 rfl (lv_at hl 1 rfl) ?_
        refine lv_iadd hx hb d_M_open_76 ?_
        refine lv_eqi (nI_add _ _) ?_
        refine n_iald hx hb hK hP 2 1 rfl rfl (i := ((tab * 6) + (cN x))) (by omega) (by decide) d_M_open_77 ?_
        refine lv_iload_n hx hb d_M_open_78 rfl (lv_at hl 3 rfl) ?_
        refine lv_icmp_le (tgt := 87) hx hb d_M_open_79 (by decide) (fun c_79 => ?_) (fun c_79 => ?_)
        · skip
          have c_79 := (nI_leI (by omega) (by omega)).mp c_79
          have hcd : cdKd (cdCur ver sLen tab x) (sKind (tab * 6 + cN x)) lo hi = 0 := by rw [cdKd, if_pos hcu, if_pos (by omega)]
          refine lv_aload_n hx hb d_M_open_87 rfl (lv_at hl 0 rfl) ?_
          refine va_get (D := D) (ci := 8) (C := R_M) (T := T_M) (N := 39) hx hb hts (fun w h => kT w (i_M w h)) hown hK hP 0 rfl rfl 0 (by decide) (hts _ (kT _ wd_8b8ffda9)) (fun _ h9 => h9) rfl d_M_open_88 ?_
          refine lv_if_ne (tgt := 98) hx hb d_M_open_91 (by decide) (fun c_91 => absurd (by decide) c_91) (fun _ => ?_)
          refine lv_iconst (v := nI 1) hx hb d_M_open_94 (by decide) ?_
          refine lv_goto (tgt := 99) hx hb d_M_open_95 (by decide) ?_
          exact k_zret hx hb hr hlocks hK hP hD hS (trivial) (by rw [nI_bI1, hcd]; rfl) (by rw [hcd]; first | done | rfl) (bI_nar _) d_M_open_99
        · skip
          have c_79 := mt (nI_leI (by omega) (by omega)).mpr c_79
          have hcd : cdKd (cdCur ver sLen tab x) (sKind (tab * 6 + cN x)) lo hi = 3 := by rw [cdKd, if_pos hcu, if_neg (by omega)]
          refine lv_aload_n hx hb d_M_open_82 rfl (lv_at hl 0 rfl) ?_
          refine lv_iconst (v := nI 3) hx hb d_M_open_83 (by decide) ?_
          refine va_put (D := D) (ci := 8) (ty := .int) (C := R_M) (T := T_M) (N := 39) hx hb hts (fun w h => kT w (i_M w h)) ty_M tyk_M nm_M hown hK hP hD hS 0 rfl rfl 0 (by decide) (hts _ (kT _ wd_8b8ffda9)) (fun _ h9 => h9) rfl (by decide +kernel) rfl rfl (Nat.le_of_ble_eq_true rfl) d_M_open_84 (fun H locs hP hD hS => ?_)
          have hP : va_P D vwCl (Wm am gm sLen sKind sExt sMust rTab rFil mNum rLen rItm made pItm held dByt dLen ver fAdr fTab adr tab lf 3 row mWr mWid mOv mPl mTh mSp mPile mNext mSh mShs mRea mWg mEn mDp mAt mTb mSt) H := hP
          have hD : va_D A (Wm am gm sLen sKind sExt sMust rTab rFil mNum rLen rItm made pItm held dByt dLen ver fAdr fTab adr tab lf 3 row mWr mWid mOv mPl mTh mSp mPile mNext mSh mShs mRea mWg mEn mDp mAt mTb mSt) := hD
          refine lv_aload_n hx hb d_M_open_87 rfl (lv_at hl 0 rfl) ?_
          refine va_get (D := D) (ci := 8) (C := R_M) (T := T_M) (N := 39) hx hb hts (fun w h => kT w (i_M w h)) hown hK hP 0 rfl rfl 0 (by decide) (hts _ (kT _ wd_8b8ffda9)) (fun _ h9 => h9) rfl d_M_open_88 ?_
          refine lv_if_ne (tgt := 98) hx hb d_M_open_91 (by decide) (fun _ => ?_) (fun c_91 => absurd c_91 (by decide))
          refine lv_iconst (v := nI 0) hx hb d_M_open_98 (by decide) ?_
          exact k_zret hx hb hr hlocks hK hP hD hS (trivial) (by rw [nI_bI0, hcd]; rfl) (by rw [hcd]; first | done | rfl) (bI_nar _) d_M_open_99
    · skip
      have c_35 := mt (bI_0).mpr c_35
      have c_35 := eq_true_of_ne_false c_35
      have hcd : cdKd (cdCur ver sLen tab x) (sKind (tab * 6 + cN x)) lo hi = 2 := by rw [cdKd, show cdCur ver sLen tab x = 2 from by rw [cdCur, if_pos c_9, if_neg (show ¬ hasF (sLen tab) x = true by simp [out_n (n := sLen tab) (by omega) c_35])]]; rfl
      refine lv_aload_n hx hb d_M_open_38 rfl (lv_at hl 0 rfl) ?_
      refine lv_iconst (v := nI 2) hx hb d_M_open_39 (by decide) ?_
      refine va_put (D := D) (ci := 8) (ty := .int) (C := R_M) (T := T_M) (N := 39) hx hb hts (fun w h => kT w (i_M w h)) ty_M tyk_M nm_M hown hK hP hD hS 0 rfl rfl 0 (by decide) (hts _ (kT _ wd_8b8ffda9)) (fun _ h9 => h9) rfl (by decide +kernel) rfl rfl (Nat.le_of_ble_eq_true rfl) d_M_open_40 (fun H locs hP hD hS => ?_)
      have hP : va_P D vwCl (Wm am gm sLen sKind sExt sMust rTab rFil mNum rLen rItm made pItm held dByt dLen ver fAdr fTab adr tab lf 2 row mWr mWid mOv mPl mTh mSp mPile mNext mSh mShs mRea mWg mEn mDp mAt mTb mSt) H := hP
      have hD : va_D A (Wm am gm sLen sKind sExt sMust rTab rFil mNum rLen rItm made pItm held dByt dLen ver fAdr fTab adr tab lf 2 row mWr mWid mOv mPl mTh mSp mPile mNext mSh mShs mRea mWg mEn mDp mAt mTb mSt) := hD
      refine lv_goto (tgt := 87) hx hb d_M_open_43 (by decide) ?_
      refine lv_aload_n hx hb d_M_open_87 rfl (lv_at hl 0 rfl) ?_
      refine va_get (D := D) (ci := 8) (C := R_M) (T := T_M) (N := 39) hx hb hts (fun w h => kT w (i_M w h)) hown hK hP 0 rfl rfl 0 (by decide) (hts _ (kT _ wd_8b8ffda9)) (fun _ h9 => h9) rfl d_M_open_88 ?_
      refine lv_if_ne (tgt := 98) hx hb d_M_open_91 (by decide) (fun _ => ?_) (fun c_91 => absurd c_91 (by decide))
      refine lv_iconst (v := nI 0) hx hb d_M_open_98 (by decide) ?_
      exact k_zret hx hb hr hlocks hK hP hD hS (trivial) (by rw [nI_bI0, hcd]; rfl) (by rw [hcd]; first | done | rfl) (bI_nar _) d_M_open_99
  · skip
    have c_9 := (bI_0).mp c_9
    have hcd : cdKd (cdCur ver sLen tab x) (sKind (tab * 6 + cN x)) lo hi = 1 := by rw [cdKd, show cdCur ver sLen tab x = 1 from by rw [cdCur, if_neg (by simp [c_9])]]; rfl
    refine lv_aload_n hx hb d_M_open_12 rfl (lv_at hl 0 rfl) ?_
    refine lv_iconst (v := nI 1) hx hb d_M_open_13 (by decide) ?_
    refine va_put (D := D) (ci := 8) (ty := .int) (C := R_M) (T := T_M) (N := 39) hx hb hts (fun w h => kT w (i_M w h)) ty_M tyk_M nm_M hown hK hP hD hS 0 rfl rfl 0 (by decide) (hts _ (kT _ wd_8b8ffda9)) (fun _ h9 => h9) rfl (by decide +kernel) rfl rfl (Nat.le_of_ble_eq_true rfl) d_M_open_14 (fun H locs hP hD hS => ?_)
    have hP : va_P D vwCl (Wm am gm sLen sKind sExt sMust rTab rFil mNum rLen rItm made pItm held dByt dLen ver fAdr fTab adr tab lf 1 row mWr mWid mOv mPl mTh mSp mPile mNext mSh mShs mRea mWg mEn mDp mAt mTb mSt) H := hP
    have hD : va_D A (Wm am gm sLen sKind sExt sMust rTab rFil mNum rLen rItm made pItm held dByt dLen ver fAdr fTab adr tab lf 1 row mWr mWid mOv mPl mTh mSp mPile mNext mSh mShs mRea mWg mEn mDp mAt mTb mSt) := hD
    refine lv_goto (tgt := 87) hx hb d_M_open_17 (by decide) ?_
    refine lv_aload_n hx hb d_M_open_87 rfl (lv_at hl 0 rfl) ?_
    refine va_get (D := D) (ci := 8) (C := R_M) (T := T_M) (N := 39) hx hb hts (fun w h => kT w (i_M w h)) hown hK hP 0 rfl rfl 0 (by decide) (hts _ (kT _ wd_8b8ffda9)) (fun _ h9 => h9) rfl d_M_open_88 ?_
    refine lv_if_ne (tgt := 98) hx hb d_M_open_91 (by decide) (fun _ => ?_) (fun c_91 => absurd c_91 (by decide))
    refine lv_iconst (v := nI 0) hx hb d_M_open_98 (by decide) ?_
    exact k_zret hx hb hr hlocks hK hP hD hS (trivial) (by rw [nI_bI0, hcd]; rfl) (by rw [hcd]; first | done | rfl) (bI_nar _) d_M_open_99
set_option maxHeartbeats 4000000 in
set_option maxRecDepth 100000 in
theorem m_down (l : Launch) (D : va_G) (am : Nat → Nat) (gm : Nat → ClassId) (tw : Nat) (sLen sKind : Nat → Nat) (sExt : Nat → Int32) (sMust : Nat → Bool) (rTab : Nat → Nat) (rFil : Nat → Bool) (mNum : Nat → Int64) (rLen : Nat → Nat) (rItm : Nat → Int32) (made : Nat) (pItm : Nat → Int32) (held : Nat) (dByt : Nat → Nat) (dLen : Nat) (ver : Bool) (fAdr fTab adr tab : Nat) (lf : Int32) (mCode : Nat) (row : Nat → Nat) (mWr mWid : Nat) (mOv : Bool) (mPl mTh mSp mPile mNext mSh : Nat → Nat) (mShs : Nat) (mRea : Nat → Bool) (mWg : Int32) (mEn mDp : Nat) (mAt mTb mSt : Nat → Nat) (x : Int32) (rNum : Nat → Int64) (rLnk : Nat → Nat) (ht : tab < 4) (hL : ∀ t, sLen t ≤ 6) (hk : ∀ j, sKind j < 7) (hX : ∀ j, sKind j = 6 → okT (sExt j) = true) (hB : ∀ k, dByt k < 256) (hd : dLen ≤ 240) (hV : ver = true → VE (SR.mk sLen sKind sExt sMust rTab rFil rNum rLnk rLen rItm) dByt dLen adr tab) : kM l y_M_down b_M_down 3 (some .int) ({ frames := 5, cells := 0, slots := 0, locals := 109 }) D vwCl (WmT gm) tw [.ref (am 0), .int x] (Wm am gm sLen sKind sExt sMust rTab rFil mNum rLen rItm made pItm held dByt dLen ver fAdr fTab adr tab lf mCode row mWr mWid mOv mPl mTh mSp mPile mNext mSh mShs mRea mWg mEn mDp mAt mTb mSt) (some (.int (nI (if cdKd (cdCur ver sLen tab x) (sKind (tab * 6 + cN x)) 6 6 = 0 then if ofF dByt dLen adr (cN x) = 0 then 0 else 1 else 0)))) (Wm am gm sLen sKind sExt sMust rTab rFil mNum rLen rItm made pItm held dByt dLen ver fAdr fTab (if cdKd (cdCur ver sLen tab x) (sKind (tab * 6 + cN x)) 6 6 = 0 then if ofF dByt dLen adr (cN x) = 0 then adr else tgF dByt dLen (adr + ofF dByt dLen adr (cN x)) else adr) (if cdKd (cdCur ver sLen tab x) (sKind (tab * 6 + cN x)) 6 6 = 0 then if ofF dByt dLen adr (cN x) = 0 then tab else cN (sExt (tab * 6 + cN x)) else tab) lf (cdKd (cdCur ver sLen tab x) (sKind (tab * 6 + cN x)) 6 6) row mWr mWid mOv mPl mTh mSp mPile mNext mSh mShs mRea mWg mEn mDp mAt mTb mSt) := by
  refine k_of (by decide) (Nat.le_of_ble_eq_true rfl) ?_
  intro p e s m below meth c A ls hx hb hr hlocks hml hts hown hin0 hA hP hK hD hS hZ hl
  have hl : lv_has ls 3 [(0, .ref (am 0)), (1, .int x)] := hl
  refine lv_aload_n hx hb d_M_down_0 rfl (lv_at hl 0 rfl) ?_
  refine lv_iload_n hx hb d_M_down_1 rfl (lv_at hl 1 rfl) ?_
  refine lv_bipush (v := nI 6) hx hb d_M_down_2 (by decide) ?_
  refine lv_bipush (v := nI 6) hx hb d_M_down_4 (by decide) ?_
  refine k_callV (m_open l D am gm tw sLen sKind sExt sMust rTab rFil mNum rLen rItm made pItm held dByt dLen ver fAdr fTab adr tab lf mCode row mWr mWid mOv mPl mTh mSp mPile mNext mSh mShs mRea mWg mEn mDp mAt mTb mSt x 6 6  ht hL (by decide) (by decide) hk) m_M_open wd_ccac33a8 0 8 rfl rfl rfl kT hx hb hml hown hts ⟨Nat.le_of_ble_eq_true rfl, Nat.le_of_ble_eq_true rfl⟩ ⟨Nat.le_of_ble_eq_true rfl, Nat.le_of_ble_eq_true rfl⟩ hK hP hD hS hA hZ hl.1 rfl rfl (Nat.le_of_ble_eq_true rfl) d_M_down_6 (fun H locs hP hD hS => ?_)
  have hP : va_P D vwCl (Wm am gm sLen sKind sExt sMust rTab rFil mNum rLen rItm made pItm held dByt dLen ver fAdr fTab adr tab lf (cdKd (cdCur ver sLen tab x) (sKind (tab * 6 + cN x)) 6 6) row mWr mWid mOv mPl mTh mSp mPile mNext mSh mShs mRea mWg mEn mDp mAt mTb mSt) H := hP
  have hD : va_D A (Wm am gm sLen sKind sExt sMust rTab rFil mNum rLen rItm made pItm held dByt dLen ver fAdr fTab adr tab lf (cdKd (cdCur ver sLen tab x) (sKind (tab * 6 + cN x)) 6 6) row mWr mWid mOv mPl mTh mSp mPile mNext mSh mShs mRea mWg mEn mDp mAt mTb mSt) := hD
  refine W.eq (g2 := F0 m 9 ls [.int (bI (cdO (cdKd (cdCur ver sLen tab x) (sKind (tab * 6 + cN x)) 6 6)))]) rfl ?_
  refine lv_if_eq (tgt := 24) hx hb d_M_down_9 (by decide) (fun c_9 => ?_) (fun c_9 => ?_)
  · skip
    have c_9 := (bI_0).mp c_9
    have hcn : ¬ cdKd (cdCur ver sLen tab x) (sKind (tab * 6 + cN x)) 6 6 = 0 := of_decide_eq_false c_9
    refine lv_iconst (v := nI 0) hx hb d_M_down_24 (by decide) ?_
    exact k_iret hx hb hr hlocks hK hP hD hS (trivial) (by rw [if_neg hcn]) (by rw [if_neg hcn, if_neg hcn]) d_M_down_25
  · skip
    have c_9 := mt (bI_0).mpr c_9
    have c_9 := eq_true_of_ne_false c_9
    have hcd : cdKd (cdCur ver sLen tab x) (sKind (tab * 6 + cN x)) 6 6 = 0 := of_decide_eq_true c_9
    have hcu := cdCur_0 (cdKd_0 hcd)
    have hve := hV hcu.1
    have hfr := (VE_fr hve).1
    have hL1 := hL tab
    have hfr1 := hfr.1
    have hofl : ofF dByt dLen adr (cN x) < 65536 := offF_lt hB
    obtain ⟨n_x, b_x⟩ := hasF_spec (by omega) hcu.2
    have hl : lv_has ls 3 [(0, .ref (am 0)), (1, .int (nI (cN x)))] := by rw [← n_x]; exact hl
    have hk1 : (sKind (tab * 6 + cN x)) < 7 := hk _
    have hkr2 : 6 ≤ (sKind (tab * 6 + cN x)) ∧ (sKind (tab * 6 + cN x)) ≤ 6 := by have h9 := hcd; rw [cdKd, if_pos (cdKd_0 hcd)] at h9; split at h9; assumption; cases h9
    refine lv_aload_n hx hb d_M_down_12 rfl (lv_at hl 0 rfl) ?_
    refine lv_aload_n hx hb d_M_down_13 rfl (lv_at hl 0 rfl) ?_
    refine va_get (D := D) (ci := 8) (C := R_M) (T := T_M) (N := 39) hx hb hts (fun w h => kT w (i_M w h)) hown hK hP 0 rfl rfl 30 (by decide) (hts _ (kT _ wd_cd6c8e1d)) (fun _ h9 => h9) rfl d_M_down_14 ?_
    refine lv_iload_n hx hb d_M_down_17 rfl (lv_at hl 1 rfl) ?_
    refine k_callV (m_offset l D am gm tw sLen sKind sExt sMust rTab rFil mNum rLen rItm made pItm held dByt dLen ver fAdr fTab adr tab lf (cdKd (cdCur ver sLen tab x) (sKind (tab * 6 + cN x)) 6 6) row mWr mWid mOv mPl mTh mSp mPile mNext mSh mShs mRea mWg mEn mDp mAt mTb mSt adr (cN x)  hfr (by omega) hB hd) m_M_offset wd_35e10521 0 8 rfl rfl rfl kT hx hb hml hown hts ⟨Nat.le_of_ble_eq_true rfl, Nat.le_of_ble_eq_true rfl⟩ ⟨Nat.le_of_ble_eq_true rfl, Nat.le_of_ble_eq_true rfl⟩ hK hP hD hS hA hZ hl.1 rfl rfl (Nat.le_of_ble_eq_true rfl) d_M_down_18 (fun H locs hP hD hS => ?_)
    have hP : va_P D vwCl (Wm am gm sLen sKind sExt sMust rTab rFil mNum rLen rItm made pItm held dByt dLen ver fAdr fTab adr tab lf (cdKd (cdCur ver sLen tab x) (sKind (tab * 6 + cN x)) 6 6) row mWr mWid mOv mPl mTh mSp mPile mNext mSh mShs mRea mWg mEn mDp mAt mTb mSt) H := hP
    have hD : va_D A (Wm am gm sLen sKind sExt sMust rTab rFil mNum rLen rItm made pItm held dByt dLen ver fAdr fTab adr tab lf (cdKd (cdCur ver sLen tab x) (sKind (tab * 6 + cN x)) 6 6) row mWr mWid mOv mPl mTh mSp mPile mNext mSh mShs mRea mWg mEn mDp mAt mTb mSt) := hD
    refine W.eq (g2 := F0 m 21 ls [.int (nI (ofF dByt dLen adr (cN x)))]) rfl ?_
    refine lv_if_ne (tgt := 26) hx hb d_M_down_21 (by decide) (fun c_21 => ?_) (fun c_21 => ?_)
    · skip
      have c_21 := mt (z_eq (by omega)).mpr c_21
      have hq : ¬ ofF dByt dLen adr (cN x) = 0 := c_21
      obtain ⟨hfb, hf6, hf45⟩ := VE_f hve b_x hq
      have hfb2 : adr + ofF dByt dLen adr (cN x) + kWd (sKind (tab * 6 + cN x)) ≤ dLen := hfb.2
      have hw4 : kWd (sKind (tab * 6 + cN x)) = 4 := by rw [show (sKind (tab * 6 + cN x)) = 6 by omega]; rfl
      refine lv_aload_n hx hb d_M_down_26 rfl (lv_at hl 0 rfl) ?_
      refine lv_aload_n hx hb d_M_down_27 rfl (lv_at hl 0 rfl) ?_
      refine va_get (D := D) (ci := 8) (C := R_M) (T := T_M) (N := 39) hx hb hts (fun w h => kT w (i_M w h)) hown hK hP 0 rfl rfl 30 (by decide) (hts _ (kT _ wd_cd6c8e1d)) (fun _ h9 => h9) rfl d_M_down_28 ?_
      refine lv_iload_n hx hb d_M_down_31 rfl (lv_at hl 1 rfl) ?_
      refine k_callV (m_target l D am gm tw sLen sKind sExt sMust rTab rFil mNum rLen rItm made pItm held dByt dLen ver fAdr fTab adr tab lf (cdKd (cdCur ver sLen tab x) (sKind (tab * 6 + cN x)) 6 6) row mWr mWid mOv mPl mTh mSp mPile mNext mSh mShs mRea mWg mEn mDp mAt mTb mSt adr (cN x)  hfr (by omega) (by omega) hB hd) m_M_target wd_e90247da 0 8 rfl rfl rfl kT hx hb hml hown hts ⟨Nat.le_of_ble_eq_true rfl, Nat.le_of_ble_eq_true rfl⟩ ⟨Nat.le_of_ble_eq_true rfl, Nat.le_of_ble_eq_true rfl⟩ hK hP hD hS hA hZ hl.1 rfl rfl (Nat.le_of_ble_eq_true rfl) d_M_down_32 (fun H locs hP hD hS => ?_)
      have hP : va_P D vwCl (Wm am gm sLen sKind sExt sMust rTab rFil mNum rLen rItm made pItm held dByt dLen ver fAdr fTab adr tab lf (cdKd (cdCur ver sLen tab x) (sKind (tab * 6 + cN x)) 6 6) row mWr mWid mOv mPl mTh mSp mPile mNext mSh mShs mRea mWg mEn mDp mAt mTb mSt) H := hP
      have hD : va_D A (Wm am gm sLen sKind sExt sMust rTab rFil mNum rLen rItm made pItm held dByt dLen ver fAdr fTab adr tab lf (cdKd (cdCur ver sLen tab x) (sKind (tab * 6 + cN x)) 6 6) row mWr mWid mOv mPl mTh mSp mPile mNext mSh mShs mRea mWg mEn mDp mAt mTb mSt) := hD
      refine W.eq (g2 := F0 m 35 ls [.int (nI (tgF dByt dLen (adr + ofF dByt dLen adr (cN x))))]) rfl ?_
      refine lv_istore_n (lv' := [(2, .int (nI (tgF dByt dLen (adr + ofF dByt dLen adr (cN x))))), (0, .ref (am 0)), (1, .int (nI (cN x)))]) hx hb d_M_down_35 rfl hl (by decide) rfl (fun ls hl => ?_)
      refine lv_aload_n hx hb d_M_down_36 rfl (lv_at hl 1 rfl) ?_
      refine lv_aload_n hx hb d_M_down_37 rfl (lv_at hl 1 rfl) ?_
      refine va_get (D := D) (ci := 8) (C := R_M) (T := T_M) (N := 39) hx hb hts (fun w h => kT w (i_M w h)) hown hK hP 0 rfl rfl 3 (by decide) (hts _ (kT _ wd_74a62eb0)) (fun _ h9 => h9) rfl d_M_down_38 ?_
      refine lv_bipush (v := nI 6) hx hb d_M_down_41 (by decide) ?_
      refine lv_aload_n hx hb d_M_down_43 rfl (lv_at hl 1 rfl) ?_
      refine va_get (D := D) (ci := 8) (C := R_M) (T := T_M) (N := 39) hx hb hts (fun w h => kT w (i_M w h)) hown hK hP 0 rfl rfl 31 (by decide) (hts _ (kT _ wd_e5a19dfd)) (fun _ h9 => h9) rfl d_M_down_44 ?_
      refine lv_imul hx hb d_M_down_47 ?_
      refine lv_eqi ((pk_mul _ _).trans (nI_congr (Nat.mul_comm _ _))) ?_
      refine lv_iload_n hx hb d_M_down_48 rfl (lv_at hl 2 rfl) ?_
      refine lv_iadd hx hb d_M_down_49 ?_
      refine lv_eqi (nI_add _ _) ?_
      refine r_iald hx hb hK hP 3 2 rfl rfl (i := ((tab * 6) + (cN x))) (by omega) (by decide) d_M_down_50 ?_
      obtain ⟨n_e, b_e⟩ := okT_spec (hX (tab * 6 + cN x) (by omega))
      refine lv_eqi n_e ?_
      refine va_put (D := D) (ci := 8) (ty := .int) (C := R_M) (T := T_M) (N := 39) hx hb hts (fun w h => kT w (i_M w h)) ty_M tyk_M nm_M hown hK hP hD hS 0 rfl rfl 31 (by decide) (hts _ (kT _ wd_e5a19dfd)) (fun _ h9 => h9) rfl (by decide +kernel) rfl rfl (Nat.le_of_ble_eq_true rfl) d_M_down_51 (fun H locs hP hD hS => ?_)
      have hP : va_P D vwCl (Wm am gm sLen sKind sExt sMust rTab rFil mNum rLen rItm made pItm held dByt dLen ver fAdr fTab adr (cN (sExt (tab * 6 + cN x))) lf (cdKd (cdCur ver sLen tab x) (sKind (tab * 6 + cN x)) 6 6) row mWr mWid mOv mPl mTh mSp mPile mNext mSh mShs mRea mWg mEn mDp mAt mTb mSt) H := hP
      have hD : va_D A (Wm am gm sLen sKind sExt sMust rTab rFil mNum rLen rItm made pItm held dByt dLen ver fAdr fTab adr (cN (sExt (tab * 6 + cN x))) lf (cdKd (cdCur ver sLen tab x) (sKind (tab * 6 + cN x)) 6 6) row mWr mWid mOv mPl mTh mSp mPile mNext mSh mShs mRea mWg mEn mDp mAt mTb mSt) := hD
      refine lv_aload_n hx hb d_M_down_54 rfl (lv_at hl 1 rfl) ?_
      refine lv_iload_n hx hb d_M_down_55 rfl (lv_at hl 0 rfl) ?_
      refine va_put (D := D) (ci := 8) (ty := .int) (C := R_M) (T := T_M) (N := 39) hx hb hts (fun w h => kT w (i_M w h)) ty_M tyk_M nm_M hown hK hP hD hS 0 rfl rfl 30 (by decide) (hts _ (kT _ wd_cd6c8e1d)) (fun _ h9 => h9) rfl (by decide +kernel) rfl rfl (Nat.le_of_ble_eq_true rfl) d_M_down_56 (fun H locs hP hD hS => ?_)
      have hP : va_P D vwCl (Wm am gm sLen sKind sExt sMust rTab rFil mNum rLen rItm made pItm held dByt dLen ver fAdr fTab (tgF dByt dLen (adr + ofF dByt dLen adr (cN x))) (cN (sExt (tab * 6 + cN x))) lf (cdKd (cdCur ver sLen tab x) (sKind (tab * 6 + cN x)) 6 6) row mWr mWid mOv mPl mTh mSp mPile mNext mSh mShs mRea mWg mEn mDp mAt mTb mSt) H := hP
      have hD : va_D A (Wm am gm sLen sKind sExt sMust rTab rFil mNum rLen rItm made pItm held dByt dLen ver fAdr fTab (tgF dByt dLen (adr + ofF dByt dLen adr (cN x))) (cN (sExt (tab * 6 + cN x))) lf (cdKd (cdCur ver sLen tab x) (sKind (tab * 6 + cN x)) 6 6) row mWr mWid mOv mPl mTh mSp mPile mNext mSh mShs mRea mWg mEn mDp mAt mTb mSt) := hD
      refine lv_iconst (v := nI 1) hx hb d_M_down_59 (by decide) ?_
      exact k_iret hx hb hr hlocks hK hP hD hS (trivial) (by rw [if_pos hcd, if_neg hq]) (by rw [if_pos hcd, if_neg hq, if_pos hcd, if_neg hq]) d_M_down_60
    · skip
      have c_21 := (z_eq (by omega)).mp c_21
      have hq : ofF dByt dLen adr (cN x) = 0 := c_21
      refine lv_iconst (v := nI 0) hx hb d_M_down_24 (by decide) ?_
      exact k_iret hx hb hr hlocks hK hP hD hS (trivial) (by rw [if_pos hcd, if_pos hq]) (by rw [if_pos hcd, if_pos hq, if_pos hcd, if_pos hq]) d_M_down_25
set_option maxHeartbeats 4000000 in
set_option maxRecDepth 100000 in
theorem m_value (l : Launch) (D : va_G) (am : Nat → Nat) (gm : Nat → ClassId) (tw : Nat) (sLen sKind : Nat → Nat) (sExt : Nat → Int32) (sMust : Nat → Bool) (rTab : Nat → Nat) (rFil : Nat → Bool) (mNum : Nat → Int64) (rLen : Nat → Nat) (rItm : Nat → Int32) (made : Nat) (pItm : Nat → Int32) (held : Nat) (dByt : Nat → Nat) (dLen : Nat) (ver : Bool) (fAdr fTab adr tab : Nat) (lf : Int32) (mCode : Nat) (row : Nat → Nat) (mWr mWid : Nat) (mOv : Bool) (mPl mTh mSp mPile mNext mSh : Nat → Nat) (mShs : Nat) (mRea : Nat → Bool) (mWg : Int32) (mEn mDp : Nat) (mAt mTb mSt : Nat → Nat) (x : Int32) (rNum : Nat → Int64) (rLnk : Nat → Nat) (ht : tab < 4) (hL : ∀ t, sLen t ≤ 6) (hk : ∀ j, sKind j < 7) (hX : ∀ j, sKind j = 6 → okT (sExt j) = true) (hB : ∀ k, dByt k < 256) (hd : dLen ≤ 240) (hV : ver = true → VE (SR.mk sLen sKind sExt sMust rTab rFil rNum rLnk rLen rItm) dByt dLen adr tab) : kM l y_M_value b_M_value 7 (some .long) ({ frames := 4, cells := 0, slots := 0, locals := 86 }) D vwCl (WmT gm) tw [.ref (am 0), .int x] (Wm am gm sLen sKind sExt sMust rTab rFil mNum rLen rItm made pItm held dByt dLen ver fAdr fTab adr tab lf mCode row mWr mWid mOv mPl mTh mSp mPile mNext mSh mShs mRea mWg mEn mDp mAt mTb mSt) (some (.long (if cdKd (cdCur ver sLen tab x) (sKind (tab * 6 + cN x)) 0 3 = 0 then if ofF dByt dLen adr (cN x) = 0 then (sExt (tab * 6 + cN x)).toInt64 else sxL (kWd (sKind (tab * 6 + cN x))) (leN dByt dLen (nI (adr + ofF dByt dLen adr (cN x))) (kWd (sKind (tab * 6 + cN x)))) else 0))) (Wm am gm sLen sKind sExt sMust rTab rFil mNum rLen rItm made pItm held dByt dLen ver fAdr fTab adr tab lf (cdKd (cdCur ver sLen tab x) (sKind (tab * 6 + cN x)) 0 3) row mWr mWid mOv mPl mTh mSp mPile mNext mSh mShs mRea mWg mEn mDp mAt mTb mSt) := by
  refine k_of (by decide) (Nat.le_of_ble_eq_true rfl) ?_
  intro p e s m below meth c A ls hx hb hr hlocks hml hts hown hin0 hA hP hK hD hS hZ hl
  have hl : lv_has ls 7 [(0, .ref (am 0)), (1, .int x)] := hl
  refine lv_aload_n hx hb d_M_value_0 rfl (lv_at hl 0 rfl) ?_
  refine lv_iload_n hx hb d_M_value_1 rfl (lv_at hl 1 rfl) ?_
  refine lv_iconst (v := nI 0) hx hb d_M_value_2 (by decide) ?_
  refine lv_iconst (v := nI 3) hx hb d_M_value_3 (by decide) ?_
  refine k_callV (m_open l D am gm tw sLen sKind sExt sMust rTab rFil mNum rLen rItm made pItm held dByt dLen ver fAdr fTab adr tab lf mCode row mWr mWid mOv mPl mTh mSp mPile mNext mSh mShs mRea mWg mEn mDp mAt mTb mSt x 0 3  ht hL (by decide) (by decide) hk) m_M_open wd_ccac33a8 0 8 rfl rfl rfl kT hx hb hml hown hts ⟨Nat.le_of_ble_eq_true rfl, Nat.le_of_ble_eq_true rfl⟩ ⟨Nat.le_of_ble_eq_true rfl, Nat.le_of_ble_eq_true rfl⟩ hK hP hD hS hA hZ hl.1 rfl rfl (Nat.le_of_ble_eq_true rfl) d_M_value_4 (fun H locs hP hD hS => ?_)
  have hP : va_P D vwCl (Wm am gm sLen sKind sExt sMust rTab rFil mNum rLen rItm made pItm held dByt dLen ver fAdr fTab adr tab lf (cdKd (cdCur ver sLen tab x) (sKind (tab * 6 + cN x)) 0 3) row mWr mWid mOv mPl mTh mSp mPile mNext mSh mShs mRea mWg mEn mDp mAt mTb mSt) H := hP
  have hD : va_D A (Wm am gm sLen sKind sExt sMust rTab rFil mNum rLen rItm made pItm held dByt dLen ver fAdr fTab adr tab lf (cdKd (cdCur ver sLen tab x) (sKind (tab * 6 + cN x)) 0 3) row mWr mWid mOv mPl mTh mSp mPile mNext mSh mShs mRea mWg mEn mDp mAt mTb mSt) := hD
  refine W.eq (g2 := F0 m 7 ls [.int (bI (cdO (cdKd (cdCur ver sLen tab x) (sKind (tab * 6 + cN x)) 0 3)))]) rfl ?_
  refine lv_if_ne (tgt := 12) hx hb d_M_value_7 (by decide) (fun c_7 => ?_) (fun c_7 => ?_)
  · skip
    have c_7 := mt (bI_0).mpr c_7
    have c_7 := eq_true_of_ne_false c_7
    have hcd : cdKd (cdCur ver sLen tab x) (sKind (tab * 6 + cN x)) 0 3 = 0 := of_decide_eq_true c_7
    have hcu := cdCur_0 (cdKd_0 hcd)
    have hve := hV hcu.1
    have hfr := (VE_fr hve).1
    have hL1 := hL tab
    have hfr1 := hfr.1
    have hofl : ofF dByt dLen adr (cN x) < 65536 := offF_lt hB
    obtain ⟨n_x, b_x⟩ := hasF_spec (by omega) hcu.2
    have hl : lv_has ls 7 [(0, .ref (am 0)), (1, .int (nI (cN x)))] := by rw [← n_x]; exact hl
    have hk1 : (sKind (tab * 6 + cN x)) < 7 := hk _
    have hkr2 : 0 ≤ (sKind (tab * 6 + cN x)) ∧ (sKind (tab * 6 + cN x)) ≤ 3 := by have h9 := hcd; rw [cdKd, if_pos (cdKd_0 hcd)] at h9; split at h9; assumption; cases h9
    refine lv_bipush (v := nI 6) hx hb d_M_value_12 (by decide) ?_
    refine lv_aload_n hx hb d_M_value_14 rfl (lv_at hl 0 rfl) ?_
    refine va_get (D := D) (ci := 8) (C := R_M) (T := T_M) (N := 39) hx hb hts (fun w h => kT w (i_M w h)) hown hK hP 0 rfl rfl 31 (by decide) (hts _ (kT _ wd_e5a19dfd)) (fun _ h9 => h9) rfl d_M_value_15 ?_
    refine lv_imul hx hb d_M_value_18 ?_
    refine lv_eqi ((pk_mul _ _).trans (nI_congr (Nat.mul_comm _ _))) ?_
    refine lv_iload_n hx hb d_M_value_19 rfl (lv_at hl 1 rfl) ?_
    refine lv_iadd hx hb d_M_value_20 ?_
    refine lv_eqi (nI_add _ _) ?_
    refine lv_istore_n (lv' := [(2, .int (nI ((tab * 6) + (cN x)))), (0, .ref (am 0)), (1, .int (nI (cN x)))]) hx hb d_M_value_21 rfl hl (by decide) rfl (fun ls hl => ?_)
    refine lv_aload_n hx hb d_M_value_22 rfl (lv_at hl 1 rfl) ?_
    refine lv_aload_n hx hb d_M_value_23 rfl (lv_at hl 1 rfl) ?_
    refine va_get (D := D) (ci := 8) (C := R_M) (T := T_M) (N := 39) hx hb hts (fun w h => kT w (i_M w h)) hown hK hP 0 rfl rfl 30 (by decide) (hts _ (kT _ wd_cd6c8e1d)) (fun _ h9 => h9) rfl d_M_value_24 ?_
    refine lv_iload_n hx hb d_M_value_27 rfl (lv_at hl 2 rfl) ?_
    refine k_callV (m_offset l D am gm tw sLen sKind sExt sMust rTab rFil mNum rLen rItm made pItm held dByt dLen ver fAdr fTab adr tab lf (cdKd (cdCur ver sLen tab x) (sKind (tab * 6 + cN x)) 0 3) row mWr mWid mOv mPl mTh mSp mPile mNext mSh mShs mRea mWg mEn mDp mAt mTb mSt adr (cN x)  hfr (by omega) hB hd) m_M_offset wd_35e10521 0 8 rfl rfl rfl kT hx hb hml hown hts ⟨Nat.le_of_ble_eq_true rfl, Nat.le_of_ble_eq_true rfl⟩ ⟨Nat.le_of_ble_eq_true rfl, Nat.le_of_ble_eq_true rfl⟩ hK hP hD hS hA hZ hl.1 rfl rfl (Nat.le_of_ble_eq_true rfl) d_M_value_28 (fun H locs hP hD hS => ?_)
    have hP : va_P D vwCl (Wm am gm sLen sKind sExt sMust rTab rFil mNum rLen rItm made pItm held dByt dLen ver fAdr fTab adr tab lf (cdKd (cdCur ver sLen tab x) (sKind (tab * 6 + cN x)) 0 3) row mWr mWid mOv mPl mTh mSp mPile mNext mSh mShs mRea mWg mEn mDp mAt mTb mSt) H := hP
    have hD : va_D A (Wm am gm sLen sKind sExt sMust rTab rFil mNum rLen rItm made pItm held dByt dLen ver fAdr fTab adr tab lf (cdKd (cdCur ver sLen tab x) (sKind (tab * 6 + cN x)) 0 3) row mWr mWid mOv mPl mTh mSp mPile mNext mSh mShs mRea mWg mEn mDp mAt mTb mSt) := hD
    refine W.eq (g2 := F0 m 31 ls [.int (nI (ofF dByt dLen adr (cN x)))]) rfl ?_
    refine lv_istore_n (lv' := [(3, .int (nI (ofF dByt dLen adr (cN x)))), (2, .int (nI ((tab * 6) + (cN x)))), (0, .ref (am 0)), (1, .int (nI (cN x)))]) hx hb d_M_value_31 rfl hl (by decide) rfl (fun ls hl => ?_)
    refine lv_iload_n hx hb d_M_value_32 rfl (lv_at hl 0 rfl) ?_
    refine lv_if_ne (tgt := 44) hx hb d_M_value_33 (by decide) (fun c_33 => ?_) (fun c_33 => ?_)
    · skip
      have c_33 := mt (z_eq (by omega)).mpr c_33
      have hq : ¬ ofF dByt dLen adr (cN x) = 0 := c_33
      obtain ⟨hfb, hf6, hf45⟩ := VE_f hve b_x hq
      have hfb2 : adr + ofF dByt dLen adr (cN x) + kWd (sKind (tab * 6 + cN x)) ≤ dLen := hfb.2
      have hw8 := kWd_8 _ hk1
      refine lv_lconst (v := 0) hx hb d_M_value_44 (by decide) ?_
      refine lv_lstore (lv' := [(4, .long (0 : Int64)), (3, .int (nI (ofF dByt dLen adr (cN x)))), (2, .int (nI ((tab * 6) + (cN x)))), (0, .ref (am 0)), (1, .int (nI (cN x)))]) hx hb d_M_value_45 hl (by decide) rfl (fun ls hl => ?_)
      refine lv_aload_n hx hb d_M_value_47 rfl (lv_at hl 3 rfl) ?_
      refine va_get (D := D) (ci := 8) (C := R_M) (T := T_M) (N := 39) hx hb hts (fun w h => kT w (i_M w h)) hown hK hP 0 rfl rfl 2 (by decide) (hts _ (kT _ wd_91f4763a)) (fun _ h9 => h9) rfl d_M_value_48 ?_
      refine lv_iload_n hx hb d_M_value_51 rfl (lv_at hl 2 rfl) ?_
      refine n_iald hx hb hK hP 2 1 rfl rfl (i := ((tab * 6) + (cN x))) (by omega) (by decide) d_M_value_52 ?_
      refine k_callS (m_wide l D am gm tw sLen sKind sExt sMust rTab rFil mNum rLen rItm made pItm held dByt dLen ver fAdr fTab adr tab lf (cdKd (cdCur ver sLen tab x) (sKind (tab * 6 + cN x)) 0 3) row mWr mWid mOv mPl mTh mSp mPile mNext mSh mShs mRea mWg mEn mDp mAt mTb mSt (sKind ((tab * 6) + (cN x)))  (by omega)) m_M_wide wd_be33e586 kT hx hb hml hown hts ⟨Nat.le_of_ble_eq_true rfl, Nat.le_of_ble_eq_true rfl⟩ ⟨Nat.le_of_ble_eq_true rfl, Nat.le_of_ble_eq_true rfl⟩ hK hP hD hS hA hZ hl.1 rfl rfl (Nat.le_of_ble_eq_true rfl) d_M_value_53 (fun H locs hP hD hS => ?_)
      have hP : va_P D vwCl (Wm am gm sLen sKind sExt sMust rTab rFil mNum rLen rItm made pItm held dByt dLen ver fAdr fTab adr tab lf (cdKd (cdCur ver sLen tab x) (sKind (tab * 6 + cN x)) 0 3) row mWr mWid mOv mPl mTh mSp mPile mNext mSh mShs mRea mWg mEn mDp mAt mTb mSt) H := hP
      have hD : va_D A (Wm am gm sLen sKind sExt sMust rTab rFil mNum rLen rItm made pItm held dByt dLen ver fAdr fTab adr tab lf (cdKd (cdCur ver sLen tab x) (sKind (tab * 6 + cN x)) 0 3) row mWr mWid mOv mPl mTh mSp mPile mNext mSh mShs mRea mWg mEn mDp mAt mTb mSt) := hD
      refine W.eq (g2 := F0 m 56 ls [.int (nI (kWd (sKind ((tab * 6) + (cN x)))))]) rfl ?_
      refine lv_iconst (v := nI 1) hx hb d_M_value_56 (by decide) ?_
      refine lv_isub hx hb d_M_value_57 ?_
      refine lv_istore (lv' := [(6, .int ((nI (kWd (sKind ((tab * 6) + (cN x))))) - (nI 1))), (4, .long (0 : Int64)), (3, .int (nI (ofF dByt dLen adr (cN x)))), (2, .int (nI ((tab * 6) + (cN x)))), (0, .ref (am 0)), (1, .int (nI (cN x)))]) hx hb d_M_value_58 hl (by decide) rfl (fun ls hl => ?_)
      have e_6 : (nI (kWd (sKind ((tab * 6) + (cN x))))) - (nI 1) = nI (kWd (sKind (tab * 6 + cN x)) - 0) - 1 := by rw [nI_1e]; rfl
      have hl : lv_has ls 7 [(6, .int (nI (kWd (sKind (tab * 6 + cN x)) - 0) - 1)), (4, .long (0 : Int64)), (3, .int (nI (ofF dByt dLen adr (cN x)))), (2, .int (nI ((tab * 6) + (cN x)))), (0, .ref (am 0)), (1, .int (nI (cN x)))] := by rw [← e_6]; exact hl
      have e_4 : (0 : Int64) = lN (leN dByt dLen (nI (adr + ofF dByt dLen adr (cN x) + (kWd (sKind (tab * 6 + cN x)) - 0))) 0) := rfl
      have hl : lv_has ls 7 [(6, .int (nI (kWd (sKind (tab * 6 + cN x)) - 0) - 1)), (4, .long (lN (leN dByt dLen (nI (adr + ofF dByt dLen adr (cN x) + (kWd (sKind (tab * 6 + cN x)) - 0))) 0))), (3, .int (nI (ofF dByt dLen adr (cN x)))), (2, .int (nI ((tab * 6) + (cN x)))), (0, .ref (am 0)), (1, .int (nI (cN x)))] := by rw [← e_4]; exact hl
      have L_60 : ∀ (n : Nat) (nn : Nat), (nn ≤ kWd (sKind (tab * 6 + cN x))) → kWd (sKind (tab * 6 + cN x)) - nn < n → ∀ (H : Heap) (locs : List Loc) (ls : Array Slot), va_P D vwCl (Wm am gm sLen sKind sExt sMust rTab rFil mNum rLen rItm made pItm held dByt dLen ver fAdr fTab adr tab lf (cdKd (cdCur ver sLen tab x) (sKind (tab * 6 + cN x)) 0 3) row mWr mWid mOv mPl mTh mSp mPile mNext mSh mShs mRea mWg mEn mDp mAt mTb mSt) H → va_D A (Wm am gm sLen sKind sExt sMust rTab rFil mNum rLen rItm made pItm held dByt dLen ver fAdr fTab adr tab lf (cdKd (cdCur ver sLen tab x) (sKind (tab * 6 + cN x)) 0 3) row mWr mWid mOv mPl mTh mSp mPile mNext mSh mShs mRea mWg mEn mDp mAt mTb mSt) → va_S A s.heap H locs → lv_has ls 7 [(6, .int (nI (kWd (sKind (tab * 6 + cN x)) - nn) - 1)), (4, .long (lN (leN dByt dLen (nI (adr + ofF dByt dLen adr (cN x) + (kWd (sKind (tab * 6 + cN x)) - nn))) nn))), (3, .int (nI (ofF dByt dLen adr (cN x)))), (2, .int (nI ((tab * 6) + (cN x)))), (0, .ref (am 0)), (1, .int (nI (cN x)))] → W p l e ({ frames := 4, cells := 0, slots := 0, locals := 86 }) s m ([.ref (am 0), .int x] : List Value).toArray below meth c H locs 0 0 (MQ below (kQ D vwCl (WmT gm) A True (some (.long (if cdKd (cdCur ver sLen tab x) (sKind (tab * 6 + cN x)) 0 3 = 0 then if ofF dByt dLen adr (cN x) = 0 then (sExt (tab * 6 + cN x)).toInt64 else sxL (kWd (sKind (tab * 6 + cN x))) (leN dByt dLen (nI (adr + ofF dByt dLen adr (cN x))) (kWd (sKind (tab * 6 + cN x)))) else 0))) (Wm am gm sLen sKind sExt sMust rTab rFil mNum rLen rItm made pItm held dByt dLen ver fAdr fTab adr tab lf (cdKd (cdCur ver sLen tab x) (sKind (tab * 6 + cN x)) 0 3) row mWr mWid mOv mPl mTh mSp mPile mNext mSh mShs mRea mWg mEn mDp mAt mTb mSt)) ([.ref (am 0), .int x] : List Value).toArray s 0 0 A) (F0 m 60 ls []) := by
        intro n
        induction n with
        | zero => intro nn hnn hm; exact absurd hm (Nat.not_lt_zero _)
        | succ n ih_60 =>
          intro nn hnn hm_60 H locs ls hP hD hS hl
          refine lv_iload hx hb d_M_value_60 (lv_at hl 0 rfl) ?_
          refine lv_if_lt (tgt := 95) hx hb d_M_value_62 (by decide) (fun c_62 => ?_) (fun c_62 => ?_)
          · skip
            have h_nn : kWd (sKind (tab * 6 + cN x)) = nn := by have := (dn_lt (by omega)).mp c_62; omega
            subst h_nn
            refine lv_aload_n hx hb d_M_value_95 rfl (lv_at hl 4 rfl) ?_
            refine va_get (D := D) (ci := 8) (C := R_M) (T := T_M) (N := 39) hx hb hts (fun w h => kT w (i_M w h)) hown hK hP 0 rfl rfl 2 (by decide) (hts _ (kT _ wd_91f4763a)) (fun _ h9 => h9) rfl d_M_value_96 ?_
            refine lv_iload_n hx hb d_M_value_99 rfl (lv_at hl 3 rfl) ?_
            refine n_iald hx hb hK hP 2 1 rfl rfl (i := ((tab * 6) + (cN x))) (by omega) (by decide) d_M_value_100 ?_
            refine lv_lload hx hb d_M_value_101 (lv_at hl 1 rfl) ?_
            refine k_callS (m_fit l D am gm tw sLen sKind sExt sMust rTab rFil mNum rLen rItm made pItm held dByt dLen ver fAdr fTab adr tab lf (cdKd (cdCur ver sLen tab x) (sKind (tab * 6 + cN x)) 0 3) row mWr mWid mOv mPl mTh mSp mPile mNext mSh mShs mRea mWg mEn mDp mAt mTb mSt (sKind ((tab * 6) + (cN x))) (lN (leN dByt dLen (nI (adr + ofF dByt dLen adr (cN x) + (kWd (sKind (tab * 6 + cN x)) - (kWd (sKind (tab * 6 + cN x)))))) (kWd (sKind (tab * 6 + cN x)))))  (by omega)) m_M_fit wd_99f3b727 kT hx hb hml hown hts ⟨Nat.le_of_ble_eq_true rfl, Nat.le_of_ble_eq_true rfl⟩ ⟨Nat.le_of_ble_eq_true rfl, Nat.le_of_ble_eq_true rfl⟩ hK hP hD hS hA hZ hl.1 rfl rfl (Nat.le_of_ble_eq_true rfl) d_M_value_103 (fun H locs hP hD hS => ?_)
            have hP : va_P D vwCl (Wm am gm sLen sKind sExt sMust rTab rFil mNum rLen rItm made pItm held dByt dLen ver fAdr fTab adr tab lf (cdKd (cdCur ver sLen tab x) (sKind (tab * 6 + cN x)) 0 3) row mWr mWid mOv mPl mTh mSp mPile mNext mSh mShs mRea mWg mEn mDp mAt mTb mSt) H := hP
            have hD : va_D A (Wm am gm sLen sKind sExt sMust rTab rFil mNum rLen rItm made pItm held dByt dLen ver fAdr fTab adr tab lf (cdKd (cdCur ver sLen tab x) (sKind (tab * 6 + cN x)) 0 3) row mWr mWid mOv mPl mTh mSp mPile mNext mSh mShs mRea mWg mEn mDp mAt mTb mSt) := hD
            refine W.eq (g2 := F0 m 106 ls [.long (brI (sKind ((tab * 6) + (cN x))) (lN (leN dByt dLen (nI (adr + ofF dByt dLen adr (cN x) + (kWd (sKind (tab * 6 + cN x)) - (kWd (sKind (tab * 6 + cN x)))))) (kWd (sKind (tab * 6 + cN x))))))]) rfl ?_
            exact k_lret hx hb hr hlocks hK hP hD hS (trivial) (by rw [if_pos hcd, if_neg hq, Nat.sub_self, Nat.add_zero]; exact br_sx (by omega) (leN_lt hB _)) (rfl) d_M_value_106
          · skip
            have hj : ¬ (kWd (sKind (tab * 6 + cN x)) - nn) = 0 := mt (dn_lt (by omega)).mpr c_62
            have hl : lv_has ls 7 [(6, .int (nI ((kWd (sKind (tab * 6 + cN x)) - nn) - 1))), (4, .long (lN (leN dByt dLen (nI (adr + ofF dByt dLen adr (cN x) + (kWd (sKind (tab * 6 + cN x)) - nn))) nn))), (3, .int (nI (ofF dByt dLen adr (cN x)))), (2, .int (nI ((tab * 6) + (cN x)))), (0, .ref (am 0)), (1, .int (nI (cN x)))] := by rw [← dn_in hj]; exact hl
            refine lv_lload hx hb d_M_value_65 (lv_at hl 1 rfl) ?_
            refine lv_ldc2 (v := 256) hx hb hown (hts _ (kT _ wd_8a7a8175)) d_M_value_67 ?_
            refine lv_lmul hx hb d_M_value_70 ?_
            refine lv_aload_n hx hb d_M_value_71 rfl (lv_at hl 4 rfl) ?_
            refine va_get (D := D) (ci := 8) (C := R_M) (T := T_M) (N := 39) hx hb hts (fun w h => kT w (i_M w h)) hown hK hP 0 rfl rfl 25 (by decide) (hts _ (kT _ wd_2dbf250b)) (fun _ h9 => h9) rfl d_M_value_72 ?_
            refine lv_aload_n hx hb d_M_value_75 rfl (lv_at hl 4 rfl) ?_
            refine va_get (D := D) (ci := 8) (C := R_M) (T := T_M) (N := 39) hx hb hts (fun w h => kT w (i_M w h)) hown hK hP 0 rfl rfl 30 (by decide) (hts _ (kT _ wd_cd6c8e1d)) (fun _ h9 => h9) rfl d_M_value_76 ?_
            refine lv_iload_n hx hb d_M_value_79 rfl (lv_at hl 2 rfl) ?_
            refine lv_iadd hx hb d_M_value_80 ?_
            refine lv_eqi (nI_add _ _) ?_
            refine lv_iload hx hb d_M_value_81 (lv_at hl 0 rfl) ?_
            refine lv_iadd hx hb d_M_value_83 ?_
            refine lv_eqi (nI_add _ _) ?_
            refine n_iald hx hb hK hP 19 18 rfl rfl (i := ((adr + (ofF dByt dLen adr (cN x))) + ((kWd (sKind (tab * 6 + cN x)) - nn) - 1))) (by omega) (by decide) d_M_value_84 ?_
            refine lv_i2l hx hb d_M_value_85 rfl ?_
            refine lv_ladd hx hb d_M_value_86 ?_
            refine lv_lstore (lv' := [(4, .long (((lN (leN dByt dLen (nI (adr + ofF dByt dLen adr (cN x) + (kWd (sKind (tab * 6 + cN x)) - nn))) nn)) * (256 : Int64)) + ((nI (dByt ((adr + (ofF dByt dLen adr (cN x))) + ((kWd (sKind (tab * 6 + cN x)) - nn) - 1)))).toInt64))), (6, .int (nI ((kWd (sKind (tab * 6 + cN x)) - nn) - 1))), (3, .int (nI (ofF dByt dLen adr (cN x)))), (2, .int (nI ((tab * 6) + (cN x)))), (0, .ref (am 0)), (1, .int (nI (cN x)))]) hx hb d_M_value_87 hl (by decide) rfl (fun ls hl => ?_)
            refine lv_iinc (v := (nI ((kWd (sKind (tab * 6 + cN x)) - nn) - 1)) + (-1)) (lv' := [(6, .int ((nI ((kWd (sKind (tab * 6 + cN x)) - nn) - 1)) + (-1))), (4, .long (((lN (leN dByt dLen (nI (adr + ofF dByt dLen adr (cN x) + (kWd (sKind (tab * 6 + cN x)) - nn))) nn)) * (256 : Int64)) + ((nI (dByt ((adr + (ofF dByt dLen adr (cN x))) + ((kWd (sKind (tab * 6 + cN x)) - nn) - 1)))).toInt64))), (3, .int (nI (ofF dByt dLen adr (cN x)))), (2, .int (nI ((tab * 6) + (cN x)))), (0, .ref (am 0)), (1, .int (nI (cN x)))]) hx hb d_M_value_89 hl (k := 1) rfl rfl (by decide) rfl (fun ls hl => ?_)
            refine lv_goto (tgt := 60) hx hb d_M_value_92 (by decide) ?_
            have e_6 : (nI ((kWd (sKind (tab * 6 + cN x)) - nn) - 1)) + (-1) = nI (kWd (sKind (tab * 6 + cN x)) - (nn + 1)) - 1 := by rw [dn_step]; exact congrArg (· - 1) (nI_congr (by omega))
            have hl : lv_has ls 7 [(6, .int (nI (kWd (sKind (tab * 6 + cN x)) - (nn + 1)) - 1)), (4, .long (((lN (leN dByt dLen (nI (adr + ofF dByt dLen adr (cN x) + (kWd (sKind (tab * 6 + cN x)) - nn))) nn)) * (256 : Int64)) + ((nI (dByt ((adr + (ofF dByt dLen adr (cN x))) + ((kWd (sKind (tab * 6 + cN x)) - nn) - 1)))).toInt64))), (3, .int (nI (ofF dByt dLen adr (cN x)))), (2, .int (nI ((tab * 6) + (cN x)))), (0, .ref (am 0)), (1, .int (nI (cN x)))] := by rw [← e_6]; exact hl
            have e_4 : ((lN (leN dByt dLen (nI (adr + ofF dByt dLen adr (cN x) + (kWd (sKind (tab * 6 + cN x)) - nn))) nn)) * (256 : Int64)) + ((nI (dByt ((adr + (ofF dByt dLen adr (cN x))) + ((kWd (sKind (tab * 6 + cN x)) - nn) - 1)))).toInt64) = lN (leN dByt dLen (nI (adr + ofF dByt dLen adr (cN x) + (kWd (sKind (tab * 6 + cN x)) - (nn + 1)))) (nn + 1)) := by rw [show adr + ofF dByt dLen adr (cN x) + (kWd (sKind (tab * 6 + cN x)) - (nn + 1)) = adr + ofF dByt dLen adr (cN x) + (kWd (sKind (tab * 6 + cN x)) - nn - 1) by omega, leN_c, bAt_in (by omega) (by omega), show adr + ofF dByt dLen adr (cN x) + (kWd (sKind (tab * 6 + cN x)) - nn - 1) + 1 = adr + ofF dByt dLen adr (cN x) + (kWd (sKind (tab * 6 + cN x)) - nn) by omega, ← lN_ma]; exact congrArg (_ + ·) (nI_l (by have := hB (adr + ofF dByt dLen adr (cN x) + (kWd (sKind (tab * 6 + cN x)) - nn - 1)); omega))
            have hl : lv_has ls 7 [(6, .int (nI (kWd (sKind (tab * 6 + cN x)) - (nn + 1)) - 1)), (4, .long (lN (leN dByt dLen (nI (adr + ofF dByt dLen adr (cN x) + (kWd (sKind (tab * 6 + cN x)) - (nn + 1)))) (nn + 1)))), (3, .int (nI (ofF dByt dLen adr (cN x)))), (2, .int (nI ((tab * 6) + (cN x)))), (0, .ref (am 0)), (1, .int (nI (cN x)))] := by rw [← e_4]; exact hl
            exact ih_60 (nn + 1) (by omega) (by omega) _ _ _ hP hD hS (lv_sub hl [0, 1, 2, 3, 4, 5] rfl)
      exact L_60 ((kWd (sKind (tab * 6 + cN x)) - 0) + 1) 0 (by omega) (by omega) _ _ _ hP hD hS (lv_sub hl [0, 1, 2, 3, 4, 5] rfl)
    · skip
      have c_33 := (z_eq (by omega)).mp c_33
      refine lv_aload_n hx hb d_M_value_36 rfl (lv_at hl 2 rfl) ?_
      refine va_get (D := D) (ci := 8) (C := R_M) (T := T_M) (N := 39) hx hb hts (fun w h => kT w (i_M w h)) hown hK hP 0 rfl rfl 3 (by decide) (hts _ (kT _ wd_74a62eb0)) (fun _ h9 => h9) rfl d_M_value_37 ?_
      refine lv_iload_n hx hb d_M_value_40 rfl (lv_at hl 1 rfl) ?_
      refine r_iald hx hb hK hP 3 2 rfl rfl (i := ((tab * 6) + (cN x))) (by omega) (by decide) d_M_value_41 ?_
      refine lv_i2l hx hb d_M_value_42 rfl ?_
      exact k_lret hx hb hr hlocks hK hP hD hS (trivial) (by rw [if_pos hcd, if_pos c_33]) (rfl) d_M_value_43
  · skip
    have c_7 := (bI_0).mp c_7
    have hcn : ¬ cdKd (cdCur ver sLen tab x) (sKind (tab * 6 + cN x)) 0 3 = 0 := of_decide_eq_false c_7
    refine lv_lconst (v := 0) hx hb d_M_value_10 (by decide) ?_
    exact k_lret hx hb hr hlocks hK hP hD hS (trivial) (by rw [if_neg hcn]) (rfl) d_M_value_11
set_option maxHeartbeats 4000000 in
set_option maxRecDepth 100000 in
theorem m_size (l : Launch) (D : va_G) (am : Nat → Nat) (gm : Nat → ClassId) (tw : Nat) (sLen sKind : Nat → Nat) (sExt : Nat → Int32) (sMust : Nat → Bool) (rTab : Nat → Nat) (rFil : Nat → Bool) (mNum : Nat → Int64) (rLen : Nat → Nat) (rItm : Nat → Int32) (made : Nat) (pItm : Nat → Int32) (held : Nat) (dByt : Nat → Nat) (dLen : Nat) (ver : Bool) (fAdr fTab adr tab : Nat) (lf : Int32) (mCode : Nat) (row : Nat → Nat) (mWr mWid : Nat) (mOv : Bool) (mPl mTh mSp mPile mNext mSh : Nat → Nat) (mShs : Nat) (mRea : Nat → Bool) (mWg : Int32) (mEn mDp : Nat) (mAt mTb mSt : Nat → Nat) (x : Int32) (rNum : Nat → Int64) (rLnk : Nat → Nat) (ht : tab < 4) (hL : ∀ t, sLen t ≤ 6) (hk : ∀ j, sKind j < 7) (hX : ∀ j, sKind j = 6 → okT (sExt j) = true) (hB : ∀ k, dByt k < 256) (hd : dLen ≤ 240) (hV : ver = true → VE (SR.mk sLen sKind sExt sMust rTab rFil rNum rLnk rLen rItm) dByt dLen adr tab) : kM l y_M_size b_M_size 2 (some .int) ({ frames := 5, cells := 0, slots := 0, locals := 109 }) D vwCl (WmT gm) tw [.ref (am 0), .int x] (Wm am gm sLen sKind sExt sMust rTab rFil mNum rLen rItm made pItm held dByt dLen ver fAdr fTab adr tab lf mCode row mWr mWid mOv mPl mTh mSp mPile mNext mSh mShs mRea mWg mEn mDp mAt mTb mSt) (some (.int (if cdKd (cdCur ver sLen tab x) (sKind (tab * 6 + cN x)) 4 5 = 0 then itF dByt dLen adr (cN x) else 0))) (Wm am gm sLen sKind sExt sMust rTab rFil mNum rLen rItm made pItm held dByt dLen ver fAdr fTab adr tab lf (cdKd (cdCur ver sLen tab x) (sKind (tab * 6 + cN x)) 4 5) row mWr mWid mOv mPl mTh mSp mPile mNext mSh mShs mRea mWg mEn mDp mAt mTb mSt) := by
  refine k_of (by decide) (Nat.le_of_ble_eq_true rfl) ?_
  intro p e s m below meth c A ls hx hb hr hlocks hml hts hown hin0 hA hP hK hD hS hZ hl
  have hl : lv_has ls 2 [(0, .ref (am 0)), (1, .int x)] := hl
  refine lv_aload_n hx hb d_M_size_0 rfl (lv_at hl 0 rfl) ?_
  refine lv_iload_n hx hb d_M_size_1 rfl (lv_at hl 1 rfl) ?_
  refine lv_iconst (v := nI 4) hx hb d_M_size_2 (by decide) ?_
  refine lv_iconst (v := nI 5) hx hb d_M_size_3 (by decide) ?_
  refine k_callV (m_open l D am gm tw sLen sKind sExt sMust rTab rFil mNum rLen rItm made pItm held dByt dLen ver fAdr fTab adr tab lf mCode row mWr mWid mOv mPl mTh mSp mPile mNext mSh mShs mRea mWg mEn mDp mAt mTb mSt x 4 5  ht hL (by decide) (by decide) hk) m_M_open wd_ccac33a8 0 8 rfl rfl rfl kT hx hb hml hown hts ⟨Nat.le_of_ble_eq_true rfl, Nat.le_of_ble_eq_true rfl⟩ ⟨Nat.le_of_ble_eq_true rfl, Nat.le_of_ble_eq_true rfl⟩ hK hP hD hS hA hZ hl.1 rfl rfl (Nat.le_of_ble_eq_true rfl) d_M_size_4 (fun H locs hP hD hS => ?_)
  have hP : va_P D vwCl (Wm am gm sLen sKind sExt sMust rTab rFil mNum rLen rItm made pItm held dByt dLen ver fAdr fTab adr tab lf (cdKd (cdCur ver sLen tab x) (sKind (tab * 6 + cN x)) 4 5) row mWr mWid mOv mPl mTh mSp mPile mNext mSh mShs mRea mWg mEn mDp mAt mTb mSt) H := hP
  have hD : va_D A (Wm am gm sLen sKind sExt sMust rTab rFil mNum rLen rItm made pItm held dByt dLen ver fAdr fTab adr tab lf (cdKd (cdCur ver sLen tab x) (sKind (tab * 6 + cN x)) 4 5) row mWr mWid mOv mPl mTh mSp mPile mNext mSh mShs mRea mWg mEn mDp mAt mTb mSt) := hD
  refine W.eq (g2 := F0 m 7 ls [.int (bI (cdO (cdKd (cdCur ver sLen tab x) (sKind (tab * 6 + cN x)) 4 5)))]) rfl ?_
  refine lv_if_ne (tgt := 12) hx hb d_M_size_7 (by decide) (fun c_7 => ?_) (fun c_7 => ?_)
  · skip
    have c_7 := mt (bI_0).mpr c_7
    have c_7 := eq_true_of_ne_false c_7
    have hcd : cdKd (cdCur ver sLen tab x) (sKind (tab * 6 + cN x)) 4 5 = 0 := of_decide_eq_true c_7
    have hcu := cdCur_0 (cdKd_0 hcd)
    have hve := hV hcu.1
    have hfr := (VE_fr hve).1
    have hL1 := hL tab
    have hfr1 := hfr.1
    have hofl : ofF dByt dLen adr (cN x) < 65536 := offF_lt hB
    obtain ⟨n_x, b_x⟩ := hasF_spec (by omega) hcu.2
    have hl : lv_has ls 2 [(0, .ref (am 0)), (1, .int (nI (cN x)))] := by rw [← n_x]; exact hl
    have hk1 : (sKind (tab * 6 + cN x)) < 7 := hk _
    have hkr2 : 4 ≤ (sKind (tab * 6 + cN x)) ∧ (sKind (tab * 6 + cN x)) ≤ 5 := by have h9 := hcd; rw [cdKd, if_pos (cdKd_0 hcd)] at h9; split at h9; assumption; cases h9
    refine lv_aload_n hx hb d_M_size_12 rfl (lv_at hl 0 rfl) ?_
    refine lv_aload_n hx hb d_M_size_13 rfl (lv_at hl 0 rfl) ?_
    refine va_get (D := D) (ci := 8) (C := R_M) (T := T_M) (N := 39) hx hb hts (fun w h => kT w (i_M w h)) hown hK hP 0 rfl rfl 30 (by decide) (hts _ (kT _ wd_cd6c8e1d)) (fun _ h9 => h9) rfl d_M_size_14 ?_
    refine lv_iload_n hx hb d_M_size_17 rfl (lv_at hl 1 rfl) ?_
    refine k_callV (m_offset l D am gm tw sLen sKind sExt sMust rTab rFil mNum rLen rItm made pItm held dByt dLen ver fAdr fTab adr tab lf (cdKd (cdCur ver sLen tab x) (sKind (tab * 6 + cN x)) 4 5) row mWr mWid mOv mPl mTh mSp mPile mNext mSh mShs mRea mWg mEn mDp mAt mTb mSt adr (cN x)  hfr (by omega) hB hd) m_M_offset wd_35e10521 0 8 rfl rfl rfl kT hx hb hml hown hts ⟨Nat.le_of_ble_eq_true rfl, Nat.le_of_ble_eq_true rfl⟩ ⟨Nat.le_of_ble_eq_true rfl, Nat.le_of_ble_eq_true rfl⟩ hK hP hD hS hA hZ hl.1 rfl rfl (Nat.le_of_ble_eq_true rfl) d_M_size_18 (fun H locs hP hD hS => ?_)
    have hP : va_P D vwCl (Wm am gm sLen sKind sExt sMust rTab rFil mNum rLen rItm made pItm held dByt dLen ver fAdr fTab adr tab lf (cdKd (cdCur ver sLen tab x) (sKind (tab * 6 + cN x)) 4 5) row mWr mWid mOv mPl mTh mSp mPile mNext mSh mShs mRea mWg mEn mDp mAt mTb mSt) H := hP
    have hD : va_D A (Wm am gm sLen sKind sExt sMust rTab rFil mNum rLen rItm made pItm held dByt dLen ver fAdr fTab adr tab lf (cdKd (cdCur ver sLen tab x) (sKind (tab * 6 + cN x)) 4 5) row mWr mWid mOv mPl mTh mSp mPile mNext mSh mShs mRea mWg mEn mDp mAt mTb mSt) := hD
    refine W.eq (g2 := F0 m 21 ls [.int (nI (ofF dByt dLen adr (cN x)))]) rfl ?_
    refine lv_if_ne (tgt := 28) hx hb d_M_size_21 (by decide) (fun c_21 => ?_) (fun c_21 => ?_)
    · skip
      have c_21 := mt (z_eq (by omega)).mpr c_21
      have hq : ¬ ofF dByt dLen adr (cN x) = 0 := c_21
      obtain ⟨hfb, hf6, hf45⟩ := VE_f hve b_x hq
      have hfb2 : adr + ofF dByt dLen adr (cN x) + kWd (sKind (tab * 6 + cN x)) ≤ dLen := hfb.2
      have hw4 : kWd (sKind (tab * 6 + cN x)) = 4 := kWd_4 hk1 (by omega) (by omega) (by omega)
      have hsd : sdF dByt dLen (sKind (tab * 6 + cN x)) (tgF dByt dLen (adr + ofF dByt dLen adr (cN x))) = true := hf45 (show ¬ (sKind (tab * 6 + cN x)) = 6 by omega) (show ¬ (sKind (tab * 6 + cN x)) < 4 by omega)
      have hsd2 := of_decide_eq_true hsd
      refine lv_aload_n hx hb d_M_size_28 rfl (lv_at hl 0 rfl) ?_
      refine lv_aload_n hx hb d_M_size_29 rfl (lv_at hl 0 rfl) ?_
      refine lv_aload_n hx hb d_M_size_30 rfl (lv_at hl 0 rfl) ?_
      refine va_get (D := D) (ci := 8) (C := R_M) (T := T_M) (N := 39) hx hb hts (fun w h => kT w (i_M w h)) hown hK hP 0 rfl rfl 30 (by decide) (hts _ (kT _ wd_cd6c8e1d)) (fun _ h9 => h9) rfl d_M_size_31 ?_
      refine lv_iload_n hx hb d_M_size_34 rfl (lv_at hl 1 rfl) ?_
      refine k_callV (m_target l D am gm tw sLen sKind sExt sMust rTab rFil mNum rLen rItm made pItm held dByt dLen ver fAdr fTab adr tab lf (cdKd (cdCur ver sLen tab x) (sKind (tab * 6 + cN x)) 4 5) row mWr mWid mOv mPl mTh mSp mPile mNext mSh mShs mRea mWg mEn mDp mAt mTb mSt adr (cN x)  hfr (by omega) (by omega) hB hd) m_M_target wd_e90247da 0 8 rfl rfl rfl kT hx hb hml hown hts ⟨Nat.le_of_ble_eq_true rfl, Nat.le_of_ble_eq_true rfl⟩ ⟨Nat.le_of_ble_eq_true rfl, Nat.le_of_ble_eq_true rfl⟩ hK hP hD hS hA hZ hl.1 rfl rfl (Nat.le_of_ble_eq_true rfl) d_M_size_35 (fun H locs hP hD hS => ?_)
      have hP : va_P D vwCl (Wm am gm sLen sKind sExt sMust rTab rFil mNum rLen rItm made pItm held dByt dLen ver fAdr fTab adr tab lf (cdKd (cdCur ver sLen tab x) (sKind (tab * 6 + cN x)) 4 5) row mWr mWid mOv mPl mTh mSp mPile mNext mSh mShs mRea mWg mEn mDp mAt mTb mSt) H := hP
      have hD : va_D A (Wm am gm sLen sKind sExt sMust rTab rFil mNum rLen rItm made pItm held dByt dLen ver fAdr fTab adr tab lf (cdKd (cdCur ver sLen tab x) (sKind (tab * 6 + cN x)) 4 5) row mWr mWid mOv mPl mTh mSp mPile mNext mSh mShs mRea mWg mEn mDp mAt mTb mSt) := hD
      refine W.eq (g2 := F0 m 38 ls [.int (nI (tgF dByt dLen (adr + ofF dByt dLen adr (cN x)))), .ref (am 0)]) rfl ?_
      refine k_callV (m_offset4 l D am gm tw sLen sKind sExt sMust rTab rFil mNum rLen rItm made pItm held dByt dLen ver fAdr fTab adr tab lf (cdKd (cdCur ver sLen tab x) (sKind (tab * 6 + cN x)) 4 5) row mWr mWid mOv mPl mTh mSp mPile mNext mSh mShs mRea mWg mEn mDp mAt mTb mSt (tgF dByt dLen (adr + ofF dByt dLen adr (cN x)))  hsd2.2.1 hB hd) m_M_offset4 wd_fe38dba4 0 8 rfl rfl rfl kT hx hb hml hown hts ⟨Nat.le_of_ble_eq_true rfl, Nat.le_of_ble_eq_true rfl⟩ ⟨Nat.le_of_ble_eq_true rfl, Nat.le_of_ble_eq_true rfl⟩ hK hP hD hS hA hZ hl.1 rfl rfl (Nat.le_of_ble_eq_true rfl) d_M_size_38 (fun H locs hP hD hS => ?_)
      have hP : va_P D vwCl (Wm am gm sLen sKind sExt sMust rTab rFil mNum rLen rItm made pItm held dByt dLen ver fAdr fTab adr tab lf (cdKd (cdCur ver sLen tab x) (sKind (tab * 6 + cN x)) 4 5) row mWr mWid mOv mPl mTh mSp mPile mNext mSh mShs mRea mWg mEn mDp mAt mTb mSt) H := hP
      have hD : va_D A (Wm am gm sLen sKind sExt sMust rTab rFil mNum rLen rItm made pItm held dByt dLen ver fAdr fTab adr tab lf (cdKd (cdCur ver sLen tab x) (sKind (tab * 6 + cN x)) 4 5) row mWr mWid mOv mPl mTh mSp mPile mNext mSh mShs mRea mWg mEn mDp mAt mTb mSt) := hD
      refine W.eq (g2 := F0 m 41 ls [.int (nI (min (leN dByt dLen (nI (tgF dByt dLen (adr + ofF dByt dLen adr (cN x)))) 4) 100000))]) rfl ?_
      exact k_iret hx hb hr hlocks hK hP hD hS (trivial) (by rw [if_pos hcd, itF, if_neg hq]) (rfl) d_M_size_41
    · skip
      have c_21 := (z_eq (by omega)).mp c_21
      refine lv_iconst (v := -1) hx hb d_M_size_24 (by decide) ?_
      refine lv_goto (tgt := 41) hx hb d_M_size_25 (by decide) ?_
      exact k_iret hx hb hr hlocks hK hP hD hS (trivial) (by rw [if_pos hcd, itF, if_pos c_21]) (rfl) d_M_size_41
  · skip
    have c_7 := (bI_0).mp c_7
    have hcn : ¬ cdKd (cdCur ver sLen tab x) (sKind (tab * 6 + cN x)) 4 5 = 0 := of_decide_eq_false c_7
    refine lv_iconst (v := nI 0) hx hb d_M_size_10 (by decide) ?_
    exact k_iret hx hb hr hlocks hK hP hD hS (trivial) (by rw [if_neg hcn]; rfl) (rfl) d_M_size_11
set_option maxHeartbeats 4000000 in
set_option maxRecDepth 100000 in
theorem m_element (l : Launch) (D : va_G) (am : Nat → Nat) (gm : Nat → ClassId) (tw : Nat) (sLen sKind : Nat → Nat) (sExt : Nat → Int32) (sMust : Nat → Bool) (rTab : Nat → Nat) (rFil : Nat → Bool) (mNum : Nat → Int64) (rLen : Nat → Nat) (rItm : Nat → Int32) (made : Nat) (pItm : Nat → Int32) (held : Nat) (dByt : Nat → Nat) (dLen : Nat) (ver : Bool) (fAdr fTab adr tab : Nat) (lf : Int32) (mCode : Nat) (row : Nat → Nat) (mWr mWid : Nat) (mOv : Bool) (mPl mTh mSp mPile mNext mSh : Nat → Nat) (mShs : Nat) (mRea : Nat → Bool) (mWg : Int32) (mEn mDp : Nat) (mAt mTb mSt : Nat → Nat) (x : Int32) (y : Int32) (rNum : Nat → Int64) (rLnk : Nat → Nat) (ht : tab < 4) (hL : ∀ t, sLen t ≤ 6) (hk : ∀ j, sKind j < 7) (hX : ∀ j, sKind j = 6 → okT (sExt j) = true) (hB : ∀ k, dByt k < 256) (hd : dLen ≤ 240) (hV : ver = true → VE (SR.mk sLen sKind sExt sMust rTab rFil rNum rLnk rLen rItm) dByt dLen adr tab) : kM l y_M_element b_M_element 5 (some .int) ({ frames := 5, cells := 0, slots := 0, locals := 109 }) D vwCl (WmT gm) tw [.ref (am 0), .int x, .int y] (Wm am gm sLen sKind sExt sMust rTab rFil mNum rLen rItm made pItm held dByt dLen ver fAdr fTab adr tab lf mCode row mWr mWid mOv mPl mTh mSp mPile mNext mSh mShs mRea mWg mEn mDp mAt mTb mSt) (some (.int (if cdEl (cdKd (cdCur ver sLen tab x) (sKind (tab * 6 + cN x)) 4 5) (itF dByt dLen adr (cN x)) y = 0 then if (sKind (tab * 6 + cN x)) = 4 then nI (leN dByt dLen (nI (tgF dByt dLen (adr + ofF dByt dLen adr (cN x)) + 4 + cN y)) 1) else (sxL 2 (leN dByt dLen (nI (tgF dByt dLen (adr + ofF dByt dLen adr (cN x)) + 4 + 2 * cN y)) 2)).toInt32 else 0))) (Wm am gm sLen sKind sExt sMust rTab rFil mNum rLen rItm made pItm held dByt dLen ver fAdr fTab adr tab lf (cdEl (cdKd (cdCur ver sLen tab x) (sKind (tab * 6 + cN x)) 4 5) (itF dByt dLen adr (cN x)) y) row mWr mWid mOv mPl mTh mSp mPile mNext mSh mShs mRea mWg mEn mDp mAt mTb mSt) := by
  refine k_of (by decide) (Nat.le_of_ble_eq_true rfl) ?_
  intro p e s m below meth c A ls hx hb hr hlocks hml hts hown hin0 hA hP hK hD hS hZ hl
  have hl : lv_has ls 5 [(0, .ref (am 0)), (1, .int x), (2, .int y)] := hl
  refine lv_aload_n hx hb d_M_element_0 rfl (lv_at hl 0 rfl) ?_
  refine lv_iload_n hx hb d_M_element_1 rfl (lv_at hl 1 rfl) ?_
  refine lv_iconst (v := nI 4) hx hb d_M_element_2 (by decide) ?_
  refine lv_iconst (v := nI 5) hx hb d_M_element_3 (by decide) ?_
  refine k_callV (m_open l D am gm tw sLen sKind sExt sMust rTab rFil mNum rLen rItm made pItm held dByt dLen ver fAdr fTab adr tab lf mCode row mWr mWid mOv mPl mTh mSp mPile mNext mSh mShs mRea mWg mEn mDp mAt mTb mSt x 4 5  ht hL (by decide) (by decide) hk) m_M_open wd_ccac33a8 0 8 rfl rfl rfl kT hx hb hml hown hts ⟨Nat.le_of_ble_eq_true rfl, Nat.le_of_ble_eq_true rfl⟩ ⟨Nat.le_of_ble_eq_true rfl, Nat.le_of_ble_eq_true rfl⟩ hK hP hD hS hA hZ hl.1 rfl rfl (Nat.le_of_ble_eq_true rfl) d_M_element_4 (fun H locs hP hD hS => ?_)
  have hP : va_P D vwCl (Wm am gm sLen sKind sExt sMust rTab rFil mNum rLen rItm made pItm held dByt dLen ver fAdr fTab adr tab lf (cdKd (cdCur ver sLen tab x) (sKind (tab * 6 + cN x)) 4 5) row mWr mWid mOv mPl mTh mSp mPile mNext mSh mShs mRea mWg mEn mDp mAt mTb mSt) H := hP
  have hD : va_D A (Wm am gm sLen sKind sExt sMust rTab rFil mNum rLen rItm made pItm held dByt dLen ver fAdr fTab adr tab lf (cdKd (cdCur ver sLen tab x) (sKind (tab * 6 + cN x)) 4 5) row mWr mWid mOv mPl mTh mSp mPile mNext mSh mShs mRea mWg mEn mDp mAt mTb mSt) := hD
  refine W.eq (g2 := F0 m 7 ls [.int (bI (cdO (cdKd (cdCur ver sLen tab x) (sKind (tab * 6 + cN x)) 4 5)))]) rfl ?_
  refine lv_if_ne (tgt := 12) hx hb d_M_element_7 (by decide) (fun c_7 => ?_) (fun c_7 => ?_)
  · skip
    have c_7 := mt (bI_0).mpr c_7
    have c_7 := eq_true_of_ne_false c_7
    have hcd : cdKd (cdCur ver sLen tab x) (sKind (tab * 6 + cN x)) 4 5 = 0 := of_decide_eq_true c_7
    have hcu := cdCur_0 (cdKd_0 hcd)
    have hve := hV hcu.1
    have hfr := (VE_fr hve).1
    have hL1 := hL tab
    have hfr1 := hfr.1
    have hofl : ofF dByt dLen adr (cN x) < 65536 := offF_lt hB
    obtain ⟨n_x, b_x⟩ := hasF_spec (by omega) hcu.2
    have hl : lv_has ls 5 [(0, .ref (am 0)), (1, .int (nI (cN x))), (2, .int y)] := by rw [← n_x]; exact hl
    have hk1 : (sKind (tab * 6 + cN x)) < 7 := hk _
    have hkr2 : 4 ≤ (sKind (tab * 6 + cN x)) ∧ (sKind (tab * 6 + cN x)) ≤ 5 := by have h9 := hcd; rw [cdKd, if_pos (cdKd_0 hcd)] at h9; split at h9; assumption; cases h9
    refine lv_aload_n hx hb d_M_element_12 rfl (lv_at hl 0 rfl) ?_
    refine lv_aload_n hx hb d_M_element_13 rfl (lv_at hl 0 rfl) ?_
    refine va_get (D := D) (ci := 8) (C := R_M) (T := T_M) (N := 39) hx hb hts (fun w h => kT w (i_M w h)) hown hK hP 0 rfl rfl 30 (by decide) (hts _ (kT _ wd_cd6c8e1d)) (fun _ h9 => h9) rfl d_M_element_14 ?_
    refine lv_iload_n hx hb d_M_element_17 rfl (lv_at hl 1 rfl) ?_
    refine k_callV (m_offset l D am gm tw sLen sKind sExt sMust rTab rFil mNum rLen rItm made pItm held dByt dLen ver fAdr fTab adr tab lf (cdKd (cdCur ver sLen tab x) (sKind (tab * 6 + cN x)) 4 5) row mWr mWid mOv mPl mTh mSp mPile mNext mSh mShs mRea mWg mEn mDp mAt mTb mSt adr (cN x)  hfr (by omega) hB hd) m_M_offset wd_35e10521 0 8 rfl rfl rfl kT hx hb hml hown hts ⟨Nat.le_of_ble_eq_true rfl, Nat.le_of_ble_eq_true rfl⟩ ⟨Nat.le_of_ble_eq_true rfl, Nat.le_of_ble_eq_true rfl⟩ hK hP hD hS hA hZ hl.1 rfl rfl (Nat.le_of_ble_eq_true rfl) d_M_element_18 (fun H locs hP hD hS => ?_)
    have hP : va_P D vwCl (Wm am gm sLen sKind sExt sMust rTab rFil mNum rLen rItm made pItm held dByt dLen ver fAdr fTab adr tab lf (cdKd (cdCur ver sLen tab x) (sKind (tab * 6 + cN x)) 4 5) row mWr mWid mOv mPl mTh mSp mPile mNext mSh mShs mRea mWg mEn mDp mAt mTb mSt) H := hP
    have hD : va_D A (Wm am gm sLen sKind sExt sMust rTab rFil mNum rLen rItm made pItm held dByt dLen ver fAdr fTab adr tab lf (cdKd (cdCur ver sLen tab x) (sKind (tab * 6 + cN x)) 4 5) row mWr mWid mOv mPl mTh mSp mPile mNext mSh mShs mRea mWg mEn mDp mAt mTb mSt) := hD
    refine W.eq (g2 := F0 m 21 ls [.int (nI (ofF dByt dLen adr (cN x)))]) rfl ?_
    refine lv_if_ne (tgt := 28) hx hb d_M_element_21 (by decide) (fun c_21 => ?_) (fun c_21 => ?_)
    · skip
      have c_21 := mt (z_eq (by omega)).mpr c_21
      have hq : ¬ ofF dByt dLen adr (cN x) = 0 := c_21
      obtain ⟨hfb, hf6, hf45⟩ := VE_f hve b_x hq
      have hfb2 : adr + ofF dByt dLen adr (cN x) + kWd (sKind (tab * 6 + cN x)) ≤ dLen := hfb.2
      have hw4 : kWd (sKind (tab * 6 + cN x)) = 4 := kWd_4 hk1 (by omega) (by omega) (by omega)
      have hsd : sdF dByt dLen (sKind (tab * 6 + cN x)) (tgF dByt dLen (adr + ofF dByt dLen adr (cN x))) = true := hf45 (show ¬ (sKind (tab * 6 + cN x)) = 6 by omega) (show ¬ (sKind (tab * 6 + cN x)) < 4 by omega)
      have hsd2 := of_decide_eq_true hsd
      refine lv_aload_n hx hb d_M_element_28 rfl (lv_at hl 0 rfl) ?_
      refine lv_aload_n hx hb d_M_element_29 rfl (lv_at hl 0 rfl) ?_
      refine lv_aload_n hx hb d_M_element_30 rfl (lv_at hl 0 rfl) ?_
      refine va_get (D := D) (ci := 8) (C := R_M) (T := T_M) (N := 39) hx hb hts (fun w h => kT w (i_M w h)) hown hK hP 0 rfl rfl 30 (by decide) (hts _ (kT _ wd_cd6c8e1d)) (fun _ h9 => h9) rfl d_M_element_31 ?_
      refine lv_iload_n hx hb d_M_element_34 rfl (lv_at hl 1 rfl) ?_
      refine k_callV (m_target l D am gm tw sLen sKind sExt sMust rTab rFil mNum rLen rItm made pItm held dByt dLen ver fAdr fTab adr tab lf (cdKd (cdCur ver sLen tab x) (sKind (tab * 6 + cN x)) 4 5) row mWr mWid mOv mPl mTh mSp mPile mNext mSh mShs mRea mWg mEn mDp mAt mTb mSt adr (cN x)  hfr (by omega) (by omega) hB hd) m_M_target wd_e90247da 0 8 rfl rfl rfl kT hx hb hml hown hts ⟨Nat.le_of_ble_eq_true rfl, Nat.le_of_ble_eq_true rfl⟩ ⟨Nat.le_of_ble_eq_true rfl, Nat.le_of_ble_eq_true rfl⟩ hK hP hD hS hA hZ hl.1 rfl rfl (Nat.le_of_ble_eq_true rfl) d_M_element_35 (fun H locs hP hD hS => ?_)
      have hP : va_P D vwCl (Wm am gm sLen sKind sExt sMust rTab rFil mNum rLen rItm made pItm held dByt dLen ver fAdr fTab adr tab lf (cdKd (cdCur ver sLen tab x) (sKind (tab * 6 + cN x)) 4 5) row mWr mWid mOv mPl mTh mSp mPile mNext mSh mShs mRea mWg mEn mDp mAt mTb mSt) H := hP
      have hD : va_D A (Wm am gm sLen sKind sExt sMust rTab rFil mNum rLen rItm made pItm held dByt dLen ver fAdr fTab adr tab lf (cdKd (cdCur ver sLen tab x) (sKind (tab * 6 + cN x)) 4 5) row mWr mWid mOv mPl mTh mSp mPile mNext mSh mShs mRea mWg mEn mDp mAt mTb mSt) := hD
      refine W.eq (g2 := F0 m 38 ls [.int (nI (tgF dByt dLen (adr + ofF dByt dLen adr (cN x)))), .ref (am 0)]) rfl ?_
      refine k_callV (m_offset4 l D am gm tw sLen sKind sExt sMust rTab rFil mNum rLen rItm made pItm held dByt dLen ver fAdr fTab adr tab lf (cdKd (cdCur ver sLen tab x) (sKind (tab * 6 + cN x)) 4 5) row mWr mWid mOv mPl mTh mSp mPile mNext mSh mShs mRea mWg mEn mDp mAt mTb mSt (tgF dByt dLen (adr + ofF dByt dLen adr (cN x)))  hsd2.2.1 hB hd) m_M_offset4 wd_fe38dba4 0 8 rfl rfl rfl kT hx hb hml hown hts ⟨Nat.le_of_ble_eq_true rfl, Nat.le_of_ble_eq_true rfl⟩ ⟨Nat.le_of_ble_eq_true rfl, Nat.le_of_ble_eq_true rfl⟩ hK hP hD hS hA hZ hl.1 rfl rfl (Nat.le_of_ble_eq_true rfl) d_M_element_38 (fun H locs hP hD hS => ?_)
      have hP : va_P D vwCl (Wm am gm sLen sKind sExt sMust rTab rFil mNum rLen rItm made pItm held dByt dLen ver fAdr fTab adr tab lf (cdKd (cdCur ver sLen tab x) (sKind (tab * 6 + cN x)) 4 5) row mWr mWid mOv mPl mTh mSp mPile mNext mSh mShs mRea mWg mEn mDp mAt mTb mSt) H := hP
      have hD : va_D A (Wm am gm sLen sKind sExt sMust rTab rFil mNum rLen rItm made pItm held dByt dLen ver fAdr fTab adr tab lf (cdKd (cdCur ver sLen tab x) (sKind (tab * 6 + cN x)) 4 5) row mWr mWid mOv mPl mTh mSp mPile mNext mSh mShs mRea mWg mEn mDp mAt mTb mSt) := hD
      refine W.eq (g2 := F0 m 41 ls [.int (nI (min (leN dByt dLen (nI (tgF dByt dLen (adr + ofF dByt dLen adr (cN x)))) 4) 100000))]) rfl ?_
      refine lv_istore_n (lv' := [(3, .int (nI (min (leN dByt dLen (nI (tgF dByt dLen (adr + ofF dByt dLen adr (cN x)))) 4) 100000))), (0, .ref (am 0)), (1, .int (nI (cN x))), (2, .int y)]) hx hb d_M_element_41 rfl hl (by decide) rfl (fun ls hl => ?_)
      refine lv_iload_n hx hb d_M_element_42 rfl (lv_at hl 3 rfl) ?_
      refine lv_iload_n hx hb d_M_element_43 rfl (lv_at hl 0 rfl) ?_
      refine lv_iconst (v := nI 1) hx hb d_M_element_44 (by decide) ?_
      refine lv_isub hx hb d_M_element_45 ?_
      refine k_callS (m_out l D am gm tw sLen sKind sExt sMust rTab rFil mNum rLen rItm made pItm held dByt dLen ver fAdr fTab adr tab lf (cdKd (cdCur ver sLen tab x) (sKind (tab * 6 + cN x)) 4 5) row mWr mWid mOv mPl mTh mSp mPile mNext mSh mShs mRea mWg mEn mDp mAt mTb mSt y ((nI (min (leN dByt dLen (nI (tgF dByt dLen (adr + ofF dByt dLen adr (cN x)))) 4) 100000)) - (nI 1))  ) m_M_out wd_0c68f9ea kT hx hb hml hown hts ⟨Nat.le_of_ble_eq_true rfl, Nat.le_of_ble_eq_true rfl⟩ ⟨Nat.le_of_ble_eq_true rfl, Nat.le_of_ble_eq_true rfl⟩ hK hP hD hS hA hZ hl.1 rfl rfl (Nat.le_of_ble_eq_true rfl) d_M_element_46 (fun H locs hP hD hS => ?_)
      have hP : va_P D vwCl (Wm am gm sLen sKind sExt sMust rTab rFil mNum rLen rItm made pItm held dByt dLen ver fAdr fTab adr tab lf (cdKd (cdCur ver sLen tab x) (sKind (tab * 6 + cN x)) 4 5) row mWr mWid mOv mPl mTh mSp mPile mNext mSh mShs mRea mWg mEn mDp mAt mTb mSt) H := hP
      have hD : va_D A (Wm am gm sLen sKind sExt sMust rTab rFil mNum rLen rItm made pItm held dByt dLen ver fAdr fTab adr tab lf (cdKd (cdCur ver sLen tab x) (sKind (tab * 6 + cN x)) 4 5) row mWr mWid mOv mPl mTh mSp mPile mNext mSh mShs mRea mWg mEn mDp mAt mTb mSt) := hD
      refine W.eq (g2 := F0 m 49 ls [.int (bI (outB y ((nI (min (leN dByt dLen (nI (tgF dByt dLen (adr + ofF dByt dLen adr (cN x)))) 4) 100000)) - (nI 1))))]) rfl ?_
      refine lv_if_eq (tgt := 58) hx hb d_M_element_49 (by decide) (fun c_49 => ?_) (fun c_49 => ?_)
      · skip
        have c_49 := (bI_0).mp c_49
        have hcnt : cdEl (cdKd (cdCur ver sLen tab x) (sKind (tab * 6 + cN x)) 4 5) (itF dByt dLen adr (cN x)) y = 0 := cdEl_0 hcd (by rw [itF_y hq]; exact hasF_lt (out_y (min_31 _) c_49))
        obtain ⟨n_y, b_y⟩ := hasF_spec (min_31 _) (out_y (min_31 _) c_49)
        have hl : lv_has ls 5 [(3, .int (nI (min (leN dByt dLen (nI (tgF dByt dLen (adr + ofF dByt dLen adr (cN x)))) 4) 100000))), (0, .ref (am 0)), (1, .int (nI (cN x))), (2, .int (nI (cN y)))] := by rw [← n_y]; exact hl
        refine lv_aload_n hx hb d_M_element_58 rfl (lv_at hl 1 rfl) ?_
        refine lv_aload_n hx hb d_M_element_59 rfl (lv_at hl 1 rfl) ?_
        refine va_get (D := D) (ci := 8) (C := R_M) (T := T_M) (N := 39) hx hb hts (fun w h => kT w (i_M w h)) hown hK hP 0 rfl rfl 30 (by decide) (hts _ (kT _ wd_cd6c8e1d)) (fun _ h9 => h9) rfl d_M_element_60 ?_
        refine lv_iload_n hx hb d_M_element_63 rfl (lv_at hl 2 rfl) ?_
        refine k_callV (m_target l D am gm tw sLen sKind sExt sMust rTab rFil mNum rLen rItm made pItm held dByt dLen ver fAdr fTab adr tab lf (cdKd (cdCur ver sLen tab x) (sKind (tab * 6 + cN x)) 4 5) row mWr mWid mOv mPl mTh mSp mPile mNext mSh mShs mRea mWg mEn mDp mAt mTb mSt adr (cN x)  hfr (by omega) (by omega) hB hd) m_M_target wd_e90247da 0 8 rfl rfl rfl kT hx hb hml hown hts ⟨Nat.le_of_ble_eq_true rfl, Nat.le_of_ble_eq_true rfl⟩ ⟨Nat.le_of_ble_eq_true rfl, Nat.le_of_ble_eq_true rfl⟩ hK hP hD hS hA hZ hl.1 rfl rfl (Nat.le_of_ble_eq_true rfl) d_M_element_64 (fun H locs hP hD hS => ?_)
        have hP : va_P D vwCl (Wm am gm sLen sKind sExt sMust rTab rFil mNum rLen rItm made pItm held dByt dLen ver fAdr fTab adr tab lf (cdKd (cdCur ver sLen tab x) (sKind (tab * 6 + cN x)) 4 5) row mWr mWid mOv mPl mTh mSp mPile mNext mSh mShs mRea mWg mEn mDp mAt mTb mSt) H := hP
        have hD : va_D A (Wm am gm sLen sKind sExt sMust rTab rFil mNum rLen rItm made pItm held dByt dLen ver fAdr fTab adr tab lf (cdKd (cdCur ver sLen tab x) (sKind (tab * 6 + cN x)) 4 5) row mWr mWid mOv mPl mTh mSp mPile mNext mSh mShs mRea mWg mEn mDp mAt mTb mSt) := hD
        refine W.eq (g2 := F0 m 67 ls [.int (nI (tgF dByt dLen (adr + ofF dByt dLen adr (cN x))))]) rfl ?_
        refine lv_iconst (v := nI 4) hx hb d_M_element_67 (by decide) ?_
        refine lv_iadd hx hb d_M_element_68 ?_
        refine lv_eqi (nI_add _ _) ?_
        refine lv_istore (lv' := [(4, .int (nI ((tgF dByt dLen (adr + ofF dByt dLen adr (cN x))) + 4))), (3, .int (nI (min (leN dByt dLen (nI (tgF dByt dLen (adr + ofF dByt dLen adr (cN x)))) 4) 100000))), (0, .ref (am 0)), (1, .int (nI (cN x))), (2, .int (nI (cN y)))]) hx hb d_M_element_69 hl (by decide) rfl (fun ls hl => ?_)
        refine lv_aload_n hx hb d_M_element_71 rfl (lv_at hl 2 rfl) ?_
        refine va_get (D := D) (ci := 8) (C := R_M) (T := T_M) (N := 39) hx hb hts (fun w h => kT w (i_M w h)) hown hK hP 0 rfl rfl 2 (by decide) (hts _ (kT _ wd_91f4763a)) (fun _ h9 => h9) rfl d_M_element_72 ?_
        refine lv_bipush (v := nI 6) hx hb d_M_element_75 (by decide) ?_
        refine lv_aload_n hx hb d_M_element_77 rfl (lv_at hl 2 rfl) ?_
        refine va_get (D := D) (ci := 8) (C := R_M) (T := T_M) (N := 39) hx hb hts (fun w h => kT w (i_M w h)) hown hK hP 0 rfl rfl 31 (by decide) (hts _ (kT _ wd_e5a19dfd)) (fun _ h9 => h9) rfl d_M_element_78 ?_
        refine lv_imul hx hb d_M_element_81 ?_
        refine lv_eqi ((pk_mul _ _).trans (nI_congr (Nat.mul_comm _ _))) ?_
        refine lv_iload_n hx hb d_M_element_82 rfl (lv_at hl 3 rfl) ?_
        refine lv_iadd hx hb d_M_element_83 ?_
        refine lv_eqi (nI_add _ _) ?_
        refine n_iald hx hb hK hP 2 1 rfl rfl (i := ((tab * 6) + (cN x))) (by omega) (by decide) d_M_element_84 ?_
        refine lv_iconst (v := nI 4) hx hb d_M_element_85 (by decide) ?_
        refine lv_icmp_ne (tgt := 101) hx hb d_M_element_86 (by decide) (fun c_86 => ?_) (fun c_86 => ?_)
        · skip
          have c_86 := mt (nI_eq (by omega) (by omega)).mpr c_86
          refine lv_aload_n hx hb d_M_element_101 rfl (lv_at hl 2 rfl) ?_
          refine lv_iload hx hb d_M_element_102 (lv_at hl 0 rfl) ?_
          refine lv_iconst (v := nI 2) hx hb d_M_element_104 (by decide) ?_
          refine lv_iload_n hx hb d_M_element_105 rfl (lv_at hl 4 rfl) ?_
          refine lv_imul hx hb d_M_element_106 ?_
          refine lv_eqi (pk_mul _ _) ?_
          refine lv_iadd hx hb d_M_element_107 ?_
          refine lv_eqi (nI_add _ _) ?_
          refine k_callV (m_two l D am gm tw sLen sKind sExt sMust rTab rFil mNum rLen rItm made pItm held dByt dLen ver fAdr fTab adr tab lf (cdKd (cdCur ver sLen tab x) (sKind (tab * 6 + cN x)) 4 5) row mWr mWid mOv mPl mTh mSp mPile mNext mSh mShs mRea mWg mEn mDp mAt mTb mSt (((tgF dByt dLen (adr + ofF dByt dLen adr (cN x))) + 4) + (2 * (cN y)))  (sd_5 hsd (Nat.le_antisymm hkr2.2 (Nat.lt_of_le_of_ne hkr2.1 (Ne.symm c_86))) b_y) hB hd) m_M_two wd_f4633fa4 0 8 rfl rfl rfl kT hx hb hml hown hts ⟨Nat.le_of_ble_eq_true rfl, Nat.le_of_ble_eq_true rfl⟩ ⟨Nat.le_of_ble_eq_true rfl, Nat.le_of_ble_eq_true rfl⟩ hK hP hD hS hA hZ hl.1 rfl rfl (Nat.le_of_ble_eq_true rfl) d_M_element_108 (fun H locs hP hD hS => ?_)
          have hP : va_P D vwCl (Wm am gm sLen sKind sExt sMust rTab rFil mNum rLen rItm made pItm held dByt dLen ver fAdr fTab adr tab lf (cdKd (cdCur ver sLen tab x) (sKind (tab * 6 + cN x)) 4 5) row mWr mWid mOv mPl mTh mSp mPile mNext mSh mShs mRea mWg mEn mDp mAt mTb mSt) H := hP
          have hD : va_D A (Wm am gm sLen sKind sExt sMust rTab rFil mNum rLen rItm made pItm held dByt dLen ver fAdr fTab adr tab lf (cdKd (cdCur ver sLen tab x) (sKind (tab * 6 + cN x)) 4 5) row mWr mWid mOv mPl mTh mSp mPile mNext mSh mShs mRea mWg mEn mDp mAt mTb mSt) := hD
          refine W.eq (g2 := F0 m 111 ls [.int (nI (leN dByt dLen (nI (((tgF dByt dLen (adr + ofF dByt dLen adr (cN x))) + 4) + (2 * (cN y)))) 2))]) rfl ?_
          refine lv_i2s hx hb d_M_element_111 rfl ?_
          exact k_iret hx hb hr hlocks hK hP hD hS (trivial) (by rw [hcnt, if_pos rfl, if_neg c_86, sx_16 (leN_lt hB 2)]) (by rw [hcnt, hcd]) d_M_element_112
        · skip
          have c_86 := (nI_eq (by omega) (by omega)).mp c_86
          refine lv_aload_n hx hb d_M_element_89 rfl (lv_at hl 2 rfl) ?_
          refine va_get (D := D) (ci := 8) (C := R_M) (T := T_M) (N := 39) hx hb hts (fun w h => kT w (i_M w h)) hown hK hP 0 rfl rfl 25 (by decide) (hts _ (kT _ wd_2dbf250b)) (fun _ h9 => h9) rfl d_M_element_90 ?_
          refine lv_iload hx hb d_M_element_93 (lv_at hl 0 rfl) ?_
          refine lv_iload_n hx hb d_M_element_95 rfl (lv_at hl 4 rfl) ?_
          refine lv_iadd hx hb d_M_element_96 ?_
          refine lv_eqi (nI_add _ _) ?_
          refine n_iald hx hb hK hP 19 18 rfl rfl (i := (((tgF dByt dLen (adr + ofF dByt dLen adr (cN x))) + 4) + (cN y))) (Nat.lt_of_lt_of_le (sd_4 hsd (by rw [c_86]; decide) b_y) hd) (by decide) d_M_element_97 ?_
          refine lv_goto (tgt := 112) hx hb d_M_element_98 (by decide) ?_
          exact k_iret hx hb hr hlocks hK hP hD hS (trivial) (by rw [hcnt, if_pos rfl, if_pos c_86, le1 (hasF_in (sd_4 hsd (by rw [c_86]; decide) b_y) (Nat.lt_of_le_of_lt hd (by decide))), cN_nI (Nat.lt_of_lt_of_le (sd_4 hsd (by rw [c_86]; decide) b_y) (Nat.le_trans hd (by decide)))]) (by rw [hcnt, hcd]) d_M_element_112
      · skip
        have c_49 := mt (bI_0).mpr c_49
        have c_49 := eq_true_of_ne_false c_49
        have hce : cdEl (cdKd (cdCur ver sLen tab x) (sKind (tab * 6 + cN x)) 4 5) (itF dByt dLen adr (cN x)) y = 4 := cdEl_4 hcd (by rw [itF_y hq]; exact hasF_ge (out_n (min_31 _) c_49))
        refine lv_aload_n hx hb d_M_element_52 rfl (lv_at hl 1 rfl) ?_
        refine lv_iconst (v := nI 4) hx hb d_M_element_53 (by decide) ?_
        refine k_callV (m_raise l D am gm tw sLen sKind sExt sMust rTab rFil mNum rLen rItm made pItm held dByt dLen ver fAdr fTab adr tab lf (cdKd (cdCur ver sLen tab x) (sKind (tab * 6 + cN x)) 4 5) row mWr mWid mOv mPl mTh mSp mPile mNext mSh mShs mRea mWg mEn mDp mAt mTb mSt 4  ) m_M_raise wd_4b1468e4 0 8 rfl rfl rfl kT hx hb hml hown hts ⟨Nat.le_of_ble_eq_true rfl, Nat.le_of_ble_eq_true rfl⟩ ⟨Nat.le_of_ble_eq_true rfl, Nat.le_of_ble_eq_true rfl⟩ hK hP hD hS hA hZ hl.1 rfl rfl (Nat.le_of_ble_eq_true rfl) d_M_element_54 (fun H locs hP hD hS => ?_)
        have hP : va_P D vwCl (Wm am gm sLen sKind sExt sMust rTab rFil mNum rLen rItm made pItm held dByt dLen ver fAdr fTab adr tab lf 4 row mWr mWid mOv mPl mTh mSp mPile mNext mSh mShs mRea mWg mEn mDp mAt mTb mSt) H := hP
        have hD : va_D A (Wm am gm sLen sKind sExt sMust rTab rFil mNum rLen rItm made pItm held dByt dLen ver fAdr fTab adr tab lf 4 row mWr mWid mOv mPl mTh mSp mPile mNext mSh mShs mRea mWg mEn mDp mAt mTb mSt) := hD
        refine W.eq (g2 := F0 m 57 ls [.int (nI 0)]) rfl ?_
        exact k_iret hx hb hr hlocks hK hP hD hS (trivial) (by rw [hce]; rfl) (by rw [hce]) d_M_element_57
    · skip
      have c_21 := (z_eq (by omega)).mp c_21
      have hq0 : ofF dByt dLen adr (cN x) = 0 := c_21
      refine lv_iconst (v := nI 0) hx hb d_M_element_24 (by decide) ?_
      refine lv_goto (tgt := 41) hx hb d_M_element_25 (by decide) ?_
      refine lv_istore_n (lv' := [(3, .int (nI 0)), (0, .ref (am 0)), (1, .int (nI (cN x))), (2, .int y)]) hx hb d_M_element_41 rfl hl (by decide) rfl (fun ls hl => ?_)
      refine lv_iload_n hx hb d_M_element_42 rfl (lv_at hl 3 rfl) ?_
      refine lv_iload_n hx hb d_M_element_43 rfl (lv_at hl 0 rfl) ?_
      refine lv_iconst (v := nI 1) hx hb d_M_element_44 (by decide) ?_
      refine lv_isub hx hb d_M_element_45 ?_
      refine k_callS (m_out l D am gm tw sLen sKind sExt sMust rTab rFil mNum rLen rItm made pItm held dByt dLen ver fAdr fTab adr tab lf (cdKd (cdCur ver sLen tab x) (sKind (tab * 6 + cN x)) 4 5) row mWr mWid mOv mPl mTh mSp mPile mNext mSh mShs mRea mWg mEn mDp mAt mTb mSt y ((nI 0) - (nI 1))  ) m_M_out wd_0c68f9ea kT hx hb hml hown hts ⟨Nat.le_of_ble_eq_true rfl, Nat.le_of_ble_eq_true rfl⟩ ⟨Nat.le_of_ble_eq_true rfl, Nat.le_of_ble_eq_true rfl⟩ hK hP hD hS hA hZ hl.1 rfl rfl (Nat.le_of_ble_eq_true rfl) d_M_element_46 (fun H locs hP hD hS => ?_)
      have hP : va_P D vwCl (Wm am gm sLen sKind sExt sMust rTab rFil mNum rLen rItm made pItm held dByt dLen ver fAdr fTab adr tab lf (cdKd (cdCur ver sLen tab x) (sKind (tab * 6 + cN x)) 4 5) row mWr mWid mOv mPl mTh mSp mPile mNext mSh mShs mRea mWg mEn mDp mAt mTb mSt) H := hP
      have hD : va_D A (Wm am gm sLen sKind sExt sMust rTab rFil mNum rLen rItm made pItm held dByt dLen ver fAdr fTab adr tab lf (cdKd (cdCur ver sLen tab x) (sKind (tab * 6 + cN x)) 4 5) row mWr mWid mOv mPl mTh mSp mPile mNext mSh mShs mRea mWg mEn mDp mAt mTb mSt) := hD
      refine W.eq (g2 := F0 m 49 ls [.int (bI (outB y ((nI 0) - (nI 1))))]) rfl ?_
      refine lv_if_eq (tgt := 58) hx hb d_M_element_49 (by decide) (fun c_49 => ?_) (fun c_49 => ?_)
      · skip
        have c_49 := (bI_0).mp c_49
        exact absurd (out_y (n := 0) (by omega) c_49) (by rw [hasF0]; decide)
      · skip
        have c_49 := mt (bI_0).mpr c_49
        have c_49 := eq_true_of_ne_false c_49
        have hce : cdEl (cdKd (cdCur ver sLen tab x) (sKind (tab * 6 + cN x)) 4 5) (itF dByt dLen adr (cN x)) y = 4 := by rw [cdEl, if_pos hcd, itF, if_pos hq0, if_neg (fun z => z.1 (Int32.lt_trans z.2 (by decide)))]
        refine lv_aload_n hx hb d_M_element_52 rfl (lv_at hl 1 rfl) ?_
        refine lv_iconst (v := nI 4) hx hb d_M_element_53 (by decide) ?_
        refine k_callV (m_raise l D am gm tw sLen sKind sExt sMust rTab rFil mNum rLen rItm made pItm held dByt dLen ver fAdr fTab adr tab lf (cdKd (cdCur ver sLen tab x) (sKind (tab * 6 + cN x)) 4 5) row mWr mWid mOv mPl mTh mSp mPile mNext mSh mShs mRea mWg mEn mDp mAt mTb mSt 4  ) m_M_raise wd_4b1468e4 0 8 rfl rfl rfl kT hx hb hml hown hts ⟨Nat.le_of_ble_eq_true rfl, Nat.le_of_ble_eq_true rfl⟩ ⟨Nat.le_of_ble_eq_true rfl, Nat.le_of_ble_eq_true rfl⟩ hK hP hD hS hA hZ hl.1 rfl rfl (Nat.le_of_ble_eq_true rfl) d_M_element_54 (fun H locs hP hD hS => ?_)
        have hP : va_P D vwCl (Wm am gm sLen sKind sExt sMust rTab rFil mNum rLen rItm made pItm held dByt dLen ver fAdr fTab adr tab lf 4 row mWr mWid mOv mPl mTh mSp mPile mNext mSh mShs mRea mWg mEn mDp mAt mTb mSt) H := hP
        have hD : va_D A (Wm am gm sLen sKind sExt sMust rTab rFil mNum rLen rItm made pItm held dByt dLen ver fAdr fTab adr tab lf 4 row mWr mWid mOv mPl mTh mSp mPile mNext mSh mShs mRea mWg mEn mDp mAt mTb mSt) := hD
        refine W.eq (g2 := F0 m 57 ls [.int (nI 0)]) rfl ?_
        exact k_iret hx hb hr hlocks hK hP hD hS (trivial) (by rw [hce]; rfl) (by rw [hce]) d_M_element_57
  · skip
    have c_7 := (bI_0).mp c_7
    have hcn : ¬ cdKd (cdCur ver sLen tab x) (sKind (tab * 6 + cN x)) 4 5 = 0 := of_decide_eq_false c_7
    have hce : cdEl (cdKd (cdCur ver sLen tab x) (sKind (tab * 6 + cN x)) 4 5) (itF dByt dLen adr (cN x)) y = cdKd (cdCur ver sLen tab x) (sKind (tab * 6 + cN x)) 4 5 := by rw [cdEl, if_neg hcn]
    refine lv_iconst (v := nI 0) hx hb d_M_element_10 (by decide) ?_
    exact k_iret hx hb hr hlocks hK hP hD hS (trivial) (by rw [hce, if_neg hcn]; rfl) (by rw [hce]) d_M_element_11

/-! building: the k-th byte from the end; WRITTEN; the widest number -/
theorem up_far (f : Nat → Nat) {k : Nat} (v : Nat) (h : 240 < k) : (fun j => sb_b (va_up f k v (240 - j))) = fun j => sb_b (f (240 - j)) := by
  funext j
  rw [va_up_ne f v (by omega)]
def alN (w a h : Nat) : Nat := a + (w - (a + h) % w) % w
def vB (v : Int64) (i : Nat) : Nat := u8 ((v >>> ((nI (8 * i)).toInt64 &&& 63)).toInt32)
/-- the first n bytes of a number of w bytes, put behind a bytes -/
def wNr (f : Nat → Nat) (a : Nat) (v : Int64) (w : Nat) : Nat → (Nat → Nat)
  | 0 => f
  | n + 1 => va_up (wNr f a v w n) (a + n + 1) (vB v (w - n - 1))
def wN (f : Nat → Nat) (a : Nat) (v : Int64) (w : Nat) : Nat → Nat := wNr f (alN w a 0) v w w
def pow8 (w : Nat) : Prop := w = 1 ∨ w = 2 ∨ w = 4 ∨ w = 8
theorem kWd_pow : ∀ k, k < 7 → pow8 (kWd k) := by
  intro k hk
  match k, hk with
  | 0, _ => exact Or.inl rfl
  | 1, _ => exact Or.inr (Or.inl rfl)
  | 2, _ => exact Or.inr (Or.inr (Or.inl rfl))
  | 3, _ => exact Or.inr (Or.inr (Or.inr rfl))
  | 4, _ => exact Or.inr (Or.inr (Or.inl rfl))
  | 5, _ => exact Or.inr (Or.inr (Or.inl rfl))
  | 6, _ => exact Or.inr (Or.inr (Or.inl rfl))
theorem nI_congr {a b : Nat} (h : a = b) : nI a = nI b := by rw [h]
theorem neg_nat {a : Nat} (h : a < 2 ^ 31) : (-(nI a)).toBitVec.toNat = (2 ^ 32 - a) % 2 ^ 32 := by
  rw [Int32.toBitVec_neg, BitVec.toNat_neg, pk_tn (by omega)]
theorem al_pad {w a : Nat} (hw : pow8 w) (ha : a < 2 ^ 31) : (-(nI a)) &&& nI (w - 1) = nI ((w - a % w) % w) := by
  rcases hw with rfl | rfl | rfl | rfl
  · rw [pk_and _ 0 (by decide), neg_nat ha]; exact nI_congr (by omega)
  · rw [pk_and _ 1 (by decide), neg_nat ha]; exact nI_congr (by omega)
  · rw [pk_and _ 2 (by decide), neg_nat ha]; exact nI_congr (by omega)
  · rw [pk_and _ 3 (by decide), neg_nat ha]; exact nI_congr (by omega)
theorem alN_lt {w a h : Nat} (hw : pow8 w) : alN w a h < a + 8 := by
  unfold alN
  rcases hw with rfl | rfl | rfl | rfl <;> omega
theorem dn_lt {j : Nat} (h : j < 2 ^ 31) : nI j - 1 < 0 ↔ j = 0 := by
  cases j with
  | zero => exact ⟨fun _ => rfl, fun _ => by decide⟩
  | succ j => rw [nI_pred]; exact ⟨fun q => absurd q (nI_pos (by omega)), fun q => absurd q (by omega)⟩
theorem dn_in {j : Nat} (h : ¬ j = 0) : nI j - 1 = nI (j - 1) := by
  cases j with
  | zero => exact absurd rfl h
  | succ j => exact nI_pred j
theorem dn_step (x : Int32) : x + (-1) = x - 1 := by rw [Int32.sub_eq_add_neg]
theorem nI_1e : nI 1 = (1 : Int32) := by decide
/-- four bytes filled in at a place -/
def flR (f : Nat → Nat) (p : Nat) (v : Int32) : Nat → (Nat → Nat)
  | 0 => f
  | i + 1 => va_up (flR f p v i) (p - i) (u8 (v >>> (nI (8 * i) &&& 31)))
theorem wd_0bdfa4a3 : Cond.fieldLink R_B 88 R_B "written" "I" ∈ kGW := kGW_of (List.mem_of_getElem? (i := 180) (by decide +kernel)) (by decide)
theorem wd_9a8b7db0 : Cond.fieldLink R_B 9 R_B "bytes" "[B" ∈ kGW := kGW_of (List.mem_of_getElem? (i := 171) (by decide +kernel)) (by decide)
theorem wd_dca0ca1f : Cond.fieldLink R_B 91 R_B "widest" "I" ∈ kGW := kGW_of (List.mem_of_getElem? (i := 182) (by decide +kernel)) (by decide)
theorem wd_02b4e41f : Cond.methodLink R_B 155 Lib.Math.max.name ∈ kGW := kGW_of (List.mem_of_getElem? (i := 564) (by decide +kernel)) (by decide)
theorem wd_80a2ec50 : Cond.static Lib.Math.max.name ∈ kGW := kGW_of (List.mem_of_getElem? (i := 565) (by decide +kernel)) (by decide)
set_option maxRecDepth 20000 in
theorem wd_b6349a14 : Cond.code Lib.Math.max.name Lib.Math.max.code 2 (some .int) ∈ kGW := kGW_of (List.mem_of_getElem? (i := 566) (by rfl)) (by decide)
theorem wd_0bd63fdc : Cond.methodLink R_B 98 y_B_alignTo ∈ kGW := kGW_of (List.mem_of_getElem? (i := 560) (by decide +kernel)) (by decide)
theorem wd_9ecc1d1e : Cond.methodLink R_B 132 y_B_putByte ∈ kGW := kGW_of (List.mem_of_getElem? (i := 567) (by decide +kernel)) (by decide)
theorem wd_252b710e : Cond.methodLink R_B 101 y_B_putNumber ∈ kGW := kGW_of (List.mem_of_getElem? (i := 575) (by decide +kernel)) (by decide)
set_option maxRecDepth 20000 in
theorem wd_d42932f1 : Cond.code y_B_putByte b_B_putByte 2 none ∈ kGW := kGW_of (List.mem_of_getElem? (i := 570) (by rfl)) (by decide)
theorem wd_5ef1b69f : Cond.initialized R_B ∈ kGW := kGW_of (List.mem_of_getElem? (i := 52) (by decide +kernel)) (by decide)
theorem wd_13a34ddb : Cond.instanceMethod y_B_putByte ∈ kGW := kGW_of (List.mem_of_getElem? (i := 569) (by decide +kernel)) (by decide)
theorem wd_cd86cbc0 : Cond.selects R_B y_B_putByte y_B_putByte ∈ kGW := kGW_of (List.mem_of_getElem? (i := 7) (by decide +kernel)) (by decide)
set_option maxRecDepth 20000 in
theorem wd_8a96509e : Cond.code y_B_alignTo b_B_alignTo 3 none ∈ kGW := kGW_of (List.mem_of_getElem? (i := 563) (by rfl)) (by decide)
theorem wd_63e71fe4 : Cond.instanceMethod y_B_alignTo ∈ kGW := kGW_of (List.mem_of_getElem? (i := 562) (by decide +kernel)) (by decide)
theorem wd_2b934b49 : Cond.selects R_B y_B_alignTo y_B_alignTo ∈ kGW := kGW_of (List.mem_of_getElem? (i := 6) (by decide +kernel)) (by decide)
set_option maxRecDepth 20000 in
theorem wd_105ff36f : Cond.code y_B_fillIn b_B_fillIn 4 none ∈ kGW := kGW_of (List.mem_of_getElem? (i := 609) (by rfl)) (by decide)
theorem wd_93edc722 : Cond.instanceMethod y_B_fillIn ∈ kGW := kGW_of (List.mem_of_getElem? (i := 608) (by decide +kernel)) (by decide)
theorem wd_dcf1252d : Cond.selects R_B y_B_fillIn y_B_fillIn ∈ kGW := kGW_of (List.mem_of_getElem? (i := 15) (by decide +kernel)) (by decide)
set_option maxRecDepth 20000 in
theorem wd_9fb458d5 : Cond.code y_B_putNumber b_B_putNumber 5 none ∈ kGW := kGW_of (List.mem_of_getElem? (i := 578) (by rfl)) (by decide)
theorem wd_93aa19e7 : Cond.instanceMethod y_B_putNumber ∈ kGW := kGW_of (List.mem_of_getElem? (i := 577) (by decide +kernel)) (by decide)
theorem wd_0a879ab1 : Cond.selects R_B y_B_putNumber y_B_putNumber ∈ kGW := kGW_of (List.mem_of_getElem? (i := 8) (by decide +kernel)) (by decide)
set_option maxRecDepth 20000 in
theorem wd_9479158e : Cond.code y_B_putReference b_B_putReference 2 none ∈ kGW := kGW_of (List.mem_of_getElem? (i := 590) (by rfl)) (by decide)
theorem wd_32d7d9b3 : Cond.instanceMethod y_B_putReference ∈ kGW := kGW_of (List.mem_of_getElem? (i := 589) (by decide +kernel)) (by decide)
theorem wd_ff37d8c3 : Cond.selects R_B y_B_putReference y_B_putReference ∈ kGW := kGW_of (List.mem_of_getElem? (i := 11) (by decide +kernel)) (by decide)
theorem d_B_putByte_0 : decode b_B_putByte 0 = .ok (.aload_n 0, 1) := by decide +kernel
theorem d_B_putByte_1 : decode b_B_putByte 1 = .ok (.dup, 1) := by decide +kernel
theorem d_B_putByte_2 : decode b_B_putByte 2 = .ok (.getfield 88, 3) := by decide +kernel
theorem d_B_putByte_5 : decode b_B_putByte 5 = .ok (.iconst 1, 1) := by decide +kernel
theorem d_B_putByte_6 : decode b_B_putByte 6 = .ok (.iadd, 1) := by decide +kernel
theorem d_B_putByte_7 : decode b_B_putByte 7 = .ok (.putfield 88, 3) := by decide +kernel
theorem d_B_putByte_10 : decode b_B_putByte 10 = .ok (.aload_n 0, 1) := by decide +kernel
theorem d_B_putByte_11 : decode b_B_putByte 11 = .ok (.getfield 88, 3) := by decide +kernel
theorem d_B_putByte_14 : decode b_B_putByte 14 = .ok (.sipush 240, 3) := by decide +kernel
theorem d_B_putByte_17 : decode b_B_putByte 17 = .ok (.if_icmp .gt 18, 3) := by decide +kernel
theorem d_B_putByte_20 : decode b_B_putByte 20 = .ok (.aload_n 0, 1) := by decide +kernel
theorem d_B_putByte_21 : decode b_B_putByte 21 = .ok (.getfield 9, 3) := by decide +kernel
theorem d_B_putByte_24 : decode b_B_putByte 24 = .ok (.sipush 240, 3) := by decide +kernel
theorem d_B_putByte_27 : decode b_B_putByte 27 = .ok (.aload_n 0, 1) := by decide +kernel
theorem d_B_putByte_28 : decode b_B_putByte 28 = .ok (.getfield 88, 3) := by decide +kernel
theorem d_B_putByte_31 : decode b_B_putByte 31 = .ok (.isub, 1) := by decide +kernel
theorem d_B_putByte_32 : decode b_B_putByte 32 = .ok (.iload_n 1, 1) := by decide +kernel
theorem d_B_putByte_33 : decode b_B_putByte 33 = .ok (.i2b, 1) := by decide +kernel
theorem d_B_putByte_34 : decode b_B_putByte 34 = .ok (.bastore, 1) := by decide +kernel
theorem d_B_putByte_35 : decode b_B_putByte 35 = .ok (.return_, 1) := by decide +kernel
theorem d_B_alignTo_0 : decode b_B_alignTo 0 = .ok (.aload_n 0, 1) := by decide +kernel
theorem d_B_alignTo_1 : decode b_B_alignTo 1 = .ok (.aload_n 0, 1) := by decide +kernel
theorem d_B_alignTo_2 : decode b_B_alignTo 2 = .ok (.getfield 91, 3) := by decide +kernel
theorem d_B_alignTo_5 : decode b_B_alignTo 5 = .ok (.iload_n 1, 1) := by decide +kernel
theorem d_B_alignTo_6 : decode b_B_alignTo 6 = .ok (.invokestatic 155, 3) := by decide +kernel
theorem d_B_alignTo_9 : decode b_B_alignTo 9 = .ok (.putfield 91, 3) := by decide +kernel
theorem d_B_alignTo_12 : decode b_B_alignTo 12 = .ok (.aload_n 0, 1) := by decide +kernel
theorem d_B_alignTo_13 : decode b_B_alignTo 13 = .ok (.dup, 1) := by decide +kernel
theorem d_B_alignTo_14 : decode b_B_alignTo 14 = .ok (.getfield 88, 3) := by decide +kernel
theorem d_B_alignTo_17 : decode b_B_alignTo 17 = .ok (.aload_n 0, 1) := by decide +kernel
theorem d_B_alignTo_18 : decode b_B_alignTo 18 = .ok (.getfield 88, 3) := by decide +kernel
theorem d_B_alignTo_21 : decode b_B_alignTo 21 = .ok (.iload_n 2, 1) := by decide +kernel
theorem d_B_alignTo_22 : decode b_B_alignTo 22 = .ok (.iadd, 1) := by decide +kernel
theorem d_B_alignTo_23 : decode b_B_alignTo 23 = .ok (.ineg, 1) := by decide +kernel
theorem d_B_alignTo_24 : decode b_B_alignTo 24 = .ok (.iload_n 1, 1) := by decide +kernel
theorem d_B_alignTo_25 : decode b_B_alignTo 25 = .ok (.iconst 1, 1) := by decide +kernel
theorem d_B_alignTo_26 : decode b_B_alignTo 26 = .ok (.isub, 1) := by decide +kernel
theorem d_B_alignTo_27 : decode b_B_alignTo 27 = .ok (.iand, 1) := by decide +kernel
theorem d_B_alignTo_28 : decode b_B_alignTo 28 = .ok (.iadd, 1) := by decide +kernel
theorem d_B_alignTo_29 : decode b_B_alignTo 29 = .ok (.putfield 88, 3) := by decide +kernel
theorem d_B_alignTo_32 : decode b_B_alignTo 32 = .ok (.return_, 1) := by decide +kernel
theorem d_B_fillIn_0 : decode b_B_fillIn 0 = .ok (.iload_n 1, 1) := by decide +kernel
theorem d_B_fillIn_1 : decode b_B_fillIn 1 = .ok (.sipush 240, 3) := by decide +kernel
theorem d_B_fillIn_4 : decode b_B_fillIn 4 = .ok (.if_icmp .le 4, 3) := by decide +kernel
theorem d_B_fillIn_7 : decode b_B_fillIn 7 = .ok (.return_, 1) := by decide +kernel
theorem d_B_fillIn_8 : decode b_B_fillIn 8 = .ok (.iconst 0, 1) := by decide +kernel
theorem d_B_fillIn_9 : decode b_B_fillIn 9 = .ok (.istore_n 3, 1) := by decide +kernel
theorem d_B_fillIn_10 : decode b_B_fillIn 10 = .ok (.iload_n 3, 1) := by decide +kernel
theorem d_B_fillIn_11 : decode b_B_fillIn 11 = .ok (.iconst 4, 1) := by decide +kernel
theorem d_B_fillIn_12 : decode b_B_fillIn 12 = .ok (.if_icmp .ge 28, 3) := by decide +kernel
theorem d_B_fillIn_15 : decode b_B_fillIn 15 = .ok (.aload_n 0, 1) := by decide +kernel
theorem d_B_fillIn_16 : decode b_B_fillIn 16 = .ok (.getfield 9, 3) := by decide +kernel
theorem d_B_fillIn_19 : decode b_B_fillIn 19 = .ok (.sipush 240, 3) := by decide +kernel
theorem d_B_fillIn_22 : decode b_B_fillIn 22 = .ok (.iload_n 1, 1) := by decide +kernel
theorem d_B_fillIn_23 : decode b_B_fillIn 23 = .ok (.isub, 1) := by decide +kernel
theorem d_B_fillIn_24 : decode b_B_fillIn 24 = .ok (.iload_n 3, 1) := by decide +kernel
theorem d_B_fillIn_25 : decode b_B_fillIn 25 = .ok (.iadd, 1) := by decide +kernel
theorem d_B_fillIn_26 : decode b_B_fillIn 26 = .ok (.iload_n 2, 1) := by decide +kernel
theorem d_B_fillIn_27 : decode b_B_fillIn 27 = .ok (.bipush 8, 2) := by decide +kernel
theorem d_B_fillIn_29 : decode b_B_fillIn 29 = .ok (.iload_n 3, 1) := by decide +kernel
theorem d_B_fillIn_30 : decode b_B_fillIn 30 = .ok (.imul, 1) := by decide +kernel
theorem d_B_fillIn_31 : decode b_B_fillIn 31 = .ok (.ishr, 1) := by decide +kernel
theorem d_B_fillIn_32 : decode b_B_fillIn 32 = .ok (.i2b, 1) := by decide +kernel
theorem d_B_fillIn_33 : decode b_B_fillIn 33 = .ok (.bastore, 1) := by decide +kernel
theorem d_B_fillIn_34 : decode b_B_fillIn 34 = .ok (.iinc 3 1, 3) := by decide +kernel
theorem d_B_fillIn_37 : decode b_B_fillIn 37 = .ok (.goto (-27), 3) := by decide +kernel
theorem d_B_fillIn_40 : decode b_B_fillIn 40 = .ok (.return_, 1) := by decide +kernel
theorem d_B_putNumber_0 : decode b_B_putNumber 0 = .ok (.aload_n 0, 1) := by decide +kernel
theorem d_B_putNumber_1 : decode b_B_putNumber 1 = .ok (.iload_n 3, 1) := by decide +kernel
theorem d_B_putNumber_2 : decode b_B_putNumber 2 = .ok (.iconst 0, 1) := by decide +kernel
theorem d_B_putNumber_3 : decode b_B_putNumber 3 = .ok (.invokevirtual 98, 3) := by decide +kernel
theorem d_B_putNumber_6 : decode b_B_putNumber 6 = .ok (.iload_n 3, 1) := by decide +kernel
theorem d_B_putNumber_7 : decode b_B_putNumber 7 = .ok (.iconst 1, 1) := by decide +kernel
theorem d_B_putNumber_8 : decode b_B_putNumber 8 = .ok (.isub, 1) := by decide +kernel
theorem d_B_putNumber_9 : decode b_B_putNumber 9 = .ok (.istore 4, 2) := by decide +kernel
theorem d_B_putNumber_11 : decode b_B_putNumber 11 = .ok (.iload 4, 2) := by decide +kernel
theorem d_B_putNumber_13 : decode b_B_putNumber 13 = .ok (.ifCond .lt 21, 3) := by decide +kernel
theorem d_B_putNumber_16 : decode b_B_putNumber 16 = .ok (.aload_n 0, 1) := by decide +kernel
theorem d_B_putNumber_17 : decode b_B_putNumber 17 = .ok (.lload_n 1, 1) := by decide +kernel
theorem d_B_putNumber_18 : decode b_B_putNumber 18 = .ok (.bipush 8, 2) := by decide +kernel
theorem d_B_putNumber_20 : decode b_B_putNumber 20 = .ok (.iload 4, 2) := by decide +kernel
theorem d_B_putNumber_22 : decode b_B_putNumber 22 = .ok (.imul, 1) := by decide +kernel
theorem d_B_putNumber_23 : decode b_B_putNumber 23 = .ok (.lshr, 1) := by decide +kernel
theorem d_B_putNumber_24 : decode b_B_putNumber 24 = .ok (.l2i, 1) := by decide +kernel
theorem d_B_putNumber_25 : decode b_B_putNumber 25 = .ok (.invokevirtual 132, 3) := by decide +kernel
theorem d_B_putNumber_28 : decode b_B_putNumber 28 = .ok (.iinc 4 (-1), 3) := by decide +kernel
theorem d_B_putNumber_31 : decode b_B_putNumber 31 = .ok (.goto (-20), 3) := by decide +kernel
theorem d_B_putNumber_34 : decode b_B_putNumber 34 = .ok (.return_, 1) := by decide +kernel
theorem d_B_putReference_0 : decode b_B_putReference 0 = .ok (.aload_n 0, 1) := by decide +kernel
theorem d_B_putReference_1 : decode b_B_putReference 1 = .ok (.iconst 4, 1) := by decide +kernel
theorem d_B_putReference_2 : decode b_B_putReference 2 = .ok (.iconst 0, 1) := by decide +kernel
theorem d_B_putReference_3 : decode b_B_putReference 3 = .ok (.invokevirtual 98, 3) := by decide +kernel
theorem d_B_putReference_6 : decode b_B_putReference 6 = .ok (.aload_n 0, 1) := by decide +kernel
theorem d_B_putReference_7 : decode b_B_putReference 7 = .ok (.aload_n 0, 1) := by decide +kernel
theorem d_B_putReference_8 : decode b_B_putReference 8 = .ok (.getfield 88, 3) := by decide +kernel
theorem d_B_putReference_11 : decode b_B_putReference 11 = .ok (.iconst 4, 1) := by decide +kernel
theorem d_B_putReference_12 : decode b_B_putReference 12 = .ok (.iadd, 1) := by decide +kernel
theorem d_B_putReference_13 : decode b_B_putReference 13 = .ok (.iload_n 1, 1) := by decide +kernel
theorem d_B_putReference_14 : decode b_B_putReference 14 = .ok (.isub, 1) := by decide +kernel
theorem d_B_putReference_15 : decode b_B_putReference 15 = .ok (.i2l, 1) := by decide +kernel
theorem d_B_putReference_16 : decode b_B_putReference 16 = .ok (.iconst 4, 1) := by decide +kernel
theorem d_B_putReference_17 : decode b_B_putReference 17 = .ok (.invokevirtual 101, 3) := by decide +kernel
theorem d_B_putReference_20 : decode b_B_putReference 20 = .ok (.return_, 1) := by decide +kernel
theorem m_B_putByte : kIV y_B_putByte b_B_putByte 2 none 1 := ⟨⟨wd_d42932f1, wd_5ef1b69f, ⟨by decide, by decide⟩, by decide +kernel⟩, wd_13a34ddb, wd_cd86cbc0⟩
theorem m_B_alignTo : kIV y_B_alignTo b_B_alignTo 3 none 2 := ⟨⟨wd_8a96509e, wd_5ef1b69f, ⟨by decide, by decide⟩, by decide +kernel⟩, wd_63e71fe4, wd_2b934b49⟩
theorem m_B_fillIn : kIV y_B_fillIn b_B_fillIn 4 none 2 := ⟨⟨wd_105ff36f, wd_5ef1b69f, ⟨by decide, by decide⟩, by decide +kernel⟩, wd_93edc722, wd_dcf1252d⟩
theorem m_B_putNumber : kIV y_B_putNumber b_B_putNumber 5 none 2 := ⟨⟨wd_9fb458d5, wd_5ef1b69f, ⟨by decide, by decide⟩, by decide +kernel⟩, wd_93aa19e7, wd_0a879ab1⟩
theorem m_B_putReference : kIV y_B_putReference b_B_putReference 2 none 1 := ⟨⟨wd_9479158e, wd_5ef1b69f, ⟨by decide, by decide⟩, by decide +kernel⟩, wd_32d7d9b3, wd_ff37d8c3⟩
set_option maxHeartbeats 4000000 in
set_option maxRecDepth 100000 in
theorem c_B_putByte (l : Launch) (D : va_G) (a : Nat → Nat) (g : Nat → ClassId) (tw : Nat) (sLen sKind : Nat → Nat) (sExt : Nat → Int32) (sMust : Nat → Bool) (rTab : Nat → Nat) (rFil : Nat → Bool) (rNum : Nat → Int64) (rLnk rLen : Nat → Nat) (rItm : Nat → Int32) (made : Nat) (pItm : Nat → Int32) (held : Nat) (dByt : Nat → Nat) (dLen : Nat) (bByt : Nat → Nat) (bRea : Nat → Bool) (bRec bItm bFld bOff bOfp : Nat → Nat) (kept wrt wid ent : Nat) (ver : Bool) (fAdr fTab adr tab : Nat) (lf : Int32) (x : Int32)  (hw : wrt < 100000) : kM l y_B_putByte b_B_putByte 2 none ({ frames := 0, cells := 0, slots := 0, locals := 0 }) D vwCl (WdT g) tw [.ref (a 5), .int x] (Wd a g sLen sKind sExt sMust rTab rFil rNum rLnk rLen rItm made pItm held dByt dLen bByt bRea bRec bItm bFld bOff bOfp kept wrt wid ent ver fAdr fTab adr tab lf) none (Wd a g sLen sKind sExt sMust rTab rFil rNum rLnk rLen rItm made pItm held dByt dLen (va_up bByt (wrt + 1) (u8 x)) bRea bRec bItm bFld bOff bOfp kept (wrt + 1) wid ent ver fAdr fTab adr tab lf) := by
  refine k_of (by decide) (Nat.le_of_ble_eq_true rfl) ?_
  intro p e s m below meth c A ls hx hb hr hlocks hml hts hown hin0 hA hP hK hD hS hZ hl
  have hl : lv_has ls 2 [(0, .ref (a 5)), (1, .int x)] := hl
  refine lv_aload_n hx hb d_B_putByte_0 rfl (lv_at hl 0 rfl) ?_
  refine lv_dup hx hb d_B_putByte_1 rfl ?_
  refine va_get (D := D) (ci := 5) (C := R_B) (T := T_B) (N := 12) hx hb hts (fun w h => kT w (i_B w h)) hown hK hP 5 rfl rfl 10 (by decide) (hts _ (kT _ wd_0bdfa4a3)) (fun _ h9 => h9) rfl d_B_putByte_2 ?_
  refine lv_iconst (v := nI 1) hx hb d_B_putByte_5 (by decide) ?_
  refine lv_iadd hx hb d_B_putByte_6 ?_
  refine lv_eqi (nI_add _ _) ?_
  refine va_put (D := D) (ci := 5) (ty := .int) (C := R_B) (T := T_B) (N := 12) hx hb hts (fun w h => kT w (i_B w h)) ty_B tyk_B nm_B hown hK hP hD hS 5 rfl rfl 10 (by decide) (hts _ (kT _ wd_0bdfa4a3)) (fun _ h9 => h9) rfl (by decide +kernel) rfl rfl (Nat.le_of_ble_eq_true rfl) d_B_putByte_7 (fun H locs hP hD hS => ?_)
  have hP : va_P D vwCl (Wd a g sLen sKind sExt sMust rTab rFil rNum rLnk rLen rItm made pItm held dByt dLen bByt bRea bRec bItm bFld bOff bOfp kept (wrt + 1) wid ent ver fAdr fTab adr tab lf) H := hP
  have hD : va_D A (Wd a g sLen sKind sExt sMust rTab rFil rNum rLnk rLen rItm made pItm held dByt dLen bByt bRea bRec bItm bFld bOff bOfp kept (wrt + 1) wid ent ver fAdr fTab adr tab lf) := hD
  refine lv_aload_n hx hb d_B_putByte_10 rfl (lv_at hl 0 rfl) ?_
  refine va_get (D := D) (ci := 5) (C := R_B) (T := T_B) (N := 12) hx hb hts (fun w h => kT w (i_B w h)) hown hK hP 5 rfl rfl 10 (by decide) (hts _ (kT _ wd_0bdfa4a3)) (fun _ h9 => h9) rfl d_B_putByte_11 ?_
  refine lv_sipush (v := nI 240) hx hb d_B_putByte_14 (by decide) ?_
  refine lv_icmp_gt (tgt := 35) hx hb d_B_putByte_17 (by decide) (fun c_17 => ?_) (fun c_17 => ?_)
  · skip
    have c_17 := (nI_ltI (by omega) (by omega)).mp c_17
    exact k_vret hx hb hr hlocks hK hP hD hS (trivial) (by first | rfl | (unfold Wd; rw [up_far bByt (u8 x) (by omega)])) d_B_putByte_35
  · skip
    have c_17 := mt (nI_ltI (by omega) (by omega)).mpr c_17
    refine lv_aload_n hx hb d_B_putByte_20 rfl (lv_at hl 0 rfl) ?_
    refine va_get (D := D) (ci := 5) (C := R_B) (T := T_B) (N := 12) hx hb hts (fun w h => kT w (i_B w h)) hown hK hP 5 rfl rfl 2 (by decide) (hts _ (kT _ wd_9a8b7db0)) (fun _ h9 => h9) rfl d_B_putByte_21 ?_
    refine lv_sipush (v := nI 240) hx hb d_B_putByte_24 (by decide) ?_
    refine lv_aload_n hx hb d_B_putByte_27 rfl (lv_at hl 0 rfl) ?_
    refine va_get (D := D) (ci := 5) (C := R_B) (T := T_B) (N := 12) hx hb hts (fun w h => kT w (i_B w h)) hown hK hP 5 rfl rfl 10 (by decide) (hts _ (kT _ wd_0bdfa4a3)) (fun _ h9 => h9) rfl d_B_putByte_28 ?_
    refine lv_isub hx hb d_B_putByte_31 ?_
    refine lv_eqi (pk_sub (by omega)) ?_
    refine lv_iload_n hx hb d_B_putByte_32 rfl (lv_at hl 1 rfl) ?_
    refine lv_i2b hx hb d_B_putByte_33 rfl ?_
    refine rv_bast hx hb hK hP hD hS 20 12 rfl rfl (k := (wrt + 1)) (by omega) (by omega) d_B_putByte_34 (fun H locs hP hD hS => ?_)
    have hP : va_P D vwCl (Wd a g sLen sKind sExt sMust rTab rFil rNum rLnk rLen rItm made pItm held dByt dLen (va_up bByt (wrt + 1) (u8 x)) bRea bRec bItm bFld bOff bOfp kept (wrt + 1) wid ent ver fAdr fTab adr tab lf) H := hP
    have hD : va_D A (Wd a g sLen sKind sExt sMust rTab rFil rNum rLnk rLen rItm made pItm held dByt dLen (va_up bByt (wrt + 1) (u8 x)) bRea bRec bItm bFld bOff bOfp kept (wrt + 1) wid ent ver fAdr fTab adr tab lf) := hD
    exact k_vret hx hb hr hlocks hK hP hD hS (trivial) (by first | rfl | (unfold Wd; rw [up_far bByt (u8 x) (by omega)])) d_B_putByte_35
set_option maxHeartbeats 4000000 in
set_option maxRecDepth 100000 in
theorem c_B_alignTo (l : Launch) (D : va_G) (a : Nat → Nat) (g : Nat → ClassId) (tw : Nat) (sLen sKind : Nat → Nat) (sExt : Nat → Int32) (sMust : Nat → Bool) (rTab : Nat → Nat) (rFil : Nat → Bool) (rNum : Nat → Int64) (rLnk rLen : Nat → Nat) (rItm : Nat → Int32) (made : Nat) (pItm : Nat → Int32) (held : Nat) (dByt : Nat → Nat) (dLen : Nat) (bByt : Nat → Nat) (bRea : Nat → Bool) (bRec bItm bFld bOff bOfp : Nat → Nat) (kept wrt wid ent : Nat) (ver : Bool) (fAdr fTab adr tab : Nat) (lf : Int32) (w : Nat) (h : Nat)  (hp : pow8 w) (hw : wrt < 100000) (hh : h < 100000) (hwd : wid < 100000) : kM l y_B_alignTo b_B_alignTo 3 none ({ frames := 1, cells := 0, slots := 0, locals := 21 }) D vwCl (WdT g) tw [.ref (a 5), .int (nI w), .int (nI h)] (Wd a g sLen sKind sExt sMust rTab rFil rNum rLnk rLen rItm made pItm held dByt dLen bByt bRea bRec bItm bFld bOff bOfp kept wrt wid ent ver fAdr fTab adr tab lf) none (Wd a g sLen sKind sExt sMust rTab rFil rNum rLnk rLen rItm made pItm held dByt dLen bByt bRea bRec bItm bFld bOff bOfp kept (alN w wrt h) (max wid w) ent ver fAdr fTab adr tab lf) := by
  refine k_of (by decide) (Nat.le_of_ble_eq_true rfl) ?_
  intro p e s m below meth c A ls hx hb hr hlocks hml hts hown hin0 hA hP hK hD hS hZ hl
  have hl : lv_has ls 3 [(0, .ref (a 5)), (1, .int (nI w)), (2, .int (nI h))] := hl
  have hw8 : 1 ≤ w ∧ w ≤ 8 := by rcases hp with rfl | rfl | rfl | rfl <;> decide
  refine lv_aload_n hx hb d_B_alignTo_0 rfl (lv_at hl 0 rfl) ?_
  refine lv_aload_n hx hb d_B_alignTo_1 rfl (lv_at hl 0 rfl) ?_
  refine va_get (D := D) (ci := 5) (C := R_B) (T := T_B) (N := 12) hx hb hts (fun w h => kT w (i_B w h)) hown hK hP 5 rfl rfl 11 (by decide) (hts _ (kT _ wd_dca0ca1f)) (fun _ h9 => h9) rfl d_B_alignTo_2 ?_
  refine lv_iload_n hx hb d_B_alignTo_5 rfl (lv_at hl 1 rfl) ?_
  refine va_mmax hx hb (hml.trans hl.1.symm) hown (hts _ (kT _ wd_02b4e41f)) (hts _ (kT _ wd_80a2ec50)) (hts _ (kT _ wd_868a9286)) (hts _ (kT _ wd_b6349a14)) (Nat.le_of_ble_eq_true rfl) (Nat.le_of_ble_eq_true rfl) (Nat.le_of_ble_eq_true rfl) (Nat.le_of_ble_eq_true rfl) d_B_alignTo_6 ?_
  refine lv_eqi (nI_max (by omega) (by omega)) ?_
  refine va_put (D := D) (ci := 5) (ty := .int) (C := R_B) (T := T_B) (N := 12) hx hb hts (fun w h => kT w (i_B w h)) ty_B tyk_B nm_B hown hK hP hD hS 5 rfl rfl 11 (by decide) (hts _ (kT _ wd_dca0ca1f)) (fun _ h9 => h9) rfl (by decide +kernel) rfl rfl (Nat.le_of_ble_eq_true rfl) d_B_alignTo_9 (fun H locs hP hD hS => ?_)
  have hP : va_P D vwCl (Wd a g sLen sKind sExt sMust rTab rFil rNum rLnk rLen rItm made pItm held dByt dLen bByt bRea bRec bItm bFld bOff bOfp kept wrt (max wid w) ent ver fAdr fTab adr tab lf) H := hP
  have hD : va_D A (Wd a g sLen sKind sExt sMust rTab rFil rNum rLnk rLen rItm made pItm held dByt dLen bByt bRea bRec bItm bFld bOff bOfp kept wrt (max wid w) ent ver fAdr fTab adr tab lf) := hD
  refine lv_aload_n hx hb d_B_alignTo_12 rfl (lv_at hl 0 rfl) ?_
  refine lv_dup hx hb d_B_alignTo_13 rfl ?_
  refine va_get (D := D) (ci := 5) (C := R_B) (T := T_B) (N := 12) hx hb hts (fun w h => kT w (i_B w h)) hown hK hP 5 rfl rfl 10 (by decide) (hts _ (kT _ wd_0bdfa4a3)) (fun _ h9 => h9) rfl d_B_alignTo_14 ?_
  refine lv_aload_n hx hb d_B_alignTo_17 rfl (lv_at hl 0 rfl) ?_
  refine va_get (D := D) (ci := 5) (C := R_B) (T := T_B) (N := 12) hx hb hts (fun w h => kT w (i_B w h)) hown hK hP 5 rfl rfl 10 (by decide) (hts _ (kT _ wd_0bdfa4a3)) (fun _ h9 => h9) rfl d_B_alignTo_18 ?_
  refine lv_iload_n hx hb d_B_alignTo_21 rfl (lv_at hl 2 rfl) ?_
  refine lv_iadd hx hb d_B_alignTo_22 ?_
  refine lv_eqi (nI_add _ _) ?_
  refine lv_ineg hx hb d_B_alignTo_23 ?_
  refine lv_iload_n hx hb d_B_alignTo_24 rfl (lv_at hl 1 rfl) ?_
  refine lv_iconst (v := nI 1) hx hb d_B_alignTo_25 (by decide) ?_
  refine lv_isub hx hb d_B_alignTo_26 ?_
  refine lv_eqi (pk_sub (by omega)) ?_
  refine lv_iand hx hb d_B_alignTo_27 ?_
  refine lv_eqi (al_pad hp (by omega)) ?_
  refine lv_iadd hx hb d_B_alignTo_28 ?_
  refine lv_eqi (nI_add _ _) ?_
  refine va_put (D := D) (ci := 5) (ty := .int) (C := R_B) (T := T_B) (N := 12) hx hb hts (fun w h => kT w (i_B w h)) ty_B tyk_B nm_B hown hK hP hD hS 5 rfl rfl 10 (by decide) (hts _ (kT _ wd_0bdfa4a3)) (fun _ h9 => h9) rfl (by decide +kernel) rfl rfl (Nat.le_of_ble_eq_true rfl) d_B_alignTo_29 (fun H locs hP hD hS => ?_)
  have hP : va_P D vwCl (Wd a g sLen sKind sExt sMust rTab rFil rNum rLnk rLen rItm made pItm held dByt dLen bByt bRea bRec bItm bFld bOff bOfp kept (wrt + ((w - (wrt + h) % w) % w)) (max wid w) ent ver fAdr fTab adr tab lf) H := hP
  have hD : va_D A (Wd a g sLen sKind sExt sMust rTab rFil rNum rLnk rLen rItm made pItm held dByt dLen bByt bRea bRec bItm bFld bOff bOfp kept (wrt + ((w - (wrt + h) % w) % w)) (max wid w) ent ver fAdr fTab adr tab lf) := hD
  exact k_vret hx hb hr hlocks hK hP hD hS (trivial) (rfl) d_B_alignTo_32
set_option maxHeartbeats 4000000 in
set_option maxRecDepth 100000 in
theorem c_B_fillIn (l : Launch) (D : va_G) (a : Nat → Nat) (g : Nat → ClassId) (tw : Nat) (sLen sKind : Nat → Nat) (sExt : Nat → Int32) (sMust : Nat → Bool) (rTab : Nat → Nat) (rFil : Nat → Bool) (rNum : Nat → Int64) (rLnk rLen : Nat → Nat) (rItm : Nat → Int32) (made : Nat) (pItm : Nat → Int32) (held : Nat) (dByt : Nat → Nat) (dLen : Nat) (bByt : Nat → Nat) (bRea : Nat → Bool) (bRec bItm bFld bOff bOfp : Nat → Nat) (kept wrt wid ent : Nat) (ver : Bool) (fAdr fTab adr tab : Nat) (lf : Int32) (pl : Nat) (v : Int32)  (hp4 : 4 ≤ pl) (hp5 : pl < 100000) : kM l y_B_fillIn b_B_fillIn 4 none ({ frames := 0, cells := 0, slots := 0, locals := 0 }) D vwCl (WdT g) tw [.ref (a 5), .int (nI pl), .int v] (Wd a g sLen sKind sExt sMust rTab rFil rNum rLnk rLen rItm made pItm held dByt dLen bByt bRea bRec bItm bFld bOff bOfp kept wrt wid ent ver fAdr fTab adr tab lf) none (Wd a g sLen sKind sExt sMust rTab rFil rNum rLnk rLen rItm made pItm held dByt dLen (if pl ≤ 240 then flR bByt pl v 4 else bByt) bRea bRec bItm bFld bOff bOfp kept wrt wid ent ver fAdr fTab adr tab lf) := by
  refine k_of (by decide) (Nat.le_of_ble_eq_true rfl) ?_
  intro p e s m below meth c A ls hx hb hr hlocks hml hts hown hin0 hA hP hK hD hS hZ hl
  have hl : lv_has ls 4 [(0, .ref (a 5)), (1, .int (nI pl)), (2, .int v)] := hl
  refine lv_iload_n hx hb d_B_fillIn_0 rfl (lv_at hl 1 rfl) ?_
  refine lv_sipush (v := nI 240) hx hb d_B_fillIn_1 (by decide) ?_
  refine lv_icmp_le (tgt := 8) hx hb d_B_fillIn_4 (by decide) (fun c_4 => ?_) (fun c_4 => ?_)
  · skip
    have c_4 := (nI_leI (by omega) (by omega)).mp c_4
    refine lv_iconst (v := nI 0) hx hb d_B_fillIn_8 (by decide) ?_
    refine lv_istore_n (lv' := [(3, .int (nI 0)), (0, .ref (a 5)), (1, .int (nI pl)), (2, .int v)]) hx hb d_B_fillIn_9 rfl hl (by decide) rfl (fun ls hl => ?_)
    refine lv_iload_n hx hb d_B_fillIn_10 rfl (lv_at hl 0 rfl) ?_
    refine lv_iconst (v := nI 4) hx hb d_B_fillIn_11 (by decide) ?_
    refine lv_icmp_ge (tgt := 40) hx hb d_B_fillIn_12 (by decide) (fun c_12 => absurd c_12 (by decide)) (fun _ => ?_)
    refine lv_aload_n hx hb d_B_fillIn_15 rfl (lv_at hl 1 rfl) ?_
    refine va_get (D := D) (ci := 5) (C := R_B) (T := T_B) (N := 12) hx hb hts (fun w h => kT w (i_B w h)) hown hK hP 5 rfl rfl 2 (by decide) (hts _ (kT _ wd_9a8b7db0)) (fun _ h9 => h9) rfl d_B_fillIn_16 ?_
    refine lv_sipush (v := nI 240) hx hb d_B_fillIn_19 (by decide) ?_
    refine lv_iload_n hx hb d_B_fillIn_22 rfl (lv_at hl 2 rfl) ?_
    refine lv_isub hx hb d_B_fillIn_23 ?_
    refine lv_eqi (pk_sub (by omega)) ?_
    refine lv_iload_n hx hb d_B_fillIn_24 rfl (lv_at hl 0 rfl) ?_
    refine lv_iadd hx hb d_B_fillIn_25 ?_
    refine lv_eqi (nI_add _ _) ?_
    refine lv_eqi (show nI ((240 - pl) + 0) = nI (240 - (pl - 0)) from nI_congr (by omega)) ?_
    refine lv_iload_n hx hb d_B_fillIn_26 rfl (lv_at hl 3 rfl) ?_
    refine lv_bipush (v := nI 8) hx hb d_B_fillIn_27 (by decide) ?_
    refine lv_iload_n hx hb d_B_fillIn_29 rfl (lv_at hl 0 rfl) ?_
    refine lv_imul hx hb d_B_fillIn_30 ?_
    refine lv_eqi (show nI 8 * nI 0 = nI 0 by decide) ?_
    refine lv_ishr hx hb d_B_fillIn_31 ?_
    refine lv_i2b hx hb d_B_fillIn_32 rfl ?_
    refine rv_bast hx hb hK hP hD hS 20 12 rfl rfl (k := (pl - 0)) (by omega) (by omega) d_B_fillIn_33 (fun H locs hP hD hS => ?_)
    have hP : va_P D vwCl (Wd a g sLen sKind sExt sMust rTab rFil rNum rLnk rLen rItm made pItm held dByt dLen (va_up bByt (pl - 0) (u8 (v >>> (nI 0 &&& 31)))) bRea bRec bItm bFld bOff bOfp kept wrt wid ent ver fAdr fTab adr tab lf) H := hP
    have hD : va_D A (Wd a g sLen sKind sExt sMust rTab rFil rNum rLnk rLen rItm made pItm held dByt dLen (va_up bByt (pl - 0) (u8 (v >>> (nI 0 &&& 31)))) bRea bRec bItm bFld bOff bOfp kept wrt wid ent ver fAdr fTab adr tab lf) := hD
    refine lv_iinc (v := nI 1) (lv' := [(3, .int (nI 1)), (0, .ref (a 5)), (1, .int (nI pl)), (2, .int v)]) hx hb d_B_fillIn_34 hl (k := 0) rfl (by decide) (by decide) rfl (fun ls hl => ?_)
    refine lv_goto (tgt := 10) hx hb d_B_fillIn_37 (by decide) ?_
    refine lv_iload_n hx hb d_B_fillIn_10 rfl (lv_at hl 0 rfl) ?_
    refine lv_iconst (v := nI 4) hx hb d_B_fillIn_11 (by decide) ?_
    refine lv_icmp_ge (tgt := 40) hx hb d_B_fillIn_12 (by decide) (fun c_12 => absurd c_12 (by decide)) (fun _ => ?_)
    refine lv_aload_n hx hb d_B_fillIn_15 rfl (lv_at hl 1 rfl) ?_
    refine va_get (D := D) (ci := 5) (C := R_B) (T := T_B) (N := 12) hx hb hts (fun w h => kT w (i_B w h)) hown hK hP 5 rfl rfl 2 (by decide) (hts _ (kT _ wd_9a8b7db0)) (fun _ h9 => h9) rfl d_B_fillIn_16 ?_
    refine lv_sipush (v := nI 240) hx hb d_B_fillIn_19 (by decide) ?_
    refine lv_iload_n hx hb d_B_fillIn_22 rfl (lv_at hl 2 rfl) ?_
    refine lv_isub hx hb d_B_fillIn_23 ?_
    refine lv_eqi (pk_sub (by omega)) ?_
    refine lv_iload_n hx hb d_B_fillIn_24 rfl (lv_at hl 0 rfl) ?_
    refine lv_iadd hx hb d_B_fillIn_25 ?_
    refine lv_eqi (nI_add _ _) ?_
    refine lv_eqi (show nI ((240 - pl) + 1) = nI (240 - (pl - 1)) from nI_congr (by omega)) ?_
    refine lv_iload_n hx hb d_B_fillIn_26 rfl (lv_at hl 3 rfl) ?_
    refine lv_bipush (v := nI 8) hx hb d_B_fillIn_27 (by decide) ?_
    refine lv_iload_n hx hb d_B_fillIn_29 rfl (lv_at hl 0 rfl) ?_
    refine lv_imul hx hb d_B_fillIn_30 ?_
    refine lv_eqi (show nI 8 * nI 1 = nI 8 by decide) ?_
    refine lv_ishr hx hb d_B_fillIn_31 ?_
    refine lv_i2b hx hb d_B_fillIn_32 rfl ?_
    refine rv_bast hx hb hK hP hD hS 20 12 rfl rfl (k := (pl - 1)) (by omega) (by omega) d_B_fillIn_33 (fun H locs hP hD hS => ?_)
    have hP : va_P D vwCl (Wd a g sLen sKind sExt sMust rTab rFil rNum rLnk rLen rItm made pItm held dByt dLen (va_up (va_up bByt (pl - 0) (u8 (v >>> (nI 0 &&& 31)))) (pl - 1) (u8 (v >>> (nI 8 &&& 31)))) bRea bRec bItm bFld bOff bOfp kept wrt wid ent ver fAdr fTab adr tab lf) H := hP
    have hD : va_D A (Wd a g sLen sKind sExt sMust rTab rFil rNum rLnk rLen rItm made pItm held dByt dLen (va_up (va_up bByt (pl - 0) (u8 (v >>> (nI 0 &&& 31)))) (pl - 1) (u8 (v >>> (nI 8 &&& 31)))) bRea bRec bItm bFld bOff bOfp kept wrt wid ent ver fAdr fTab adr tab lf) := hD
    refine lv_iinc (v := nI 2) (lv' := [(3, .int (nI 2)), (0, .ref (a 5)), (1, .int (nI pl)), (2, .int v)]) hx hb d_B_fillIn_34 hl (k := 0) rfl (by decide) (by decide) rfl (fun ls hl => ?_)
    refine lv_goto (tgt := 10) hx hb d_B_fillIn_37 (by decide) ?_
    refine lv_iload_n hx hb d_B_fillIn_10 rfl (lv_at hl 0 rfl) ?_
    refine lv_iconst (v := nI 4) hx hb d_B_fillIn_11 (by decide) ?_
    refine lv_icmp_ge (tgt := 40) hx hb d_B_fillIn_12 (by decide) (fun c_12 => absurd c_12 (by decide)) (fun _ => ?_)
    refine lv_aload_n hx hb d_B_fillIn_15 rfl (lv_at hl 1 rfl) ?_
    refine va_get (D := D) (ci := 5) (C := R_B) (T := T_B) (N := 12) hx hb hts (fun w h => kT w (i_B w h)) hown hK hP 5 rfl rfl 2 (by decide) (hts _ (kT _ wd_9a8b7db0)) (fun _ h9 => h9) rfl d_B_fillIn_16 ?_
    refine lv_sipush (v := nI 240) hx hb d_B_fillIn_19 (by decide) ?_
    refine lv_iload_n hx hb d_B_fillIn_22 rfl (lv_at hl 2 rfl) ?_
    refine lv_isub hx hb d_B_fillIn_23 ?_
    refine lv_eqi (pk_sub (by omega)) ?_
    refine lv_iload_n hx hb d_B_fillIn_24 rfl (lv_at hl 0 rfl) ?_
    refine lv_iadd hx hb d_B_fillIn_25 ?_
    refine lv_eqi (nI_add _ _) ?_
    refine lv_eqi (show nI ((240 - pl) + 2) = nI (240 - (pl - 2)) from nI_congr (by omega)) ?_
    refine lv_iload_n hx hb d_B_fillIn_26 rfl (lv_at hl 3 rfl) ?_
    refine lv_bipush (v := nI 8) hx hb d_B_fillIn_27 (by decide) ?_
    refine lv_iload_n hx hb d_B_fillIn_29 rfl (lv_at hl 0 rfl) ?_
    refine lv_imul hx hb d_B_fillIn_30 ?_
    refine lv_eqi (show nI 8 * nI 2 = nI 16 by decide) ?_
    refine lv_ishr hx hb d_B_fillIn_31 ?_
    refine lv_i2b hx hb d_B_fillIn_32 rfl ?_
    refine rv_bast hx hb hK hP hD hS 20 12 rfl rfl (k := (pl - 2)) (by omega) (by omega) d_B_fillIn_33 (fun H locs hP hD hS => ?_)
    have hP : va_P D vwCl (Wd a g sLen sKind sExt sMust rTab rFil rNum rLnk rLen rItm made pItm held dByt dLen (va_up (va_up (va_up bByt (pl - 0) (u8 (v >>> (nI 0 &&& 31)))) (pl - 1) (u8 (v >>> (nI 8 &&& 31)))) (pl - 2) (u8 (v >>> (nI 16 &&& 31)))) bRea bRec bItm bFld bOff bOfp kept wrt wid ent ver fAdr fTab adr tab lf) H := hP
    have hD : va_D A (Wd a g sLen sKind sExt sMust rTab rFil rNum rLnk rLen rItm made pItm held dByt dLen (va_up (va_up (va_up bByt (pl - 0) (u8 (v >>> (nI 0 &&& 31)))) (pl - 1) (u8 (v >>> (nI 8 &&& 31)))) (pl - 2) (u8 (v >>> (nI 16 &&& 31)))) bRea bRec bItm bFld bOff bOfp kept wrt wid ent ver fAdr fTab adr tab lf) := hD
    refine lv_iinc (v := nI 3) (lv' := [(3, .int (nI 3)), (0, .ref (a 5)), (1, .int (nI pl)), (2, .int v)]) hx hb d_B_fillIn_34 hl (k := 0) rfl (by decide) (by decide) rfl (fun ls hl => ?_)
    refine lv_goto (tgt := 10) hx hb d_B_fillIn_37 (by decide) ?_
    refine lv_iload_n hx hb d_B_fillIn_10 rfl (lv_at hl 0 rfl) ?_
    refine lv_iconst (v := nI 4) hx hb d_B_fillIn_11 (by decide) ?_
    refine lv_icmp_ge (tgt := 40) hx hb d_B_fillIn_12 (by decide) (fun c_12 => absurd c_12 (by decide)) (fun _ => ?_)
    refine lv_aload_n hx hb d_B_fillIn_15 rfl (lv_at hl 1 rfl) ?_
    refine va_get (D := D) (ci := 5) (C := R_B) (T := T_B) (N := 12) hx hb hts (fun w h => kT w (i_B w h)) hown hK hP 5 rfl rfl 2 (by decide) (hts _ (kT _ wd_9a8b7db0)) (fun _ h9 => h9) rfl d_B_fillIn_16 ?_
    refine lv_sipush (v := nI 240) hx hb d_B_fillIn_19 (by decide) ?_
    refine lv_iload_n hx hb d_B_fillIn_22 rfl (lv_at hl 2 rfl) ?_
    refine lv_isub hx hb d_B_fillIn_23 ?_
    refine lv_eqi (pk_sub (by omega)) ?_
    refine lv_iload_n hx hb d_B_fillIn_24 rfl (lv_at hl 0 rfl) ?_
    refine lv_iadd hx hb d_B_fillIn_25 ?_
    refine lv_eqi (nI_add _ _) ?_
    refine lv_eqi (show nI ((240 - pl) + 3) = nI (240 - (pl - 3)) from nI_congr (by omega)) ?_
    refine lv_iload_n hx hb d_B_fillIn_26 rfl (lv_at hl 3 rfl) ?_
    refine lv_bipush (v := nI 8) hx hb d_B_fillIn_27 (by decide) ?_
    refine lv_iload_n hx hb d_B_fillIn_29 rfl (lv_at hl 0 rfl) ?_
    refine lv_imul hx hb d_B_fillIn_30 ?_
    refine lv_eqi (show nI 8 * nI 3 = nI 24 by decide) ?_
    refine lv_ishr hx hb d_B_fillIn_31 ?_
    refine lv_i2b hx hb d_B_fillIn_32 rfl ?_
    refine rv_bast hx hb hK hP hD hS 20 12 rfl rfl (k := (pl - 3)) (by omega) (by omega) d_B_fillIn_33 (fun H locs hP hD hS => ?_)
    have hP : va_P D vwCl (Wd a g sLen sKind sExt sMust rTab rFil rNum rLnk rLen rItm made pItm held dByt dLen (va_up (va_up (va_up (va_up bByt (pl - 0) (u8 (v >>> (nI 0 &&& 31)))) (pl - 1) (u8 (v >>> (nI 8 &&& 31)))) (pl - 2) (u8 (v >>> (nI 16 &&& 31)))) (pl - 3) (u8 (v >>> (nI 24 &&& 31)))) bRea bRec bItm bFld bOff bOfp kept wrt wid ent ver fAdr fTab adr tab lf) H := hP
    have hD : va_D A (Wd a g sLen sKind sExt sMust rTab rFil rNum rLnk rLen rItm made pItm held dByt dLen (va_up (va_up (va_up (va_up bByt (pl - 0) (u8 (v >>> (nI 0 &&& 31)))) (pl - 1) (u8 (v >>> (nI 8 &&& 31)))) (pl - 2) (u8 (v >>> (nI 16 &&& 31)))) (pl - 3) (u8 (v >>> (nI 24 &&& 31)))) bRea bRec bItm bFld bOff bOfp kept wrt wid ent ver fAdr fTab adr tab lf) := hD
    refine lv_iinc (v := nI 4) (lv' := [(3, .int (nI 4)), (0, .ref (a 5)), (1, .int (nI pl)), (2, .int v)]) hx hb d_B_fillIn_34 hl (k := 0) rfl (by decide) (by decide) rfl (fun ls hl => ?_)
    refine lv_goto (tgt := 10) hx hb d_B_fillIn_37 (by decide) ?_
    refine lv_iload_n hx hb d_B_fillIn_10 rfl (lv_at hl 0 rfl) ?_
    refine lv_iconst (v := nI 4) hx hb d_B_fillIn_11 (by decide) ?_
    refine lv_icmp_ge (tgt := 40) hx hb d_B_fillIn_12 (by decide) (fun _ => ?_) (fun c_12 => absurd (by decide) c_12)
    exact k_vret hx hb hr hlocks hK hP hD hS (trivial) (by rw [if_pos c_4]; rfl) d_B_fillIn_40
  · skip
    have c_4 := mt (nI_leI (by omega) (by omega)).mpr c_4
    exact k_vret hx hb hr hlocks hK hP hD hS (trivial) (by rw [if_neg c_4]) d_B_fillIn_7
set_option maxHeartbeats 4000000 in
set_option maxRecDepth 100000 in
theorem c_B_putNumber (l : Launch) (D : va_G) (a : Nat → Nat) (g : Nat → ClassId) (tw : Nat) (sLen sKind : Nat → Nat) (sExt : Nat → Int32) (sMust : Nat → Bool) (rTab : Nat → Nat) (rFil : Nat → Bool) (rNum : Nat → Int64) (rLnk rLen : Nat → Nat) (rItm : Nat → Int32) (made : Nat) (pItm : Nat → Int32) (held : Nat) (dByt : Nat → Nat) (dLen : Nat) (bByt : Nat → Nat) (bRea : Nat → Bool) (bRec bItm bFld bOff bOfp : Nat → Nat) (kept wrt wid ent : Nat) (ver : Bool) (fAdr fTab adr tab : Nat) (lf : Int32) (v : Int64) (w : Nat)  (hp : pow8 w) (hw : wrt < 90000) (hwd : wid < 100000) : kM l y_B_putNumber b_B_putNumber 5 none ({ frames := 2, cells := 0, slots := 0, locals := 43 }) D vwCl (WdT g) tw [.ref (a 5), .long v, .int (nI w)] (Wd a g sLen sKind sExt sMust rTab rFil rNum rLnk rLen rItm made pItm held dByt dLen bByt bRea bRec bItm bFld bOff bOfp kept wrt wid ent ver fAdr fTab adr tab lf) none (Wd a g sLen sKind sExt sMust rTab rFil rNum rLnk rLen rItm made pItm held dByt dLen (wN bByt wrt v w) bRea bRec bItm bFld bOff bOfp kept (alN w wrt 0 + w) (max wid w) ent ver fAdr fTab adr tab lf) := by
  refine k_of (by decide) (Nat.le_of_ble_eq_true rfl) ?_
  intro p e s m below meth c A ls hx hb hr hlocks hml hts hown hin0 hA hP hK hD hS hZ hl
  have hl : lv_has ls 5 [(0, .ref (a 5)), (1, .long v), (3, .int (nI w))] := hl
  have hw8 : 1 ≤ w ∧ w ≤ 8 := by rcases hp with rfl | rfl | rfl | rfl <;> decide
  have hal := alN_lt (a := wrt) (h := 0) hp
  refine lv_aload_n hx hb d_B_putNumber_0 rfl (lv_at hl 0 rfl) ?_
  refine lv_iload_n hx hb d_B_putNumber_1 rfl (lv_at hl 2 rfl) ?_
  refine lv_iconst (v := nI 0) hx hb d_B_putNumber_2 (by decide) ?_
  refine k_callV (c_B_alignTo l D a g tw sLen sKind sExt sMust rTab rFil rNum rLnk rLen rItm made pItm held dByt dLen bByt bRea bRec bItm bFld bOff bOfp kept wrt wid ent ver fAdr fTab adr tab lf w 0  hp (by omega) (by omega) (by omega)) m_B_alignTo wd_0bd63fdc 5 5 rfl rfl rfl kT hx hb hml hown hts ⟨Nat.le_of_ble_eq_true rfl, Nat.le_of_ble_eq_true rfl⟩ ⟨Nat.le_of_ble_eq_true rfl, Nat.le_of_ble_eq_true rfl⟩ hK hP hD hS hA hZ hl.1 rfl rfl (Nat.le_of_ble_eq_true rfl) d_B_putNumber_3 (fun H locs hP hD hS => ?_)
  have hP : va_P D vwCl (Wd a g sLen sKind sExt sMust rTab rFil rNum rLnk rLen rItm made pItm held dByt dLen bByt bRea bRec bItm bFld bOff bOfp kept (alN w wrt 0) (max wid w) ent ver fAdr fTab adr tab lf) H := hP
  have hD : va_D A (Wd a g sLen sKind sExt sMust rTab rFil rNum rLnk rLen rItm made pItm held dByt dLen bByt bRea bRec bItm bFld bOff bOfp kept (alN w wrt 0) (max wid w) ent ver fAdr fTab adr tab lf) := hD
  refine W.eq (g2 := F0 m 6 ls []) rfl ?_
  refine lv_iload_n hx hb d_B_putNumber_6 rfl (lv_at hl 2 rfl) ?_
  refine lv_iconst (v := nI 1) hx hb d_B_putNumber_7 (by decide) ?_
  refine lv_isub hx hb d_B_putNumber_8 ?_
  refine lv_istore (lv' := [(4, .int ((nI w) - (nI 1))), (0, .ref (a 5)), (1, .long v), (3, .int (nI w))]) hx hb d_B_putNumber_9 hl (by decide) rfl (fun ls hl => ?_)
  have e_4 : (nI w) - (nI 1) = nI (w - 0) - 1 := by rw [nI_1e]; rfl
  have hl : lv_has ls 5 [(4, .int (nI (w - 0) - 1)), (0, .ref (a 5)), (1, .long v), (3, .int (nI w))] := by rw [← e_4]; exact hl
  have hP : va_P D vwCl (Wd a g sLen sKind sExt sMust rTab rFil rNum rLnk rLen rItm made pItm held dByt dLen (wNr bByt (alN w wrt 0) v w 0) bRea bRec bItm bFld bOff bOfp kept (alN w wrt 0 + 0) (max wid w) ent ver fAdr fTab adr tab lf) _ := hP
  have hD : va_D A (Wd a g sLen sKind sExt sMust rTab rFil rNum rLnk rLen rItm made pItm held dByt dLen (wNr bByt (alN w wrt 0) v w 0) bRea bRec bItm bFld bOff bOfp kept (alN w wrt 0 + 0) (max wid w) ent ver fAdr fTab adr tab lf) := hD
  have L_11 : ∀ (n : Nat) (nn : Nat), (nn ≤ w) → w - nn < n → ∀ (H : Heap) (locs : List Loc) (ls : Array Slot), va_P D vwCl (Wd a g sLen sKind sExt sMust rTab rFil rNum rLnk rLen rItm made pItm held dByt dLen (wNr bByt (alN w wrt 0) v w nn) bRea bRec bItm bFld bOff bOfp kept (alN w wrt 0 + nn) (max wid w) ent ver fAdr fTab adr tab lf) H → va_D A (Wd a g sLen sKind sExt sMust rTab rFil rNum rLnk rLen rItm made pItm held dByt dLen (wNr bByt (alN w wrt 0) v w nn) bRea bRec bItm bFld bOff bOfp kept (alN w wrt 0 + nn) (max wid w) ent ver fAdr fTab adr tab lf) → va_S A s.heap H locs → lv_has ls 5 [(4, .int (nI (w - nn) - 1)), (0, .ref (a 5)), (1, .long v), (3, .int (nI w))] → W p l e ({ frames := 2, cells := 0, slots := 0, locals := 43 }) s m ([.ref (a 5), .long v, .int (nI w)] : List Value).toArray below meth c H locs 0 0 (MQ below (kQ D vwCl (WdT g) A True none (Wd a g sLen sKind sExt sMust rTab rFil rNum rLnk rLen rItm made pItm held dByt dLen (wN bByt wrt v w) bRea bRec bItm bFld bOff bOfp kept (alN w wrt 0 + w) (max wid w) ent ver fAdr fTab adr tab lf)) ([.ref (a 5), .long v, .int (nI w)] : List Value).toArray s 0 0 A) (F0 m 11 ls []) := by
    intro n
    induction n with
    | zero => intro nn hn hm; exact absurd hm (Nat.not_lt_zero _)
    | succ n ih_11 =>
      intro nn hn hm_11 H locs ls hP hD hS hl
      refine lv_iload hx hb d_B_putNumber_11 (lv_at hl 0 rfl) ?_
      refine lv_if_lt (tgt := 34) hx hb d_B_putNumber_13 (by decide) (fun c_13 => ?_) (fun c_13 => ?_)
      · skip
        exact k_vret hx hb hr hlocks hK hP hD hS (trivial) (by rw [show nn = w by have := (dn_lt (by omega)).mp c_13; omega]; rfl) d_B_putNumber_34
      · skip
        have hj : ¬ (w - nn) = 0 := mt (dn_lt (by omega)).mpr c_13
        have hl : lv_has ls 5 [(4, .int (nI ((w - nn) - 1))), (0, .ref (a 5)), (1, .long v), (3, .int (nI w))] := by rw [← dn_in hj]; exact hl
        refine lv_aload_n hx hb d_B_putNumber_16 rfl (lv_at hl 1 rfl) ?_
        refine lv_lload_n hx hb d_B_putNumber_17 rfl (lv_at hl 2 rfl) ?_
        refine lv_bipush (v := nI 8) hx hb d_B_putNumber_18 (by decide) ?_
        refine lv_iload hx hb d_B_putNumber_20 (lv_at hl 0 rfl) ?_
        refine lv_imul hx hb d_B_putNumber_22 ?_
        refine lv_eqi (pk_mul _ _) ?_
        refine lv_lshr hx hb d_B_putNumber_23 rfl ?_
        refine lv_l2i hx hb d_B_putNumber_24 rfl ?_
        refine k_callV (c_B_putByte l D a g tw sLen sKind sExt sMust rTab rFil rNum rLnk rLen rItm made pItm held dByt dLen (wNr bByt (alN w wrt 0) v w nn) bRea bRec bItm bFld bOff bOfp kept (alN w wrt 0 + nn) (max wid w) ent ver fAdr fTab adr tab lf ((v >>> ((nI (8 * ((w - nn) - 1))).toInt64 &&& 63)).toInt32)  (by omega)) m_B_putByte wd_9ecc1d1e 5 5 rfl rfl rfl kT hx hb hml hown hts ⟨Nat.le_of_ble_eq_true rfl, Nat.le_of_ble_eq_true rfl⟩ ⟨Nat.le_of_ble_eq_true rfl, Nat.le_of_ble_eq_true rfl⟩ hK hP hD hS hA hZ hl.1 rfl rfl (Nat.le_of_ble_eq_true rfl) d_B_putNumber_25 (fun H locs hP hD hS => ?_)
        have hP : va_P D vwCl (Wd a g sLen sKind sExt sMust rTab rFil rNum rLnk rLen rItm made pItm held dByt dLen (va_up (wNr bByt (alN w wrt 0) v w nn) ((alN w wrt 0 + nn) + 1) (u8 ((v >>> ((nI (8 * ((w - nn) - 1))).toInt64 &&& 63)).toInt32))) bRea bRec bItm bFld bOff bOfp kept ((alN w wrt 0 + nn) + 1) (max wid w) ent ver fAdr fTab adr tab lf) H := hP
        have hD : va_D A (Wd a g sLen sKind sExt sMust rTab rFil rNum rLnk rLen rItm made pItm held dByt dLen (va_up (wNr bByt (alN w wrt 0) v w nn) ((alN w wrt 0 + nn) + 1) (u8 ((v >>> ((nI (8 * ((w - nn) - 1))).toInt64 &&& 63)).toInt32))) bRea bRec bItm bFld bOff bOfp kept ((alN w wrt 0 + nn) + 1) (max wid w) ent ver fAdr fTab adr tab lf) := hD
        refine W.eq (g2 := F0 m 28 ls []) rfl ?_
        refine lv_iinc (v := (nI ((w - nn) - 1)) + (-1)) (lv' := [(4, .int ((nI ((w - nn) - 1)) + (-1))), (0, .ref (a 5)), (1, .long v), (3, .int (nI w))]) hx hb d_B_putNumber_28 hl (k := 0) rfl rfl (by decide) rfl (fun ls hl => ?_)
        refine lv_goto (tgt := 11) hx hb d_B_putNumber_31 (by decide) ?_
        have e_4 : (nI ((w - nn) - 1)) + (-1) = nI (w - (nn + 1)) - 1 := dn_step _
        have hl : lv_has ls 5 [(4, .int (nI (w - (nn + 1)) - 1)), (0, .ref (a 5)), (1, .long v), (3, .int (nI w))] := by rw [← e_4]; exact hl
        have hP : va_P D vwCl (Wd a g sLen sKind sExt sMust rTab rFil rNum rLnk rLen rItm made pItm held dByt dLen (wNr bByt (alN w wrt 0) v w (nn + 1)) bRea bRec bItm bFld bOff bOfp kept (alN w wrt 0 + (nn + 1)) (max wid w) ent ver fAdr fTab adr tab lf) H := hP
        have hD : va_D A (Wd a g sLen sKind sExt sMust rTab rFil rNum rLnk rLen rItm made pItm held dByt dLen (wNr bByt (alN w wrt 0) v w (nn + 1)) bRea bRec bItm bFld bOff bOfp kept (alN w wrt 0 + (nn + 1)) (max wid w) ent ver fAdr fTab adr tab lf) := hD
        exact ih_11 (nn + 1) (by omega) (by omega) _ _ _ hP hD hS (lv_sub hl [0, 1, 2, 3] rfl)
  exact L_11 ((w - 0) + 1) 0 (by omega) (by omega) _ _ _ hP hD hS (lv_sub hl [0, 1, 2, 3] rfl)
set_option maxHeartbeats 4000000 in
set_option maxRecDepth 100000 in
theorem c_B_putReference (l : Launch) (D : va_G) (a : Nat → Nat) (g : Nat → ClassId) (tw : Nat) (sLen sKind : Nat → Nat) (sExt : Nat → Int32) (sMust : Nat → Bool) (rTab : Nat → Nat) (rFil : Nat → Bool) (rNum : Nat → Int64) (rLnk rLen : Nat → Nat) (rItm : Nat → Int32) (made : Nat) (pItm : Nat → Int32) (held : Nat) (dByt : Nat → Nat) (dLen : Nat) (bByt : Nat → Nat) (bRea : Nat → Bool) (bRec bItm bFld bOff bOfp : Nat → Nat) (kept wrt wid ent : Nat) (ver : Bool) (fAdr fTab adr tab : Nat) (lf : Int32) (pl : Nat)  (hw : wrt < 80000) (hwd : wid < 100000) : kM l y_B_putReference b_B_putReference 2 none ({ frames := 3, cells := 0, slots := 0, locals := 67 }) D vwCl (WdT g) tw [.ref (a 5), .int (nI pl)] (Wd a g sLen sKind sExt sMust rTab rFil rNum rLnk rLen rItm made pItm held dByt dLen bByt bRea bRec bItm bFld bOff bOfp kept wrt wid ent ver fAdr fTab adr tab lf) none (Wd a g sLen sKind sExt sMust rTab rFil rNum rLnk rLen rItm made pItm held dByt dLen (wN bByt (alN 4 wrt 0) (nI (alN 4 wrt 0 + 4) - nI pl).toInt64 4) bRea bRec bItm bFld bOff bOfp kept (alN 4 (alN 4 wrt 0) 0 + 4) (max (max wid 4) 4) ent ver fAdr fTab adr tab lf) := by
  refine k_of (by decide) (Nat.le_of_ble_eq_true rfl) ?_
  intro p e s m below meth c A ls hx hb hr hlocks hml hts hown hin0 hA hP hK hD hS hZ hl
  have hl : lv_has ls 2 [(0, .ref (a 5)), (1, .int (nI pl))] := hl
  have hp : pow8 4 := Or.inr (Or.inr (Or.inl rfl))
  have hal := alN_lt (a := wrt) (h := 0) hp
  have hal2 : wrt ≤ alN 4 wrt 0 := Nat.le_add_right _ _
  refine lv_aload_n hx hb d_B_putReference_0 rfl (lv_at hl 0 rfl) ?_
  refine lv_iconst (v := nI 4) hx hb d_B_putReference_1 (by decide) ?_
  refine lv_iconst (v := nI 0) hx hb d_B_putReference_2 (by decide) ?_
  refine k_callV (c_B_alignTo l D a g tw sLen sKind sExt sMust rTab rFil rNum rLnk rLen rItm made pItm held dByt dLen bByt bRea bRec bItm bFld bOff bOfp kept wrt wid ent ver fAdr fTab adr tab lf 4 0  hp (by omega) (by omega) (by omega)) m_B_alignTo wd_0bd63fdc 5 5 rfl rfl rfl kT hx hb hml hown hts ⟨Nat.le_of_ble_eq_true rfl, Nat.le_of_ble_eq_true rfl⟩ ⟨Nat.le_of_ble_eq_true rfl, Nat.le_of_ble_eq_true rfl⟩ hK hP hD hS hA hZ hl.1 rfl rfl (Nat.le_of_ble_eq_true rfl) d_B_putReference_3 (fun H locs hP hD hS => ?_)
  have hP : va_P D vwCl (Wd a g sLen sKind sExt sMust rTab rFil rNum rLnk rLen rItm made pItm held dByt dLen bByt bRea bRec bItm bFld bOff bOfp kept (alN 4 wrt 0) (max wid 4) ent ver fAdr fTab adr tab lf) H := hP
  have hD : va_D A (Wd a g sLen sKind sExt sMust rTab rFil rNum rLnk rLen rItm made pItm held dByt dLen bByt bRea bRec bItm bFld bOff bOfp kept (alN 4 wrt 0) (max wid 4) ent ver fAdr fTab adr tab lf) := hD
  refine W.eq (g2 := F0 m 6 ls []) rfl ?_
  refine lv_aload_n hx hb d_B_putReference_6 rfl (lv_at hl 0 rfl) ?_
  refine lv_aload_n hx hb d_B_putReference_7 rfl (lv_at hl 0 rfl) ?_
  refine va_get (D := D) (ci := 5) (C := R_B) (T := T_B) (N := 12) hx hb hts (fun w h => kT w (i_B w h)) hown hK hP 5 rfl rfl 10 (by decide) (hts _ (kT _ wd_0bdfa4a3)) (fun _ h9 => h9) rfl d_B_putReference_8 ?_
  refine lv_iconst (v := nI 4) hx hb d_B_putReference_11 (by decide) ?_
  refine lv_iadd hx hb d_B_putReference_12 ?_
  refine lv_eqi (nI_add _ _) ?_
  refine lv_iload_n hx hb d_B_putReference_13 rfl (lv_at hl 1 rfl) ?_
  refine lv_isub hx hb d_B_putReference_14 ?_
  refine lv_i2l hx hb d_B_putReference_15 rfl ?_
  refine lv_iconst (v := nI 4) hx hb d_B_putReference_16 (by decide) ?_
  refine k_callV (c_B_putNumber l D a g tw sLen sKind sExt sMust rTab rFil rNum rLnk rLen rItm made pItm held dByt dLen bByt bRea bRec bItm bFld bOff bOfp kept (alN 4 wrt 0) (max wid 4) ent ver fAdr fTab adr tab lf (((nI ((alN 4 wrt 0) + 4)) - (nI pl)).toInt64) 4  hp (by omega) (by omega)) m_B_putNumber wd_252b710e 5 5 rfl rfl rfl kT hx hb hml hown hts ⟨Nat.le_of_ble_eq_true rfl, Nat.le_of_ble_eq_true rfl⟩ ⟨Nat.le_of_ble_eq_true rfl, Nat.le_of_ble_eq_true rfl⟩ hK hP hD hS hA hZ hl.1 rfl rfl (Nat.le_of_ble_eq_true rfl) d_B_putReference_17 (fun H locs hP hD hS => ?_)
  have hP : va_P D vwCl (Wd a g sLen sKind sExt sMust rTab rFil rNum rLnk rLen rItm made pItm held dByt dLen (wN bByt (alN 4 wrt 0) (((nI ((alN 4 wrt 0) + 4)) - (nI pl)).toInt64) 4) bRea bRec bItm bFld bOff bOfp kept (alN 4 (alN 4 wrt 0) 0 + 4) (max (max wid 4) 4) ent ver fAdr fTab adr tab lf) H := hP
  have hD : va_D A (Wd a g sLen sKind sExt sMust rTab rFil rNum rLnk rLen rItm made pItm held dByt dLen (wN bByt (alN 4 wrt 0) (((nI ((alN 4 wrt 0) + 4)) - (nI pl)).toInt64) 4) bRea bRec bItm bFld bOff bOfp kept (alN 4 (alN 4 wrt 0) 0 + 4) (max (max wid 4) 4) ent ver fAdr fTab adr tab lf) := hD
  refine W.eq (g2 := F0 m 20 ls []) rfl ?_
  exact k_vret hx hb hr hlocks hK hP hD hS (trivial) (rfl) d_B_putReference_20

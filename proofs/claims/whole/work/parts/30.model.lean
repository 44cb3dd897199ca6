def Wm (am : Nat → Nat) (gm : Nat → ClassId) (sLen sKind : Nat → Nat) (sExt : Nat → Int32) (sMust : Nat → Bool) (rTab : Nat → Nat) (rFil : Nat → Bool) (mNum : Nat → Int64) (rLen : Nat → Nat) (rItm : Nat → Int32) (made : Nat) (pItm : Nat → Int32) (held : Nat) (dByt : Nat → Nat) (dLen : Nat) (ver : Bool) (fAdr fTab adr tab : Nat) (lf : Int32) (mCode : Nat) (row : Nat → Nat) (mWr mWid : Nat) (mOv : Bool) (mPl mTh mSp mPile mNext mSh : Nat → Nat) (mShs : Nat) (mRea : Nat → Bool) (mWg : Int32) (mEn mDp : Nat) (mAt mTb mSt : Nat → Nat) : va_W :=
  [(am 0, .inr (8, [.int (nI mCode), .ref (am 1), .ref (am 2), .ref (am 3), .ref (am 4), .ref (am 5), .int (nI made), .ref (am 6), .ref (am 7), .ref (am 8), .ref (am 9), .ref (am 10), .int (nI held), .ref (am 11), .int (nI mWr), .int (nI mWid), .int (bI mOv), .ref (am 12), .ref (am 13), .ref (am 14), .ref (am 15), .ref (am 16), .ref (am 17), .int (nI mShs), .ref (am 18), .ref (am 19), .int (nI dLen), .int (bI ver), .int (nI fAdr), .int (nI fTab), .int (nI adr), .int (nI tab), .int lf, .int mWg, .int (nI mEn), .int (nI mDp), .ref (am 20), .ref (am 21), .ref (am 22)])),
   (am 1, .inl (gm 0, 4, .inl (fun j => nI (sLen j)))),
   (am 2, .inl (gm 1, 24, .inl (fun j => nI (sKind j)))),
   (am 3, .inl (gm 2, 24, .inl sExt)),
   (am 4, .inl (gm 3, 24, .inl (fun j => bI (sMust j)))),
   (am 5, .inl (gm 4, 16, .inl (fun j => nI (rTab j)))),
   (am 6, .inl (gm 5, 96, .inl (fun j => bI (rFil j)))),
   (am 7, .inl (gm 6, 96, .inr (.inl mNum))),
   (am 8, .inl (gm 7, 96, .inl (fun j => nI (rLen j)))),
   (am 9, .inl (gm 8, 1152, .inl rItm)),
   (am 10, .inl (gm 9, 12, .inl pItm)),
   (am 11, .inl (gm 10, 260, .inl (fun j => nI (row (260 - j))))),
   (am 12, .inl (gm 11, 16, .inl (fun j => nI (mPl j)))),
   (am 13, .inl (gm 12, 96, .inl (fun j => nI (mTh j)))),
   (am 14, .inl (gm 13, 6, .inl (fun j => nI (mSp j)))),
   (am 15, .inl (gm 14, 17, .inl (fun j => nI (mPile j)))),
   (am 16, .inl (gm 15, 17, .inl (fun j => nI (mNext j)))),
   (am 17, .inl (gm 16, 16, .inl (fun j => nI (mSh j)))),
   (am 18, .inl (gm 17, 16, .inl (fun j => bI (mRea j)))),
   (am 19, .inl (gm 18, 240, .inl (fun j => nI (dByt j)))),
   (am 20, .inl (gm 19, 8, .inl (fun j => nI (mAt j)))),
   (am 21, .inl (gm 20, 8, .inl (fun j => nI (mTb j)))),
   (am 22, .inl (gm 21, 8, .inl (fun j => nI (mSt j))))]
def WmT (gm : Nat → ClassId) : List (ClassId × FieldType) := [(gm 0, .int), (gm 1, .int), (gm 2, .int), (gm 3, .boolean), (gm 4, .int), (gm 5, .boolean), (gm 6, .long), (gm 7, .int), (gm 8, .int), (gm 9, .int), (gm 10, .int), (gm 11, .int), (gm 12, .int), (gm 13, .int), (gm 14, .int), (gm 15, .int), (gm 16, .int), (gm 17, .boolean), (gm 18, .int), (gm 19, .int), (gm 20, .int), (gm 21, .int)]
/-! the model -/
section KRw
variable {p : Program} {l : Launch} {e : Env} {R : Room} {s : State} {m : MethodId} {args : Array Value} {below : List Frame} {meth : Method} {c : Code} {H : Heap} {locs : List Loc} {cells slots : Nat} {Q : State → Prop}
variable {cc : ByteArray} {pc : Nat} {ls : Array Slot} {rest : List Value} {D : va_G} {cl : List vw_C} {A : Nat → Prop} {a : Nat} {tys : List (ClassId × FieldType)} {ws : va_W} {H0 : Heap}
theorem rw_iast (hexec : p.tables.exec = Jvm.exec) (hb : c.code = cc) (hK : va_K D cl tys s) (hP : va_P D cl ws H) (hD : va_D A ws) (hS : va_S A H0 H locs) (q0 t0 : Nat) {cA : ClassId} {f : Nat → Nat} (ha : ws[q0]? = some (a, .inl (cA, 260, .inl (fun j => nI (f (260 - j)))))) (ht : tys[t0]? = some (cA, .int)) {k v : Nat} (h1 : 1 ≤ k) (h2 : k ≤ 260) (hdg : decode cc pc = .ok (.iastore, 1))
    (kk : ∀ (H1 : Heap) (locs1 : List Loc), va_P D cl (ws.set q0 (a, .inl (cA, 260, .inl (fun j => nI (va_up f k v (260 - j)))))) H1 → va_D A (ws.set q0 (a, .inl (cA, 260, .inl (fun j => nI (va_up f k v (260 - j)))))) → va_S A H0 H1 locs1 → W p l e R s m args below meth c H1 locs1 cells slots Q (F0 m (pc + 1) ls rest)) : W p l e R s m args below meth c H locs cells slots Q (F0 m pc ls (.int (nI v) :: .int (nI (260 - k)) :: .ref a :: rest)) := by
  refine n_iast (f := fun j => f (260 - j)) hexec hb hK hP hD hS q0 t0 ha ht (i := 260 - k) (by omega) (by decide) hdg ?_
  have e : (fun j => nI (va_up (fun j => f (260 - j)) (260 - k) v j)) = fun j => nI (va_up f k v (260 - j)) := by
    funext j
    simp only [va_up]
    by_cases h : j = 260 - k
    · rw [if_pos h, if_pos (by omega)]
    · rw [if_neg h, if_neg (by omega)]
  rw [e]
  exact kk
end KRw
def outB (v hi : Int32) : Bool := decide (v < 0 ∨ ¬ v ≤ hi)
theorem out_h {n : Nat} {x : Int32} (hn : n < 2 ^ 31) : outB x (nI n - nI 1) = !(hasF n x) := by
  have e : (nI n - nI 1).toInt = (n : Int) - 1 := by
    rw [Int32.toInt_sub, nI_toInt hn, nI_toInt (by decide)]
    exact Int.bmod_eq_of_le (by omega) (by omega)
  have h : x ≤ nI n - nI 1 ↔ ¬ nI n ≤ x := by
    rw [Int32.le_iff_toInt_le, Int32.le_iff_toInt_le, e, nI_toInt hn]
    omega
  unfold outB hasF
  by_cases h1 : x < 0
  · simp [h1]
  · by_cases h2 : nI n ≤ x
    · simp [h1, h2, h]
    · simp [h1, h2, h]
theorem out_y {n : Nat} {x : Int32} (hn : n < 2 ^ 31) (h : outB x (nI n - nI 1) = false) : hasF n x = true := by rw [out_h hn] at h; simpa using h
theorem out_n {n : Nat} {x : Int32} (hn : n < 2 ^ 31) (h : outB x (nI n - nI 1) = true) : hasF n x = false := by rw [out_h hn] at h; simpa using h
theorem out_3 (x : Int32) : outB x (nI 3) = !(okT x) := (congrArg (outB x) (show nI 3 = nI 4 - nI 1 by decide)).trans (out_h (by decide))
theorem t_y {x : Int32} (h : outB x (nI 3) = false) : okT x = true := by rw [out_3] at h; simpa using h
theorem t_n {x : Int32} (h : outB x (nI 3) = true) : okT x = false := by rw [out_3] at h; simpa using h
theorem o_y {v hi : Int32} (h : outB v hi = false) : ¬ v < 0 ∧ v ≤ hi := by
  have h1 := of_decide_eq_false h
  exact ⟨fun z => h1 (Or.inl z), Classical.not_not.mp (fun z => h1 (Or.inr z))⟩
theorem o_n {v hi : Int32} (h : outB v hi = true) : v < 0 ∨ ¬ v ≤ hi := of_decide_eq_true h
theorem i_nlt {a b : Int32} (h : a ≤ b) : ¬ b < a := by
  rw [Int32.le_iff_toInt_le] at h
  rw [Int32.lt_iff_toInt_lt]
  omega
theorem i_lt {a b : Int32} (h : ¬ a ≤ b) : b < a := by
  rw [Int32.le_iff_toInt_le] at h
  rw [Int32.lt_iff_toInt_lt]
  omega
theorem le1 {d : Nat → Nat} {n : Nat} {x : Int32} (h : hasF n x = true) : leN d n x 1 = d (cN x) := by
  show 0 + bAt d n (x + nI 0) * 2 ^ (8 * 0) = _
  rw [nI_0, Int32.add_zero, bAt, if_pos h]
  omega
theorem hasF_in {n a : Nat} (h : a < n) (hn : n < 2 ^ 31) : hasF n (nI a) = true := decide_eq_true ⟨nI_pos (by omega), nI_ge h hn⟩
theorem bAt_in {d : Nat → Nat} {n a : Nat} (h : a < n) (hn : n < 2 ^ 31) : bAt d n (nI a) = d a := by rw [bAt, if_pos (hasF_in h hn), cN_nI (by omega)]
theorem le2 {d : Nat → Nat} {n a : Nat} (h : a + 2 ≤ n) (hn : n < 2 ^ 31) : leN d n (nI a) 2 = d a + 256 * d (a + 1) := by
  show 0 + bAt d n (nI a + nI 0) * 2 ^ (8 * 0) + bAt d n (nI a + nI 1) * 2 ^ (8 * 1) = _
  rw [nI_add, nI_add, bAt_in (by omega) hn, bAt_in (by omega) hn]
  show 0 + d a * 1 + d (a + 1) * 256 = _
  omega
theorem le4 {d : Nat → Nat} {n a : Nat} (h : a + 4 ≤ n) (hn : n < 2 ^ 31) : leN d n (nI a) 4 = leN d n (nI a) 2 + 65536 * leN d n (nI (a + 2)) 2 := by
  rw [le2 (by omega) hn, le2 (by omega) hn]
  show 0 + bAt d n (nI a + nI 0) * 2 ^ (8 * 0) + bAt d n (nI a + nI 1) * 2 ^ (8 * 1) + bAt d n (nI a + nI 2) * 2 ^ (8 * 2) + bAt d n (nI a + nI 3) * 2 ^ (8 * 3) = _
  rw [nI_add, nI_add, nI_add, nI_add, bAt_in (by omega) hn, bAt_in (by omega) hn, bAt_in (by omega) hn, bAt_in (by omega) hn]
  show 0 + d a * 1 + d (a + 1) * 256 + d (a + 2) * 65536 + d (a + 3) * 16777216 = d a + 256 * d (a + 1) + 65536 * (d (a + 2) + 256 * d (a + 2 + 1))
  rw [show a + 2 + 1 = a + 3 by omega]
  omega
theorem b255 (x : Int32) : x &&& nI 255 = nI (u8 x) := pk_and _ 8 (by decide)
theorem i64_inj (a b : Int32) : a.toInt64 = b.toInt64 ↔ a = b := ⟨fun h => by have h9 := congrArg Int64.toInt32 h; rwa [Int32.toInt32_toInt64, Int32.toInt32_toInt64] at h9, fun h => by rw [h]⟩
theorem brI_0 (x : Int32) : brI 0 x.toInt64 = x.toInt64 ↔ ¬ x < -128 ∧ x ≤ nI 127 := by
  have e : x.toInt64.toInt32 = x := Int32.toInt32_toInt64 x
  show x.toInt64.toInt32.toInt8.toInt32.toInt64 = x.toInt64 ↔ _
  rw [e, i64_inj, Int32.lt_iff_toInt_lt, Int32.le_iff_toInt_le, ← Int32.toInt_inj, Int8.toInt_toInt32, Int32.toInt_toInt8, nI_toInt (by decide), show (-128 : Int32).toInt = -128 by decide, Int.bmod_def]
  have h1 := Int32.le_toInt x
  have h2 := Int32.toInt_lt x
  constructor
  · intro h
    split at h <;> omega
  · intro h
    split <;> omega
theorem brI_1 (x : Int32) : brI 1 x.toInt64 = x.toInt64 ↔ ¬ x < -32768 ∧ x ≤ nI 32767 := by
  have e : x.toInt64.toInt32 = x := Int32.toInt32_toInt64 x
  show x.toInt64.toInt32.toInt16.toInt32.toInt64 = x.toInt64 ↔ _
  rw [e, i64_inj, Int32.lt_iff_toInt_lt, Int32.le_iff_toInt_le, ← Int32.toInt_inj, Int16.toInt_toInt32, Int32.toInt_toInt16, nI_toInt (by decide), show (-32768 : Int32).toInt = -32768 by decide, Int.bmod_def]
  have h1 := Int32.le_toInt x
  have h2 := Int32.toInt_lt x
  constructor
  · intro h
    split at h <;> omega
  · intro h
    split <;> omega
theorem suT_2 (x : Int32) : suT 2 x = true := by
  have e : x.toInt64.toInt32 = x := Int32.toInt32_toInt64 x
  have h : brI 2 x.toInt64 = x.toInt64 := by show x.toInt64.toInt32.toInt64 = _; rw [e]
  show (false || decide (brI 2 x.toInt64 = x.toInt64)) = true
  rw [decide_eq_true h]; rfl
theorem suT_3 (x : Int32) : suT 3 x = true := by
  show (false || decide (x.toInt64 = x.toInt64)) = true
  rw [decide_eq_true rfl]; rfl
theorem suT_0 {x : Int32} (h1 : ¬ x < -128) (h2 : x ≤ nI 127) : suT 0 x = true := by
  show (false || decide (brI 0 x.toInt64 = x.toInt64)) = true
  rw [decide_eq_true ((brI_0 x).mpr ⟨h1, h2⟩)]; rfl
theorem suT_1 {x : Int32} (h1 : ¬ x < -32768) (h2 : x ≤ nI 32767) : suT 1 x = true := by
  show (false || decide (brI 1 x.toInt64 = x.toInt64)) = true
  rw [decide_eq_true ((brI_1 x).mpr ⟨h1, h2⟩)]; rfl
theorem suT_0n {x : Int32} (h : x < -128 ∨ nI 127 < x) : suT 0 x = false := by
  show (false || decide (brI 0 x.toInt64 = x.toInt64)) = false
  rw [decide_eq_false (fun z => h.elim ((brI_0 x).mp z).1 (i_nlt ((brI_0 x).mp z).2))]; rfl
theorem suT_1n {x : Int32} (h : x < -32768 ∨ nI 32767 < x) : suT 1 x = false := by
  show (false || decide (brI 1 x.toInt64 = x.toInt64)) = false
  rw [decide_eq_false (fun z => h.elim ((brI_1 x).mp z).1 (i_nlt ((brI_1 x).mp z).2))]; rfl
theorem suT_r {k : Nat} {x : Int32} (h0 : ¬ k = 0) (h1 : ¬ k = 1) (h6 : ¬ k = 6) : suT k x = true := by
  by_cases h4 : 4 ≤ k
  · rw [suT, if_neg h6, decide_eq_true h4]; rfl
  · have h : k = 2 ∨ k = 3 := by omega
    rcases h with rfl | rfl
    · exact suT_2 x
    · exact suT_3 x
theorem i_le {a b : Int32} (h : ¬ b < a) : a ≤ b := by
  rw [Int32.lt_iff_toInt_lt] at h
  rw [Int32.le_iff_toInt_le]
  omega
theorem kWd_4 {k : Nat} (h : k < 7) (h0 : ¬ k = 0) (h1 : ¬ k = 1) (h3 : ¬ k = 3) : kWd k = 4 := by
  have h9 : k = 2 ∨ k = 4 ∨ k = 5 ∨ k = 6 := by omega
  rcases h9 with rfl | rfl | rfl | rfl <;> rfl
theorem upL_self (f : Nat → Int64) (k : Nat) (v : Int64) : vp_updL f k v k = v := if_pos rfl
theorem n127 (x : Int32) : (x &&& nI 127).toInt16.toInt32 = x &&& nI 127 := by
  rw [pk_and x 7 (by decide)]
  have h : x.toBitVec.toNat % 2 ^ 7 < 2 ^ 7 := Nat.mod_lt _ (by decide)
  generalize x.toBitVec.toNat % 2 ^ 7 = u at *
  apply Int32.toInt_inj.mp
  rw [Int16.toInt_toInt32, Int32.toInt_toInt16, nI_toInt (by omega)]
  exact Int.bmod_eq_of_le (by omega) (by omega)
theorem and_m1 (x : Int32) : x &&& -1 = x := by
  apply Int32.toBitVec_inj.mp
  show x.toBitVec &&& BitVec.allOnes 32 = x.toBitVec
  exact BitVec.and_allOnes
theorem l64 {u : Nat} (h : u < 2 ^ 62) : (lN u).toInt = (u : Int) := by
  rw [lN_ti (by omega), if_pos (by omega)]
theorem four_eq {a b : Nat} (ha : a < 2 ^ (8 * 2)) (hb : b < 2 ^ (8 * 2)) : (nI a).toInt64 + 65536 * (nI b).toInt64 = lN (a + 65536 * b) := by
  have ha' : a < 65536 := ha
  have hb' : b < 65536 := hb
  apply Int64.toInt_inj.mp
  rw [Int64.toInt_add, Int64.toInt_mul, nI_64 (by omega), nI_64 (by omega), l64 (by omega), show (65536 : Int64).toInt = 65536 by decide, bm64 (z := 65536 * (b : Int)) (by omega) (by omega), bm64 (by omega) (by omega)]
  omega
theorem l_le {u : Nat} (h : u < 2 ^ (8 * 4)) : lN u ≤ 100000 ↔ u ≤ 100000 := by
  have h' : u < 4294967296 := h
  rw [Int64.le_iff_toInt_le, l64 (by omega), show (100000 : Int64).toInt = 100000 by decide]
  omega
theorem lN_i32 (u : Nat) : (lN u).toInt32 = nI u := by
  apply Int32.toBitVec_inj.mp
  show ((BitVec.ofNat 64 u).signExtend 32) = BitVec.ofNat 32 u
  rw [BitVec.signExtend_eq_setWidth_of_le _ (by decide), BitVec.setWidth_ofNat_of_le (by decide)]
theorem sx4 {u : Nat} (h : u < 2 ^ (8 * 4)) : (lN u).toInt32.toInt64 = sxL 4 u := by
  have h' : u < 4294967296 := h
  apply Int64.toInt_inj.mp
  rw [sxL_toInt (by decide) (by decide) h, Int32.toInt_toInt64, Int64.toInt_toInt32, l64 (by omega), Int.bmod_def]
  show (if (u : Int) % 4294967296 < (4294967296 + 1) / 2 then (u : Int) % 4294967296 else (u : Int) % 4294967296 - 4294967296) = if 2 * u < 4294967296 then (u : Int) else (u : Int) - 4294967296
  split <;> split <;> omega
theorem tat_eq {d : Nat → Nat} {n a : Nat} (h : leN d n (nI a) 4 < 2 ^ (8 * 4)) : nI a - (lN (leN d n (nI a) 4)).toInt32 = vOf d n a := by
  show _ = ((nI a).toInt64 - sxL 4 (leN d n (nI a) 4)).toInt32
  rw [← sx4 h, Int64.toInt32_sub, Int32.toInt32_toInt64, Int32.toInt32_toInt64]
theorem cpI_4 {f p : Nat → Int32} {kd b i : Nat} (h : kd = 4) : cpI f p (if kd = 4 then nI 127 else -1) b (i + 1) = upd (cpI f p (if kd = 4 then nI 127 else -1) b i) (b + i) (p i &&& nI 127) := by
  rw [if_pos h, cpI, n127]
theorem cpI_5 {f p : Nat → Int32} {kd b i : Nat} (h : ¬ kd = 4) (hp : (p i).toInt16.toInt32 = p i) : cpI f p (if kd = 4 then nI 127 else -1) b (i + 1) = upd (cpI f p (if kd = 4 then nI 127 else -1) b i) (b + i) (p i) := by
  rw [if_neg h, cpI, and_m1 (p i), hp]
theorem suT_45 {k : Nat} {x : Int32} (h : 4 ≤ k) (h6 : ¬ k = 6) : suT k x = true := by rw [suT, if_neg h6, decide_eq_true h]; rfl
theorem suT_6 (x : Int32) : suT 6 x = okT x := rfl
theorem cdF_1a {sLen : Nat → Nat} {t k x : Int32} {b : Bool} (h : okT t = false) : cdField sLen t k x b = 1 := by rw [cdField, if_neg (fun z => by rw [h] at z; exact absurd z.1 (by decide))]
theorem cdF_1b {sLen : Nat → Nat} {t k x : Int32} {b : Bool} (h : k < 0 ∨ ¬ k ≤ nI 6) : cdField sLen t k x b = 1 := by rw [cdField, if_neg (fun z => h.elim z.2.1 (fun w => z.2.2.1 (i_lt w)))]
theorem cdF_1c {sLen : Nat → Nat} {t k x : Int32} {b : Bool} (h : suT (cN k) x = false) : cdField sLen t k x b = 1 := by rw [cdField, if_neg (fun z => by rw [h] at z; exact absurd z.2.2.2 (by decide))]
theorem cdF_1d {sLen : Nat → Nat} {t k x : Int32} {b : Bool} (h : b = true ∧ cN k < 4) : cdField sLen t k x b = 1 := by
  rw [cdField, if_pos h]
  split <;> rfl
theorem cdF_2 {sLen : Nat → Nat} {t k x : Int32} {b : Bool} (h1 : okT t = true) (h2 : ¬ k < 0 ∧ k ≤ nI 6) (h3 : suT (cN k) x = true) (h4 : ¬ (b = true ∧ cN k < 4)) : cdField sLen t k x b = if sLen (cN t) < 6 then 0 else 2 := by
  rw [cdField, if_pos ⟨h1, h2.1, i_nlt h2.2, h3⟩, if_neg h4]
theorem wd_8b8ffda9 : Cond.fieldLink R_M 82 R_M "code" "I" ∈ kGW := kGW_of (List.mem_of_getElem? (i := 818) (by decide +kernel)) (by decide)
theorem wd_91f4763a : Cond.fieldLink R_M 13 R_M "kind" "[I" ∈ kGW := kGW_of (List.mem_of_getElem? (i := 820) (by decide +kernel)) (by decide)
theorem wd_83fb424b : Cond.fieldLink R_M 23 R_M "tableOf" "[I" ∈ kGW := kGW_of (List.mem_of_getElem? (i := 823) (by decide +kernel)) (by decide)
theorem wd_0c68f9ea : Cond.methodLink R_M 85 y_M_out ∈ kGW := kGW_of (List.mem_of_getElem? (i := 944) (by decide +kernel)) (by decide)
theorem wd_4b1468e4 : Cond.methodLink R_M 89 y_M_raise ∈ kGW := kGW_of (List.mem_of_getElem? (i := 947) (by decide +kernel)) (by decide)
theorem wd_4d2260e1 : Cond.fieldLink R_M 7 R_M "fields" "[I" ∈ kGW := kGW_of (List.mem_of_getElem? (i := 819) (by decide +kernel)) (by decide)
theorem wd_74a62eb0 : Cond.fieldLink R_M 16 R_M "extra" "[I" ∈ kGW := kGW_of (List.mem_of_getElem? (i := 821) (by decide +kernel)) (by decide)
theorem wd_de26f6e3 : Cond.fieldLink R_M 19 R_M "required" "[Z" ∈ kGW := kGW_of (List.mem_of_getElem? (i := 822) (by decide +kernel)) (by decide)
theorem wd_a47358da : Cond.fieldLink R_M 93 R_M "verified" "Z" ∈ kGW := kGW_of (List.mem_of_getElem? (i := 845) (by decide +kernel)) (by decide)
theorem wd_2434e5fd : Cond.fieldLink R_M 97 R_M "made" "I" ∈ kGW := kGW_of (List.mem_of_getElem? (i := 824) (by decide +kernel)) (by decide)
theorem wd_cf2b0413 : Cond.methodLink R_M 100 y_M_none ∈ kGW := kGW_of (List.mem_of_getElem? (i := 959) (by decide +kernel)) (by decide)
theorem wd_58b6b8e7 : Cond.methodLink R_M 103 y_M_kindOf ∈ kGW := kGW_of (List.mem_of_getElem? (i := 963) (by decide +kernel)) (by decide)
theorem wd_9eb9f8e4 : Cond.fieldLink R_M 29 R_M "number" "[J" ∈ kGW := kGW_of (List.mem_of_getElem? (i := 826) (by decide +kernel)) (by decide)
theorem wd_99f3b727 : Cond.methodLink R_M 107 y_M_fit ∈ kGW := kGW_of (List.mem_of_getElem? (i := 967) (by decide +kernel)) (by decide)
theorem wd_44dadf3a : Cond.fieldLink R_M 26 R_M "has" "[Z" ∈ kGW := kGW_of (List.mem_of_getElem? (i := 825) (by decide +kernel)) (by decide)
theorem wd_35a9147d : Cond.fieldLink R_M 111 R_M "held" "I" ∈ kGW := kGW_of (List.mem_of_getElem? (i := 830) (by decide +kernel)) (by decide)
theorem wd_80d24df5 : Cond.fieldLink R_M 39 R_M "buffer" "[I" ∈ kGW := kGW_of (List.mem_of_getElem? (i := 829) (by decide +kernel)) (by decide)
theorem wd_561915e7 : Cond.fieldLink R_M 33 R_M "length" "[I" ∈ kGW := kGW_of (List.mem_of_getElem? (i := 827) (by decide +kernel)) (by decide)
theorem wd_1d9af4df : Cond.fieldLink R_M 36 R_M "element" "[I" ∈ kGW := kGW_of (List.mem_of_getElem? (i := 828) (by decide +kernel)) (by decide)
theorem wd_3139de6a : Cond.fieldLink R_M 164 R_M "size" "I" ∈ kGW := kGW_of (List.mem_of_getElem? (i := 844) (by decide +kernel)) (by decide)
theorem wd_2dbf250b : Cond.fieldLink R_M 66 R_M "data" "[I" ∈ kGW := kGW_of (List.mem_of_getElem? (i := 843) (by decide +kernel)) (by decide)
theorem wd_85573464 : Cond.fieldLink R_M 69 R_M "fault" "I" ∈ kGW := kGW_of (List.mem_of_getElem? (i := 850) (by decide +kernel)) (by decide)
theorem wd_dbe346e2 : Cond.fieldLink R_M 221 R_M "root" "I" ∈ kGW := kGW_of (List.mem_of_getElem? (i := 846) (by decide +kernel)) (by decide)
theorem wd_cd6c8e1d : Cond.fieldLink R_M 227 R_M "cursor" "I" ∈ kGW := kGW_of (List.mem_of_getElem? (i := 848) (by decide +kernel)) (by decide)
theorem wd_258176f0 : Cond.fieldLink R_M 224 R_M "rootTable" "I" ∈ kGW := kGW_of (List.mem_of_getElem? (i := 847) (by decide +kernel)) (by decide)
theorem wd_e5a19dfd : Cond.fieldLink R_M 230 R_M "cursorTable" "I" ∈ kGW := kGW_of (List.mem_of_getElem? (i := 849) (by decide +kernel)) (by decide)
theorem wd_f4633fa4 : Cond.methodLink R_M 167 y_M_two ∈ kGW := kGW_of (List.mem_of_getElem? (i := 1058) (by decide +kernel)) (by decide)
theorem wd_3b252c6b : Cond.constantLong R_M 170 65536 ∈ kGW := kGW_of (List.mem_of_getElem? (i := 1062) (by decide +kernel)) (by decide)
theorem wd_bcc5a5aa : Cond.methodLink R_M 172 y_M_four ∈ kGW := kGW_of (List.mem_of_getElem? (i := 1054) (by decide +kernel)) (by decide)
theorem wd_77e7ca53 : Cond.constantLong R_M 176 100000 ∈ kGW := kGW_of (List.mem_of_getElem? (i := 1063) (by decide +kernel)) (by decide)
theorem wd_cc28c981 : Cond.constant R_M 178 100000 ∈ kGW := kGW_of (List.mem_of_getElem? (i := 1064) (by decide +kernel)) (by decide)
theorem wd_de5033cc : Cond.fieldLink R_M 179 R_M "wrong" "I" ∈ kGW := kGW_of (List.mem_of_getElem? (i := 851) (by decide +kernel)) (by decide)
theorem wd_44b0186f : Cond.constantLong R_M 182 2 ∈ kGW := kGW_of (List.mem_of_getElem? (i := 1073) (by decide +kernel)) (by decide)
theorem wd_119f2e75 : Cond.constantLong R_M 184 4 ∈ kGW := kGW_of (List.mem_of_getElem? (i := 1074) (by decide +kernel)) (by decide)
set_option maxRecDepth 20000 in
theorem wd_6c6d2858 : Cond.code y_M_thrown b_M_thrown 1 (some .int) ∈ kGW := kGW_of (List.mem_of_getElem? (i := 939) (by rfl)) (by decide)
theorem wd_5cde94ae : Cond.initialized R_M ∈ kGW := kGW_of (List.mem_of_getElem? (i := 55) (by decide +kernel)) (by decide)
theorem wd_e6bd7a2e : Cond.instanceMethod y_M_thrown ∈ kGW := kGW_of (List.mem_of_getElem? (i := 937) (by decide +kernel)) (by decide)
theorem wd_6f540bd4 : Cond.selects R_M y_M_thrown y_M_thrown ∈ kGW := kGW_of (List.mem_of_getElem? (i := 938) (by decide +kernel)) (by decide)
set_option maxRecDepth 20000 in
theorem wd_d17fb38f : Cond.code y_M_raise b_M_raise 2 (some .int) ∈ kGW := kGW_of (List.mem_of_getElem? (i := 950) (by rfl)) (by decide)
theorem wd_020009b5 : Cond.instanceMethod y_M_raise ∈ kGW := kGW_of (List.mem_of_getElem? (i := 949) (by decide +kernel)) (by decide)
theorem wd_c8350b8c : Cond.selects R_M y_M_raise y_M_raise ∈ kGW := kGW_of (List.mem_of_getElem? (i := 22) (by decide +kernel)) (by decide)
set_option maxRecDepth 20000 in
theorem wd_b538c45e : Cond.code y_M_out b_M_out 2 (some .boolean) ∈ kGW := kGW_of (List.mem_of_getElem? (i := 946) (by rfl)) (by decide)
theorem wd_c0a77159 : Cond.static y_M_out ∈ kGW := kGW_of (List.mem_of_getElem? (i := 945) (by decide +kernel)) (by decide)
set_option maxRecDepth 20000 in
theorem wd_188aa957 : Cond.code y_M_kindOf b_M_kindOf 3 (some .int) ∈ kGW := kGW_of (List.mem_of_getElem? (i := 966) (by rfl)) (by decide)
theorem wd_e04d1ffc : Cond.instanceMethod y_M_kindOf ∈ kGW := kGW_of (List.mem_of_getElem? (i := 965) (by decide +kernel)) (by decide)
theorem wd_401f0411 : Cond.selects R_M y_M_kindOf y_M_kindOf ∈ kGW := kGW_of (List.mem_of_getElem? (i := 24) (by decide +kernel)) (by decide)
set_option maxRecDepth 20000 in
theorem wd_ce35168c : Cond.code y_M_fit b_M_fit 3 (some .long) ∈ kGW := kGW_of (List.mem_of_getElem? (i := 969) (by rfl)) (by decide)
theorem wd_4cd632fe : Cond.static y_M_fit ∈ kGW := kGW_of (List.mem_of_getElem? (i := 968) (by decide +kernel)) (by decide)
set_option maxRecDepth 20000 in
theorem wd_c3f774d5 : Cond.code y_M_wide b_M_wide 1 (some .int) ∈ kGW := kGW_of (List.mem_of_getElem? (i := 1004) (by rfl)) (by decide)
theorem wd_f0366da2 : Cond.static y_M_wide ∈ kGW := kGW_of (List.mem_of_getElem? (i := 1003) (by decide +kernel)) (by decide)
set_option maxRecDepth 20000 in
theorem wd_478eba5a : Cond.code y_M_field b_M_field 7 (some .int) ∈ kGW := kGW_of (List.mem_of_getElem? (i := 943) (by rfl)) (by decide)
theorem wd_77a195f9 : Cond.instanceMethod y_M_field ∈ kGW := kGW_of (List.mem_of_getElem? (i := 941) (by decide +kernel)) (by decide)
theorem wd_b8fb6874 : Cond.selects R_M y_M_field y_M_field ∈ kGW := kGW_of (List.mem_of_getElem? (i := 942) (by decide +kernel)) (by decide)
set_option maxRecDepth 20000 in
theorem wd_c8d0369f : Cond.code y_M_make b_M_make 2 (some .int) ∈ kGW := kGW_of (List.mem_of_getElem? (i := 954) (by rfl)) (by decide)
theorem wd_1dfed2f7 : Cond.instanceMethod y_M_make ∈ kGW := kGW_of (List.mem_of_getElem? (i := 952) (by decide +kernel)) (by decide)
theorem wd_d0676658 : Cond.selects R_M y_M_make y_M_make ∈ kGW := kGW_of (List.mem_of_getElem? (i := 953) (by decide +kernel)) (by decide)
set_option maxRecDepth 20000 in
theorem wd_b8a5fbc8 : Cond.code y_M_none b_M_none 3 (some .boolean) ∈ kGW := kGW_of (List.mem_of_getElem? (i := 962) (by rfl)) (by decide)
theorem wd_d8a3118b : Cond.instanceMethod y_M_none ∈ kGW := kGW_of (List.mem_of_getElem? (i := 961) (by decide +kernel)) (by decide)
theorem wd_c2bbdbd2 : Cond.selects R_M y_M_none y_M_none ∈ kGW := kGW_of (List.mem_of_getElem? (i := 23) (by decide +kernel)) (by decide)
set_option maxRecDepth 20000 in
theorem wd_7c2df808 : Cond.code y_M_number b_M_number 5 (some .long) ∈ kGW := kGW_of (List.mem_of_getElem? (i := 958) (by rfl)) (by decide)
theorem wd_80a163f3 : Cond.instanceMethod y_M_number ∈ kGW := kGW_of (List.mem_of_getElem? (i := 956) (by decide +kernel)) (by decide)
theorem wd_c2aac7eb : Cond.selects R_M y_M_number y_M_number ∈ kGW := kGW_of (List.mem_of_getElem? (i := 957) (by decide +kernel)) (by decide)
set_option maxRecDepth 20000 in
theorem wd_7dcc92f0 : Cond.code y_M_add b_M_add 2 (some .int) ∈ kGW := kGW_of (List.mem_of_getElem? (i := 973) (by rfl)) (by decide)
theorem wd_e8ae1713 : Cond.instanceMethod y_M_add ∈ kGW := kGW_of (List.mem_of_getElem? (i := 971) (by decide +kernel)) (by decide)
theorem wd_c89a7b8c : Cond.selects R_M y_M_add y_M_add ∈ kGW := kGW_of (List.mem_of_getElem? (i := 972) (by decide +kernel)) (by decide)
set_option maxRecDepth 20000 in
theorem wd_ad793664 : Cond.code y_M_fill b_M_fill 6 (some .int) ∈ kGW := kGW_of (List.mem_of_getElem? (i := 977) (by rfl)) (by decide)
theorem wd_af42de9a : Cond.instanceMethod y_M_fill ∈ kGW := kGW_of (List.mem_of_getElem? (i := 975) (by decide +kernel)) (by decide)
theorem wd_dcb86058 : Cond.selects R_M y_M_fill y_M_fill ∈ kGW := kGW_of (List.mem_of_getElem? (i := 976) (by decide +kernel)) (by decide)
set_option maxRecDepth 20000 in
theorem wd_862e5ff4 : Cond.code y_M_link b_M_link 4 (some .int) ∈ kGW := kGW_of (List.mem_of_getElem? (i := 981) (by rfl)) (by decide)
theorem wd_a24687f3 : Cond.instanceMethod y_M_link ∈ kGW := kGW_of (List.mem_of_getElem? (i := 979) (by decide +kernel)) (by decide)
theorem wd_404d66c0 : Cond.selects R_M y_M_link y_M_link ∈ kGW := kGW_of (List.mem_of_getElem? (i := 980) (by decide +kernel)) (by decide)
set_option maxRecDepth 20000 in
theorem wd_26413064 : Cond.code y_M_unset b_M_unset 4 (some .int) ∈ kGW := kGW_of (List.mem_of_getElem? (i := 985) (by rfl)) (by decide)
theorem wd_98fbfd4b : Cond.instanceMethod y_M_unset ∈ kGW := kGW_of (List.mem_of_getElem? (i := 983) (by decide +kernel)) (by decide)
theorem wd_df8cc152 : Cond.selects R_M y_M_unset y_M_unset ∈ kGW := kGW_of (List.mem_of_getElem? (i := 984) (by decide +kernel)) (by decide)
set_option maxRecDepth 20000 in
theorem wd_a83c7b49 : Cond.code y_M_at b_M_at 2 (some .int) ∈ kGW := kGW_of (List.mem_of_getElem? (i := 1033) (by rfl)) (by decide)
theorem wd_ef373b29 : Cond.instanceMethod y_M_at ∈ kGW := kGW_of (List.mem_of_getElem? (i := 1031) (by decide +kernel)) (by decide)
theorem wd_4e089264 : Cond.selects R_M y_M_at y_M_at ∈ kGW := kGW_of (List.mem_of_getElem? (i := 1032) (by decide +kernel)) (by decide)
set_option maxRecDepth 20000 in
theorem wd_3c40939d : Cond.code y_M_patch b_M_patch 4 (some .int) ∈ kGW := kGW_of (List.mem_of_getElem? (i := 1037) (by rfl)) (by decide)
theorem wd_7aaa22a8 : Cond.instanceMethod y_M_patch ∈ kGW := kGW_of (List.mem_of_getElem? (i := 1035) (by decide +kernel)) (by decide)
theorem wd_21d29287 : Cond.selects R_M y_M_patch y_M_patch ∈ kGW := kGW_of (List.mem_of_getElem? (i := 1036) (by decide +kernel)) (by decide)
set_option maxRecDepth 20000 in
theorem wd_67c21b6c : Cond.code y_M_cut b_M_cut 3 (some .int) ∈ kGW := kGW_of (List.mem_of_getElem? (i := 1041) (by rfl)) (by decide)
theorem wd_6fa95450 : Cond.instanceMethod y_M_cut ∈ kGW := kGW_of (List.mem_of_getElem? (i := 1039) (by decide +kernel)) (by decide)
theorem wd_9010474a : Cond.selects R_M y_M_cut y_M_cut ∈ kGW := kGW_of (List.mem_of_getElem? (i := 1040) (by decide +kernel)) (by decide)
set_option maxRecDepth 20000 in
theorem wd_38be0a8f : Cond.code y_M_fault b_M_fault 1 (some .int) ∈ kGW := kGW_of (List.mem_of_getElem? (i := 1098) (by rfl)) (by decide)
theorem wd_5ef48346 : Cond.instanceMethod y_M_fault ∈ kGW := kGW_of (List.mem_of_getElem? (i := 1096) (by decide +kernel)) (by decide)
theorem wd_a3afcb18 : Cond.selects R_M y_M_fault y_M_fault ∈ kGW := kGW_of (List.mem_of_getElem? (i := 1097) (by decide +kernel)) (by decide)
set_option maxRecDepth 20000 in
theorem wd_3db1f3eb : Cond.code y_M_top b_M_top 1 (some .int) ∈ kGW := kGW_of (List.mem_of_getElem? (i := 1102) (by rfl)) (by decide)
theorem wd_67be83c9 : Cond.instanceMethod y_M_top ∈ kGW := kGW_of (List.mem_of_getElem? (i := 1100) (by decide +kernel)) (by decide)
theorem wd_1ff2fe6c : Cond.selects R_M y_M_top y_M_top ∈ kGW := kGW_of (List.mem_of_getElem? (i := 1101) (by decide +kernel)) (by decide)
set_option maxRecDepth 20000 in
theorem wd_7eee5f7f : Cond.code y_M_count b_M_count 2 (some .int) ∈ kGW := kGW_of (List.mem_of_getElem? (i := 1127) (by rfl)) (by decide)
theorem wd_385a74b3 : Cond.instanceMethod y_M_count ∈ kGW := kGW_of (List.mem_of_getElem? (i := 1125) (by decide +kernel)) (by decide)
theorem wd_38c1b33c : Cond.selects R_M y_M_count y_M_count ∈ kGW := kGW_of (List.mem_of_getElem? (i := 1126) (by decide +kernel)) (by decide)
set_option maxRecDepth 20000 in
theorem wd_1a8eb5eb : Cond.code y_M_two b_M_two 2 (some .int) ∈ kGW := kGW_of (List.mem_of_getElem? (i := 1061) (by rfl)) (by decide)
theorem wd_5dce5d0c : Cond.instanceMethod y_M_two ∈ kGW := kGW_of (List.mem_of_getElem? (i := 1060) (by decide +kernel)) (by decide)
theorem wd_45fb506b : Cond.selects R_M y_M_two y_M_two ∈ kGW := kGW_of (List.mem_of_getElem? (i := 37) (by decide +kernel)) (by decide)
set_option maxRecDepth 20000 in
theorem wd_48df08e0 : Cond.code y_M_four b_M_four 2 (some .long) ∈ kGW := kGW_of (List.mem_of_getElem? (i := 1057) (by rfl)) (by decide)
theorem wd_88270740 : Cond.instanceMethod y_M_four ∈ kGW := kGW_of (List.mem_of_getElem? (i := 1056) (by decide +kernel)) (by decide)
theorem wd_a1686fb0 : Cond.selects R_M y_M_four y_M_four ∈ kGW := kGW_of (List.mem_of_getElem? (i := 36) (by decide +kernel)) (by decide)
set_option maxRecDepth 20000 in
theorem wd_3f6bae09 : Cond.code y_M_offset4 b_M_offset4 2 (some .int) ∈ kGW := kGW_of (List.mem_of_getElem? (i := 1053) (by rfl)) (by decide)
theorem wd_c5b16ba0 : Cond.instanceMethod y_M_offset4 ∈ kGW := kGW_of (List.mem_of_getElem? (i := 1052) (by decide +kernel)) (by decide)
theorem wd_b20dccee : Cond.selects R_M y_M_offset4 y_M_offset4 ∈ kGW := kGW_of (List.mem_of_getElem? (i := 35) (by decide +kernel)) (by decide)
set_option maxRecDepth 20000 in
theorem wd_8efb2f6b : Cond.code y_M_fail b_M_fail 2 none ∈ kGW := kGW_of (List.mem_of_getElem? (i := 1049) (by rfl)) (by decide)
theorem wd_29cc8c73 : Cond.instanceMethod y_M_fail ∈ kGW := kGW_of (List.mem_of_getElem? (i := 1048) (by decide +kernel)) (by decide)
theorem wd_add2693a : Cond.selects R_M y_M_fail y_M_fail ∈ kGW := kGW_of (List.mem_of_getElem? (i := 34) (by decide +kernel)) (by decide)
set_option maxRecDepth 20000 in
theorem wd_3eb259bd : Cond.code y_M_tableAt b_M_tableAt 2 (some .int) ∈ kGW := kGW_of (List.mem_of_getElem? (i := 1078) (by rfl)) (by decide)
theorem wd_a93cc7fb : Cond.instanceMethod y_M_tableAt ∈ kGW := kGW_of (List.mem_of_getElem? (i := 1077) (by decide +kernel)) (by decide)
theorem wd_1abd7ab6 : Cond.selects R_M y_M_tableAt y_M_tableAt ∈ kGW := kGW_of (List.mem_of_getElem? (i := 40) (by decide +kernel)) (by decide)
set_option maxRecDepth 20000 in
theorem wd_c06e5266 : Cond.code y_M_badV b_M_badV 4 (some .boolean) ∈ kGW := kGW_of (List.mem_of_getElem? (i := 1072) (by rfl)) (by decide)
theorem wd_8486d8bc : Cond.instanceMethod y_M_badV ∈ kGW := kGW_of (List.mem_of_getElem? (i := 1071) (by decide +kernel)) (by decide)
theorem wd_ea576cea : Cond.selects R_M y_M_badV y_M_badV ∈ kGW := kGW_of (List.mem_of_getElem? (i := 39) (by decide +kernel)) (by decide)
theorem d_M_thrown_0 : decode b_M_thrown 0 = .ok (.aload_n 0, 1) := by decide +kernel
theorem d_M_thrown_1 : decode b_M_thrown 1 = .ok (.getfield 82, 3) := by decide +kernel
theorem d_M_thrown_4 : decode b_M_thrown 4 = .ok (.ireturn, 1) := by decide +kernel
theorem d_M_raise_0 : decode b_M_raise 0 = .ok (.aload_n 0, 1) := by decide +kernel
theorem d_M_raise_1 : decode b_M_raise 1 = .ok (.iload_n 1, 1) := by decide +kernel
theorem d_M_raise_2 : decode b_M_raise 2 = .ok (.putfield 82, 3) := by decide +kernel
theorem d_M_raise_5 : decode b_M_raise 5 = .ok (.iconst 0, 1) := by decide +kernel
theorem d_M_raise_6 : decode b_M_raise 6 = .ok (.ireturn, 1) := by decide +kernel
theorem d_M_out_0 : decode b_M_out 0 = .ok (.iload_n 0, 1) := by decide +kernel
theorem d_M_out_1 : decode b_M_out 1 = .ok (.ifCond .lt 8, 3) := by decide +kernel
theorem d_M_out_4 : decode b_M_out 4 = .ok (.iload_n 0, 1) := by decide +kernel
theorem d_M_out_5 : decode b_M_out 5 = .ok (.iload_n 1, 1) := by decide +kernel
theorem d_M_out_6 : decode b_M_out 6 = .ok (.if_icmp .le 7, 3) := by decide +kernel
theorem d_M_out_9 : decode b_M_out 9 = .ok (.iconst 1, 1) := by decide +kernel
theorem d_M_out_10 : decode b_M_out 10 = .ok (.goto 4, 3) := by decide +kernel
theorem d_M_out_13 : decode b_M_out 13 = .ok (.iconst 0, 1) := by decide +kernel
theorem d_M_out_14 : decode b_M_out 14 = .ok (.ireturn, 1) := by decide +kernel
theorem d_M_kindOf_0 : decode b_M_kindOf 0 = .ok (.aload_n 0, 1) := by decide +kernel
theorem d_M_kindOf_1 : decode b_M_kindOf 1 = .ok (.getfield 13, 3) := by decide +kernel
theorem d_M_kindOf_4 : decode b_M_kindOf 4 = .ok (.bipush 6, 2) := by decide +kernel
theorem d_M_kindOf_6 : decode b_M_kindOf 6 = .ok (.aload_n 0, 1) := by decide +kernel
theorem d_M_kindOf_7 : decode b_M_kindOf 7 = .ok (.getfield 23, 3) := by decide +kernel
theorem d_M_kindOf_10 : decode b_M_kindOf 10 = .ok (.iload_n 1, 1) := by decide +kernel
theorem d_M_kindOf_11 : decode b_M_kindOf 11 = .ok (.iaload, 1) := by decide +kernel
theorem d_M_kindOf_12 : decode b_M_kindOf 12 = .ok (.imul, 1) := by decide +kernel
theorem d_M_kindOf_13 : decode b_M_kindOf 13 = .ok (.iload_n 2, 1) := by decide +kernel
theorem d_M_kindOf_14 : decode b_M_kindOf 14 = .ok (.iadd, 1) := by decide +kernel
theorem d_M_kindOf_15 : decode b_M_kindOf 15 = .ok (.iaload, 1) := by decide +kernel
theorem d_M_kindOf_16 : decode b_M_kindOf 16 = .ok (.ireturn, 1) := by decide +kernel
theorem d_M_fit_0 : decode b_M_fit 0 = .ok (.iload_n 0, 1) := by decide +kernel
theorem d_M_fit_1 : decode b_M_fit 1 = .ok (.ifCond .ne 10, 3) := by decide +kernel
theorem d_M_fit_4 : decode b_M_fit 4 = .ok (.lload_n 1, 1) := by decide +kernel
theorem d_M_fit_5 : decode b_M_fit 5 = .ok (.l2i, 1) := by decide +kernel
theorem d_M_fit_6 : decode b_M_fit 6 = .ok (.i2b, 1) := by decide +kernel
theorem d_M_fit_7 : decode b_M_fit 7 = .ok (.i2l, 1) := by decide +kernel
theorem d_M_fit_8 : decode b_M_fit 8 = .ok (.goto 27, 3) := by decide +kernel
theorem d_M_fit_11 : decode b_M_fit 11 = .ok (.iload_n 0, 1) := by decide +kernel
theorem d_M_fit_12 : decode b_M_fit 12 = .ok (.iconst 1, 1) := by decide +kernel
theorem d_M_fit_13 : decode b_M_fit 13 = .ok (.if_icmp .ne 10, 3) := by decide +kernel
theorem d_M_fit_16 : decode b_M_fit 16 = .ok (.lload_n 1, 1) := by decide +kernel
theorem d_M_fit_17 : decode b_M_fit 17 = .ok (.l2i, 1) := by decide +kernel
theorem d_M_fit_18 : decode b_M_fit 18 = .ok (.i2s, 1) := by decide +kernel
theorem d_M_fit_19 : decode b_M_fit 19 = .ok (.i2l, 1) := by decide +kernel
theorem d_M_fit_20 : decode b_M_fit 20 = .ok (.goto 15, 3) := by decide +kernel
theorem d_M_fit_23 : decode b_M_fit 23 = .ok (.iload_n 0, 1) := by decide +kernel
theorem d_M_fit_24 : decode b_M_fit 24 = .ok (.iconst 2, 1) := by decide +kernel
theorem d_M_fit_25 : decode b_M_fit 25 = .ok (.if_icmp .ne 9, 3) := by decide +kernel
theorem d_M_fit_28 : decode b_M_fit 28 = .ok (.lload_n 1, 1) := by decide +kernel
theorem d_M_fit_29 : decode b_M_fit 29 = .ok (.l2i, 1) := by decide +kernel
theorem d_M_fit_30 : decode b_M_fit 30 = .ok (.i2l, 1) := by decide +kernel
theorem d_M_fit_31 : decode b_M_fit 31 = .ok (.goto 4, 3) := by decide +kernel
theorem d_M_fit_34 : decode b_M_fit 34 = .ok (.lload_n 1, 1) := by decide +kernel
theorem d_M_fit_35 : decode b_M_fit 35 = .ok (.lreturn, 1) := by decide +kernel
theorem d_M_wide_0 : decode b_M_wide 0 = .ok (.iload_n 0, 1) := by decide +kernel
theorem d_M_wide_1 : decode b_M_wide 1 = .ok (.ifCond .ne 7, 3) := by decide +kernel
theorem d_M_wide_4 : decode b_M_wide 4 = .ok (.iconst 1, 1) := by decide +kernel
theorem d_M_wide_5 : decode b_M_wide 5 = .ok (.goto 23, 3) := by decide +kernel
theorem d_M_wide_8 : decode b_M_wide 8 = .ok (.iload_n 0, 1) := by decide +kernel
theorem d_M_wide_9 : decode b_M_wide 9 = .ok (.iconst 1, 1) := by decide +kernel
theorem d_M_wide_10 : decode b_M_wide 10 = .ok (.if_icmp .ne 7, 3) := by decide +kernel
theorem d_M_wide_13 : decode b_M_wide 13 = .ok (.iconst 2, 1) := by decide +kernel
theorem d_M_wide_14 : decode b_M_wide 14 = .ok (.goto 14, 3) := by decide +kernel
theorem d_M_wide_17 : decode b_M_wide 17 = .ok (.iload_n 0, 1) := by decide +kernel
theorem d_M_wide_18 : decode b_M_wide 18 = .ok (.iconst 3, 1) := by decide +kernel
theorem d_M_wide_19 : decode b_M_wide 19 = .ok (.if_icmp .ne 8, 3) := by decide +kernel
theorem d_M_wide_22 : decode b_M_wide 22 = .ok (.bipush 8, 2) := by decide +kernel
theorem d_M_wide_24 : decode b_M_wide 24 = .ok (.goto 4, 3) := by decide +kernel
theorem d_M_wide_27 : decode b_M_wide 27 = .ok (.iconst 4, 1) := by decide +kernel
theorem d_M_wide_28 : decode b_M_wide 28 = .ok (.ireturn, 1) := by decide +kernel
theorem d_M_field_0 : decode b_M_field 0 = .ok (.aload_n 0, 1) := by decide +kernel
theorem d_M_field_1 : decode b_M_field 1 = .ok (.iconst 0, 1) := by decide +kernel
theorem d_M_field_2 : decode b_M_field 2 = .ok (.putfield 82, 3) := by decide +kernel
theorem d_M_field_5 : decode b_M_field 5 = .ok (.iload_n 1, 1) := by decide +kernel
theorem d_M_field_6 : decode b_M_field 6 = .ok (.iconst 3, 1) := by decide +kernel
theorem d_M_field_7 : decode b_M_field 7 = .ok (.invokestatic 85, 3) := by decide +kernel
theorem d_M_field_10 : decode b_M_field 10 = .ok (.ifCond .ne 36, 3) := by decide +kernel
theorem d_M_field_13 : decode b_M_field 13 = .ok (.iload_n 2, 1) := by decide +kernel
theorem d_M_field_14 : decode b_M_field 14 = .ok (.bipush 6, 2) := by decide +kernel
theorem d_M_field_16 : decode b_M_field 16 = .ok (.invokestatic 85, 3) := by decide +kernel
theorem d_M_field_19 : decode b_M_field 19 = .ok (.ifCond .ne 27, 3) := by decide +kernel
theorem d_M_field_22 : decode b_M_field 22 = .ok (.iload_n 2, 1) := by decide +kernel
theorem d_M_field_23 : decode b_M_field 23 = .ok (.iconst 4, 1) := by decide +kernel
theorem d_M_field_24 : decode b_M_field 24 = .ok (.if_icmp .ge 8, 3) := by decide +kernel
theorem d_M_field_27 : decode b_M_field 27 = .ok (.iload 4, 2) := by decide +kernel
theorem d_M_field_29 : decode b_M_field 29 = .ok (.ifCond .ne 17, 3) := by decide +kernel
theorem d_M_field_32 : decode b_M_field 32 = .ok (.iload_n 2, 1) := by decide +kernel
theorem d_M_field_33 : decode b_M_field 33 = .ok (.bipush 6, 2) := by decide +kernel
theorem d_M_field_35 : decode b_M_field 35 = .ok (.if_icmp .ne 15, 3) := by decide +kernel
theorem d_M_field_38 : decode b_M_field 38 = .ok (.iload_n 3, 1) := by decide +kernel
theorem d_M_field_39 : decode b_M_field 39 = .ok (.iconst 3, 1) := by decide +kernel
theorem d_M_field_40 : decode b_M_field 40 = .ok (.invokestatic 85, 3) := by decide +kernel
theorem d_M_field_43 : decode b_M_field 43 = .ok (.ifCond .eq 7, 3) := by decide +kernel
theorem d_M_field_46 : decode b_M_field 46 = .ok (.iconst 1, 1) := by decide +kernel
theorem d_M_field_47 : decode b_M_field 47 = .ok (.goto 4, 3) := by decide +kernel
theorem d_M_field_50 : decode b_M_field 50 = .ok (.iconst 0, 1) := by decide +kernel
theorem d_M_field_51 : decode b_M_field 51 = .ok (.istore 5, 2) := by decide +kernel
theorem d_M_field_53 : decode b_M_field 53 = .ok (.iload 5, 2) := by decide +kernel
theorem d_M_field_55 : decode b_M_field 55 = .ok (.ifCond .ne 38, 3) := by decide +kernel
theorem d_M_field_58 : decode b_M_field 58 = .ok (.iload_n 2, 1) := by decide +kernel
theorem d_M_field_59 : decode b_M_field 59 = .ok (.ifCond .ne 15, 3) := by decide +kernel
theorem d_M_field_62 : decode b_M_field 62 = .ok (.iload_n 3, 1) := by decide +kernel
theorem d_M_field_63 : decode b_M_field 63 = .ok (.bipush (-128), 2) := by decide +kernel
theorem d_M_field_65 : decode b_M_field 65 = .ok (.if_icmp .lt 28, 3) := by decide +kernel
theorem d_M_field_68 : decode b_M_field 68 = .ok (.iload_n 3, 1) := by decide +kernel
theorem d_M_field_69 : decode b_M_field 69 = .ok (.bipush 127, 2) := by decide +kernel
theorem d_M_field_71 : decode b_M_field 71 = .ok (.if_icmp .gt 22, 3) := by decide +kernel
theorem d_M_field_74 : decode b_M_field 74 = .ok (.iload_n 2, 1) := by decide +kernel
theorem d_M_field_75 : decode b_M_field 75 = .ok (.iconst 1, 1) := by decide +kernel
theorem d_M_field_76 : decode b_M_field 76 = .ok (.if_icmp .ne 21, 3) := by decide +kernel
theorem d_M_field_79 : decode b_M_field 79 = .ok (.iload_n 3, 1) := by decide +kernel
theorem d_M_field_80 : decode b_M_field 80 = .ok (.sipush (-32768), 3) := by decide +kernel
theorem d_M_field_83 : decode b_M_field 83 = .ok (.if_icmp .lt 10, 3) := by decide +kernel
theorem d_M_field_86 : decode b_M_field 86 = .ok (.iload_n 3, 1) := by decide +kernel
theorem d_M_field_87 : decode b_M_field 87 = .ok (.sipush 32767, 3) := by decide +kernel
theorem d_M_field_90 : decode b_M_field 90 = .ok (.if_icmp .le 7, 3) := by decide +kernel
theorem d_M_field_93 : decode b_M_field 93 = .ok (.iconst 1, 1) := by decide +kernel
theorem d_M_field_94 : decode b_M_field 94 = .ok (.goto 4, 3) := by decide +kernel
theorem d_M_field_97 : decode b_M_field 97 = .ok (.iconst 0, 1) := by decide +kernel
theorem d_M_field_98 : decode b_M_field 98 = .ok (.istore 5, 2) := by decide +kernel
theorem d_M_field_100 : decode b_M_field 100 = .ok (.iload 5, 2) := by decide +kernel
theorem d_M_field_102 : decode b_M_field 102 = .ok (.ifCond .eq 9, 3) := by decide +kernel
theorem d_M_field_105 : decode b_M_field 105 = .ok (.aload_n 0, 1) := by decide +kernel
theorem d_M_field_106 : decode b_M_field 106 = .ok (.iconst 1, 1) := by decide +kernel
theorem d_M_field_107 : decode b_M_field 107 = .ok (.invokevirtual 89, 3) := by decide +kernel
theorem d_M_field_110 : decode b_M_field 110 = .ok (.ireturn, 1) := by decide +kernel
theorem d_M_field_111 : decode b_M_field 111 = .ok (.aload_n 0, 1) := by decide +kernel
theorem d_M_field_112 : decode b_M_field 112 = .ok (.getfield 7, 3) := by decide +kernel
theorem d_M_field_115 : decode b_M_field 115 = .ok (.iload_n 1, 1) := by decide +kernel
theorem d_M_field_116 : decode b_M_field 116 = .ok (.iaload, 1) := by decide +kernel
theorem d_M_field_117 : decode b_M_field 117 = .ok (.bipush 6, 2) := by decide +kernel
theorem d_M_field_119 : decode b_M_field 119 = .ok (.if_icmp .ne 9, 3) := by decide +kernel
theorem d_M_field_122 : decode b_M_field 122 = .ok (.aload_n 0, 1) := by decide +kernel
theorem d_M_field_123 : decode b_M_field 123 = .ok (.iconst 2, 1) := by decide +kernel
theorem d_M_field_124 : decode b_M_field 124 = .ok (.invokevirtual 89, 3) := by decide +kernel
theorem d_M_field_127 : decode b_M_field 127 = .ok (.ireturn, 1) := by decide +kernel
theorem d_M_field_128 : decode b_M_field 128 = .ok (.bipush 6, 2) := by decide +kernel
theorem d_M_field_130 : decode b_M_field 130 = .ok (.iload_n 1, 1) := by decide +kernel
theorem d_M_field_131 : decode b_M_field 131 = .ok (.imul, 1) := by decide +kernel
theorem d_M_field_132 : decode b_M_field 132 = .ok (.aload_n 0, 1) := by decide +kernel
theorem d_M_field_133 : decode b_M_field 133 = .ok (.getfield 7, 3) := by decide +kernel
theorem d_M_field_136 : decode b_M_field 136 = .ok (.iload_n 1, 1) := by decide +kernel
theorem d_M_field_137 : decode b_M_field 137 = .ok (.iaload, 1) := by decide +kernel
theorem d_M_field_138 : decode b_M_field 138 = .ok (.iadd, 1) := by decide +kernel
theorem d_M_field_139 : decode b_M_field 139 = .ok (.istore 6, 2) := by decide +kernel
theorem d_M_field_141 : decode b_M_field 141 = .ok (.aload_n 0, 1) := by decide +kernel
theorem d_M_field_142 : decode b_M_field 142 = .ok (.getfield 13, 3) := by decide +kernel
theorem d_M_field_145 : decode b_M_field 145 = .ok (.iload 6, 2) := by decide +kernel
theorem d_M_field_147 : decode b_M_field 147 = .ok (.iload_n 2, 1) := by decide +kernel
theorem d_M_field_148 : decode b_M_field 148 = .ok (.iastore, 1) := by decide +kernel
theorem d_M_field_149 : decode b_M_field 149 = .ok (.aload_n 0, 1) := by decide +kernel
theorem d_M_field_150 : decode b_M_field 150 = .ok (.getfield 16, 3) := by decide +kernel
theorem d_M_field_153 : decode b_M_field 153 = .ok (.iload 6, 2) := by decide +kernel
theorem d_M_field_155 : decode b_M_field 155 = .ok (.iload_n 3, 1) := by decide +kernel
theorem d_M_field_156 : decode b_M_field 156 = .ok (.iastore, 1) := by decide +kernel
theorem d_M_field_157 : decode b_M_field 157 = .ok (.aload_n 0, 1) := by decide +kernel
theorem d_M_field_158 : decode b_M_field 158 = .ok (.getfield 19, 3) := by decide +kernel
theorem d_M_field_161 : decode b_M_field 161 = .ok (.iload 6, 2) := by decide +kernel
theorem d_M_field_163 : decode b_M_field 163 = .ok (.iload 4, 2) := by decide +kernel
theorem d_M_field_165 : decode b_M_field 165 = .ok (.bastore, 1) := by decide +kernel
theorem d_M_field_166 : decode b_M_field 166 = .ok (.aload_n 0, 1) := by decide +kernel
theorem d_M_field_167 : decode b_M_field 167 = .ok (.getfield 7, 3) := by decide +kernel
theorem d_M_field_170 : decode b_M_field 170 = .ok (.iload_n 1, 1) := by decide +kernel
theorem d_M_field_171 : decode b_M_field 171 = .ok (.dup2, 1) := by decide +kernel
theorem d_M_field_172 : decode b_M_field 172 = .ok (.iaload, 1) := by decide +kernel
theorem d_M_field_173 : decode b_M_field 173 = .ok (.iconst 1, 1) := by decide +kernel
theorem d_M_field_174 : decode b_M_field 174 = .ok (.iadd, 1) := by decide +kernel
theorem d_M_field_175 : decode b_M_field 175 = .ok (.iastore, 1) := by decide +kernel
theorem d_M_field_176 : decode b_M_field 176 = .ok (.aload_n 0, 1) := by decide +kernel
theorem d_M_field_177 : decode b_M_field 177 = .ok (.iconst 0, 1) := by decide +kernel
theorem d_M_field_178 : decode b_M_field 178 = .ok (.putfield 93, 3) := by decide +kernel
theorem d_M_field_181 : decode b_M_field 181 = .ok (.aload_n 0, 1) := by decide +kernel
theorem d_M_field_182 : decode b_M_field 182 = .ok (.getfield 7, 3) := by decide +kernel
theorem d_M_field_185 : decode b_M_field 185 = .ok (.iload_n 1, 1) := by decide +kernel
theorem d_M_field_186 : decode b_M_field 186 = .ok (.iaload, 1) := by decide +kernel
theorem d_M_field_187 : decode b_M_field 187 = .ok (.iconst 1, 1) := by decide +kernel
theorem d_M_field_188 : decode b_M_field 188 = .ok (.isub, 1) := by decide +kernel
theorem d_M_field_189 : decode b_M_field 189 = .ok (.ireturn, 1) := by decide +kernel
theorem d_M_make_0 : decode b_M_make 0 = .ok (.aload_n 0, 1) := by decide +kernel
theorem d_M_make_1 : decode b_M_make 1 = .ok (.iconst 0, 1) := by decide +kernel
theorem d_M_make_2 : decode b_M_make 2 = .ok (.putfield 82, 3) := by decide +kernel
theorem d_M_make_5 : decode b_M_make 5 = .ok (.iload_n 1, 1) := by decide +kernel
theorem d_M_make_6 : decode b_M_make 6 = .ok (.iconst 3, 1) := by decide +kernel
theorem d_M_make_7 : decode b_M_make 7 = .ok (.invokestatic 85, 3) := by decide +kernel
theorem d_M_make_10 : decode b_M_make 10 = .ok (.ifCond .eq 9, 3) := by decide +kernel
theorem d_M_make_13 : decode b_M_make 13 = .ok (.aload_n 0, 1) := by decide +kernel
theorem d_M_make_14 : decode b_M_make 14 = .ok (.iconst 1, 1) := by decide +kernel
theorem d_M_make_15 : decode b_M_make 15 = .ok (.invokevirtual 89, 3) := by decide +kernel
theorem d_M_make_18 : decode b_M_make 18 = .ok (.ireturn, 1) := by decide +kernel
theorem d_M_make_19 : decode b_M_make 19 = .ok (.aload_n 0, 1) := by decide +kernel
theorem d_M_make_20 : decode b_M_make 20 = .ok (.getfield 97, 3) := by decide +kernel
theorem d_M_make_23 : decode b_M_make 23 = .ok (.bipush 16, 2) := by decide +kernel
theorem d_M_make_25 : decode b_M_make 25 = .ok (.if_icmp .ne 9, 3) := by decide +kernel
theorem d_M_make_28 : decode b_M_make 28 = .ok (.aload_n 0, 1) := by decide +kernel
theorem d_M_make_29 : decode b_M_make 29 = .ok (.iconst 2, 1) := by decide +kernel
theorem d_M_make_30 : decode b_M_make 30 = .ok (.invokevirtual 89, 3) := by decide +kernel
theorem d_M_make_33 : decode b_M_make 33 = .ok (.ireturn, 1) := by decide +kernel
theorem d_M_make_34 : decode b_M_make 34 = .ok (.aload_n 0, 1) := by decide +kernel
theorem d_M_make_35 : decode b_M_make 35 = .ok (.getfield 23, 3) := by decide +kernel
theorem d_M_make_38 : decode b_M_make 38 = .ok (.aload_n 0, 1) := by decide +kernel
theorem d_M_make_39 : decode b_M_make 39 = .ok (.getfield 97, 3) := by decide +kernel
theorem d_M_make_42 : decode b_M_make 42 = .ok (.iload_n 1, 1) := by decide +kernel
theorem d_M_make_43 : decode b_M_make 43 = .ok (.iastore, 1) := by decide +kernel
theorem d_M_make_44 : decode b_M_make 44 = .ok (.aload_n 0, 1) := by decide +kernel
theorem d_M_make_45 : decode b_M_make 45 = .ok (.dup, 1) := by decide +kernel
theorem d_M_make_46 : decode b_M_make 46 = .ok (.getfield 97, 3) := by decide +kernel
theorem d_M_make_49 : decode b_M_make 49 = .ok (.iconst 1, 1) := by decide +kernel
theorem d_M_make_50 : decode b_M_make 50 = .ok (.iadd, 1) := by decide +kernel
theorem d_M_make_51 : decode b_M_make 51 = .ok (.putfield 97, 3) := by decide +kernel
theorem d_M_make_54 : decode b_M_make 54 = .ok (.aload_n 0, 1) := by decide +kernel
theorem d_M_make_55 : decode b_M_make 55 = .ok (.getfield 97, 3) := by decide +kernel
theorem d_M_make_58 : decode b_M_make 58 = .ok (.iconst 1, 1) := by decide +kernel
theorem d_M_make_59 : decode b_M_make 59 = .ok (.isub, 1) := by decide +kernel
theorem d_M_make_60 : decode b_M_make 60 = .ok (.ireturn, 1) := by decide +kernel
theorem d_M_none_0 : decode b_M_none 0 = .ok (.iload_n 1, 1) := by decide +kernel
theorem d_M_none_1 : decode b_M_none 1 = .ok (.aload_n 0, 1) := by decide +kernel
theorem d_M_none_2 : decode b_M_none 2 = .ok (.getfield 97, 3) := by decide +kernel
theorem d_M_none_5 : decode b_M_none 5 = .ok (.iconst 1, 1) := by decide +kernel
theorem d_M_none_6 : decode b_M_none 6 = .ok (.isub, 1) := by decide +kernel
theorem d_M_none_7 : decode b_M_none 7 = .ok (.invokestatic 85, 3) := by decide +kernel
theorem d_M_none_10 : decode b_M_none 10 = .ok (.ifCond .ne 23, 3) := by decide +kernel
theorem d_M_none_13 : decode b_M_none 13 = .ok (.iload_n 2, 1) := by decide +kernel
theorem d_M_none_14 : decode b_M_none 14 = .ok (.aload_n 0, 1) := by decide +kernel
theorem d_M_none_15 : decode b_M_none 15 = .ok (.getfield 7, 3) := by decide +kernel
theorem d_M_none_18 : decode b_M_none 18 = .ok (.aload_n 0, 1) := by decide +kernel
theorem d_M_none_19 : decode b_M_none 19 = .ok (.getfield 23, 3) := by decide +kernel
theorem d_M_none_22 : decode b_M_none 22 = .ok (.iload_n 1, 1) := by decide +kernel
theorem d_M_none_23 : decode b_M_none 23 = .ok (.iaload, 1) := by decide +kernel
theorem d_M_none_24 : decode b_M_none 24 = .ok (.iaload, 1) := by decide +kernel
theorem d_M_none_25 : decode b_M_none 25 = .ok (.iconst 1, 1) := by decide +kernel
theorem d_M_none_26 : decode b_M_none 26 = .ok (.isub, 1) := by decide +kernel
theorem d_M_none_27 : decode b_M_none 27 = .ok (.invokestatic 85, 3) := by decide +kernel
theorem d_M_none_30 : decode b_M_none 30 = .ok (.ifCond .eq 7, 3) := by decide +kernel
theorem d_M_none_33 : decode b_M_none 33 = .ok (.iconst 1, 1) := by decide +kernel
theorem d_M_none_34 : decode b_M_none 34 = .ok (.goto 4, 3) := by decide +kernel
theorem d_M_none_37 : decode b_M_none 37 = .ok (.iconst 0, 1) := by decide +kernel
theorem d_M_none_38 : decode b_M_none 38 = .ok (.ireturn, 1) := by decide +kernel
theorem d_M_number_0 : decode b_M_number 0 = .ok (.aload_n 0, 1) := by decide +kernel
theorem d_M_number_1 : decode b_M_number 1 = .ok (.iconst 0, 1) := by decide +kernel
theorem d_M_number_2 : decode b_M_number 2 = .ok (.putfield 82, 3) := by decide +kernel
theorem d_M_number_5 : decode b_M_number 5 = .ok (.aload_n 0, 1) := by decide +kernel
theorem d_M_number_6 : decode b_M_number 6 = .ok (.iload_n 1, 1) := by decide +kernel
theorem d_M_number_7 : decode b_M_number 7 = .ok (.iload_n 2, 1) := by decide +kernel
theorem d_M_number_8 : decode b_M_number 8 = .ok (.invokevirtual 100, 3) := by decide +kernel
theorem d_M_number_11 : decode b_M_number 11 = .ok (.ifCond .eq 10, 3) := by decide +kernel
theorem d_M_number_14 : decode b_M_number 14 = .ok (.aload_n 0, 1) := by decide +kernel
theorem d_M_number_15 : decode b_M_number 15 = .ok (.iconst 1, 1) := by decide +kernel
theorem d_M_number_16 : decode b_M_number 16 = .ok (.invokevirtual 89, 3) := by decide +kernel
theorem d_M_number_19 : decode b_M_number 19 = .ok (.i2l, 1) := by decide +kernel
theorem d_M_number_20 : decode b_M_number 20 = .ok (.lreturn, 1) := by decide +kernel
theorem d_M_number_21 : decode b_M_number 21 = .ok (.aload_n 0, 1) := by decide +kernel
theorem d_M_number_22 : decode b_M_number 22 = .ok (.iload_n 1, 1) := by decide +kernel
theorem d_M_number_23 : decode b_M_number 23 = .ok (.iload_n 2, 1) := by decide +kernel
theorem d_M_number_24 : decode b_M_number 24 = .ok (.invokevirtual 103, 3) := by decide +kernel
theorem d_M_number_27 : decode b_M_number 27 = .ok (.iconst 3, 1) := by decide +kernel
theorem d_M_number_28 : decode b_M_number 28 = .ok (.if_icmp .le 10, 3) := by decide +kernel
theorem d_M_number_31 : decode b_M_number 31 = .ok (.aload_n 0, 1) := by decide +kernel
theorem d_M_number_32 : decode b_M_number 32 = .ok (.iconst 2, 1) := by decide +kernel
theorem d_M_number_33 : decode b_M_number 33 = .ok (.invokevirtual 89, 3) := by decide +kernel
theorem d_M_number_36 : decode b_M_number 36 = .ok (.i2l, 1) := by decide +kernel
theorem d_M_number_37 : decode b_M_number 37 = .ok (.lreturn, 1) := by decide +kernel
theorem d_M_number_38 : decode b_M_number 38 = .ok (.aload_n 0, 1) := by decide +kernel
theorem d_M_number_39 : decode b_M_number 39 = .ok (.getfield 29, 3) := by decide +kernel
theorem d_M_number_42 : decode b_M_number 42 = .ok (.bipush 6, 2) := by decide +kernel
theorem d_M_number_44 : decode b_M_number 44 = .ok (.iload_n 1, 1) := by decide +kernel
theorem d_M_number_45 : decode b_M_number 45 = .ok (.imul, 1) := by decide +kernel
theorem d_M_number_46 : decode b_M_number 46 = .ok (.iload_n 2, 1) := by decide +kernel
theorem d_M_number_47 : decode b_M_number 47 = .ok (.iadd, 1) := by decide +kernel
theorem d_M_number_48 : decode b_M_number 48 = .ok (.aload_n 0, 1) := by decide +kernel
theorem d_M_number_49 : decode b_M_number 49 = .ok (.iload_n 1, 1) := by decide +kernel
theorem d_M_number_50 : decode b_M_number 50 = .ok (.iload_n 2, 1) := by decide +kernel
theorem d_M_number_51 : decode b_M_number 51 = .ok (.invokevirtual 103, 3) := by decide +kernel
theorem d_M_number_54 : decode b_M_number 54 = .ok (.lload_n 3, 1) := by decide +kernel
theorem d_M_number_55 : decode b_M_number 55 = .ok (.invokestatic 107, 3) := by decide +kernel
theorem d_M_number_58 : decode b_M_number 58 = .ok (.lastore, 1) := by decide +kernel
theorem d_M_number_59 : decode b_M_number 59 = .ok (.aload_n 0, 1) := by decide +kernel
theorem d_M_number_60 : decode b_M_number 60 = .ok (.getfield 26, 3) := by decide +kernel
theorem d_M_number_63 : decode b_M_number 63 = .ok (.bipush 6, 2) := by decide +kernel
theorem d_M_number_65 : decode b_M_number 65 = .ok (.iload_n 1, 1) := by decide +kernel
theorem d_M_number_66 : decode b_M_number 66 = .ok (.imul, 1) := by decide +kernel
theorem d_M_number_67 : decode b_M_number 67 = .ok (.iload_n 2, 1) := by decide +kernel
theorem d_M_number_68 : decode b_M_number 68 = .ok (.iadd, 1) := by decide +kernel
theorem d_M_number_69 : decode b_M_number 69 = .ok (.iconst 1, 1) := by decide +kernel
theorem d_M_number_70 : decode b_M_number 70 = .ok (.bastore, 1) := by decide +kernel
theorem d_M_number_71 : decode b_M_number 71 = .ok (.aload_n 0, 1) := by decide +kernel
theorem d_M_number_72 : decode b_M_number 72 = .ok (.getfield 29, 3) := by decide +kernel
theorem d_M_number_75 : decode b_M_number 75 = .ok (.bipush 6, 2) := by decide +kernel
theorem d_M_number_77 : decode b_M_number 77 = .ok (.iload_n 1, 1) := by decide +kernel
theorem d_M_number_78 : decode b_M_number 78 = .ok (.imul, 1) := by decide +kernel
theorem d_M_number_79 : decode b_M_number 79 = .ok (.iload_n 2, 1) := by decide +kernel
theorem d_M_number_80 : decode b_M_number 80 = .ok (.iadd, 1) := by decide +kernel
theorem d_M_number_81 : decode b_M_number 81 = .ok (.laload, 1) := by decide +kernel
theorem d_M_number_82 : decode b_M_number 82 = .ok (.lreturn, 1) := by decide +kernel
theorem d_M_add_0 : decode b_M_add 0 = .ok (.aload_n 0, 1) := by decide +kernel
theorem d_M_add_1 : decode b_M_add 1 = .ok (.iconst 0, 1) := by decide +kernel
theorem d_M_add_2 : decode b_M_add 2 = .ok (.putfield 82, 3) := by decide +kernel
theorem d_M_add_5 : decode b_M_add 5 = .ok (.aload_n 0, 1) := by decide +kernel
theorem d_M_add_6 : decode b_M_add 6 = .ok (.getfield 111, 3) := by decide +kernel
theorem d_M_add_9 : decode b_M_add 9 = .ok (.bipush 12, 2) := by decide +kernel
theorem d_M_add_11 : decode b_M_add 11 = .ok (.if_icmp .ne 9, 3) := by decide +kernel
theorem d_M_add_14 : decode b_M_add 14 = .ok (.aload_n 0, 1) := by decide +kernel
theorem d_M_add_15 : decode b_M_add 15 = .ok (.iconst 1, 1) := by decide +kernel
theorem d_M_add_16 : decode b_M_add 16 = .ok (.invokevirtual 89, 3) := by decide +kernel
theorem d_M_add_19 : decode b_M_add 19 = .ok (.ireturn, 1) := by decide +kernel
theorem d_M_add_20 : decode b_M_add 20 = .ok (.aload_n 0, 1) := by decide +kernel
theorem d_M_add_21 : decode b_M_add 21 = .ok (.getfield 39, 3) := by decide +kernel
theorem d_M_add_24 : decode b_M_add 24 = .ok (.aload_n 0, 1) := by decide +kernel
theorem d_M_add_25 : decode b_M_add 25 = .ok (.getfield 111, 3) := by decide +kernel
theorem d_M_add_28 : decode b_M_add 28 = .ok (.iload_n 1, 1) := by decide +kernel
theorem d_M_add_29 : decode b_M_add 29 = .ok (.i2s, 1) := by decide +kernel
theorem d_M_add_30 : decode b_M_add 30 = .ok (.iastore, 1) := by decide +kernel
theorem d_M_add_31 : decode b_M_add 31 = .ok (.aload_n 0, 1) := by decide +kernel
theorem d_M_add_32 : decode b_M_add 32 = .ok (.dup, 1) := by decide +kernel
theorem d_M_add_33 : decode b_M_add 33 = .ok (.getfield 111, 3) := by decide +kernel
theorem d_M_add_36 : decode b_M_add 36 = .ok (.iconst 1, 1) := by decide +kernel
theorem d_M_add_37 : decode b_M_add 37 = .ok (.iadd, 1) := by decide +kernel
theorem d_M_add_38 : decode b_M_add 38 = .ok (.putfield 111, 3) := by decide +kernel
theorem d_M_add_41 : decode b_M_add 41 = .ok (.aload_n 0, 1) := by decide +kernel
theorem d_M_add_42 : decode b_M_add 42 = .ok (.getfield 111, 3) := by decide +kernel
theorem d_M_add_45 : decode b_M_add 45 = .ok (.ireturn, 1) := by decide +kernel
theorem d_M_fill_0 : decode b_M_fill 0 = .ok (.aload_n 0, 1) := by decide +kernel
theorem d_M_fill_1 : decode b_M_fill 1 = .ok (.iconst 0, 1) := by decide +kernel
theorem d_M_fill_2 : decode b_M_fill 2 = .ok (.putfield 82, 3) := by decide +kernel
theorem d_M_fill_5 : decode b_M_fill 5 = .ok (.aload_n 0, 1) := by decide +kernel
theorem d_M_fill_6 : decode b_M_fill 6 = .ok (.iload_n 1, 1) := by decide +kernel
theorem d_M_fill_7 : decode b_M_fill 7 = .ok (.iload_n 2, 1) := by decide +kernel
theorem d_M_fill_8 : decode b_M_fill 8 = .ok (.invokevirtual 100, 3) := by decide +kernel
theorem d_M_fill_11 : decode b_M_fill 11 = .ok (.ifCond .eq 9, 3) := by decide +kernel
theorem d_M_fill_14 : decode b_M_fill 14 = .ok (.aload_n 0, 1) := by decide +kernel
theorem d_M_fill_15 : decode b_M_fill 15 = .ok (.iconst 1, 1) := by decide +kernel
theorem d_M_fill_16 : decode b_M_fill 16 = .ok (.invokevirtual 89, 3) := by decide +kernel
theorem d_M_fill_19 : decode b_M_fill 19 = .ok (.ireturn, 1) := by decide +kernel
theorem d_M_fill_20 : decode b_M_fill 20 = .ok (.aload_n 0, 1) := by decide +kernel
theorem d_M_fill_21 : decode b_M_fill 21 = .ok (.iload_n 1, 1) := by decide +kernel
theorem d_M_fill_22 : decode b_M_fill 22 = .ok (.iload_n 2, 1) := by decide +kernel
theorem d_M_fill_23 : decode b_M_fill 23 = .ok (.invokevirtual 103, 3) := by decide +kernel
theorem d_M_fill_26 : decode b_M_fill 26 = .ok (.istore_n 3, 1) := by decide +kernel
theorem d_M_fill_27 : decode b_M_fill 27 = .ok (.iload_n 3, 1) := by decide +kernel
theorem d_M_fill_28 : decode b_M_fill 28 = .ok (.iconst 4, 1) := by decide +kernel
theorem d_M_fill_29 : decode b_M_fill 29 = .ok (.if_icmp .eq 8, 3) := by decide +kernel
theorem d_M_fill_32 : decode b_M_fill 32 = .ok (.iload_n 3, 1) := by decide +kernel
theorem d_M_fill_33 : decode b_M_fill 33 = .ok (.iconst 5, 1) := by decide +kernel
theorem d_M_fill_34 : decode b_M_fill 34 = .ok (.if_icmp .ne 17, 3) := by decide +kernel
theorem d_M_fill_37 : decode b_M_fill 37 = .ok (.iload_n 3, 1) := by decide +kernel
theorem d_M_fill_38 : decode b_M_fill 38 = .ok (.iconst 5, 1) := by decide +kernel
theorem d_M_fill_39 : decode b_M_fill 39 = .ok (.if_icmp .ne 18, 3) := by decide +kernel
theorem d_M_fill_42 : decode b_M_fill 42 = .ok (.aload_n 0, 1) := by decide +kernel
theorem d_M_fill_43 : decode b_M_fill 43 = .ok (.getfield 111, 3) := by decide +kernel
theorem d_M_fill_46 : decode b_M_fill 46 = .ok (.bipush 8, 2) := by decide +kernel
theorem d_M_fill_48 : decode b_M_fill 48 = .ok (.if_icmp .le 9, 3) := by decide +kernel
theorem d_M_fill_51 : decode b_M_fill 51 = .ok (.aload_n 0, 1) := by decide +kernel
theorem d_M_fill_52 : decode b_M_fill 52 = .ok (.iconst 2, 1) := by decide +kernel
theorem d_M_fill_53 : decode b_M_fill 53 = .ok (.invokevirtual 89, 3) := by decide +kernel
theorem d_M_fill_56 : decode b_M_fill 56 = .ok (.ireturn, 1) := by decide +kernel
theorem d_M_fill_57 : decode b_M_fill 57 = .ok (.bipush 6, 2) := by decide +kernel
theorem d_M_fill_59 : decode b_M_fill 59 = .ok (.iload_n 1, 1) := by decide +kernel
theorem d_M_fill_60 : decode b_M_fill 60 = .ok (.imul, 1) := by decide +kernel
theorem d_M_fill_61 : decode b_M_fill 61 = .ok (.iload_n 2, 1) := by decide +kernel
theorem d_M_fill_62 : decode b_M_fill 62 = .ok (.iadd, 1) := by decide +kernel
theorem d_M_fill_63 : decode b_M_fill 63 = .ok (.istore 4, 2) := by decide +kernel
theorem d_M_fill_65 : decode b_M_fill 65 = .ok (.aload_n 0, 1) := by decide +kernel
theorem d_M_fill_66 : decode b_M_fill 66 = .ok (.getfield 26, 3) := by decide +kernel
theorem d_M_fill_69 : decode b_M_fill 69 = .ok (.iload 4, 2) := by decide +kernel
theorem d_M_fill_71 : decode b_M_fill 71 = .ok (.iconst 1, 1) := by decide +kernel
theorem d_M_fill_72 : decode b_M_fill 72 = .ok (.bastore, 1) := by decide +kernel
theorem d_M_fill_73 : decode b_M_fill 73 = .ok (.aload_n 0, 1) := by decide +kernel
theorem d_M_fill_74 : decode b_M_fill 74 = .ok (.getfield 33, 3) := by decide +kernel
theorem d_M_fill_77 : decode b_M_fill 77 = .ok (.iload 4, 2) := by decide +kernel
theorem d_M_fill_79 : decode b_M_fill 79 = .ok (.aload_n 0, 1) := by decide +kernel
theorem d_M_fill_80 : decode b_M_fill 80 = .ok (.getfield 111, 3) := by decide +kernel
theorem d_M_fill_83 : decode b_M_fill 83 = .ok (.iastore, 1) := by decide +kernel
theorem d_M_fill_84 : decode b_M_fill 84 = .ok (.iconst 0, 1) := by decide +kernel
theorem d_M_fill_85 : decode b_M_fill 85 = .ok (.istore 5, 2) := by decide +kernel
theorem d_M_fill_87 : decode b_M_fill 87 = .ok (.iload 5, 2) := by decide +kernel
theorem d_M_fill_89 : decode b_M_fill 89 = .ok (.aload_n 0, 1) := by decide +kernel
theorem d_M_fill_90 : decode b_M_fill 90 = .ok (.getfield 111, 3) := by decide +kernel
theorem d_M_fill_93 : decode b_M_fill 93 = .ok (.if_icmp .ge 47, 3) := by decide +kernel
theorem d_M_fill_96 : decode b_M_fill 96 = .ok (.aload_n 0, 1) := by decide +kernel
theorem d_M_fill_97 : decode b_M_fill 97 = .ok (.getfield 36, 3) := by decide +kernel
theorem d_M_fill_100 : decode b_M_fill 100 = .ok (.bipush 12, 2) := by decide +kernel
theorem d_M_fill_102 : decode b_M_fill 102 = .ok (.iload 4, 2) := by decide +kernel
theorem d_M_fill_104 : decode b_M_fill 104 = .ok (.imul, 1) := by decide +kernel
theorem d_M_fill_105 : decode b_M_fill 105 = .ok (.iload 5, 2) := by decide +kernel
theorem d_M_fill_107 : decode b_M_fill 107 = .ok (.iadd, 1) := by decide +kernel
theorem d_M_fill_108 : decode b_M_fill 108 = .ok (.iload_n 3, 1) := by decide +kernel
theorem d_M_fill_109 : decode b_M_fill 109 = .ok (.iconst 4, 1) := by decide +kernel
theorem d_M_fill_110 : decode b_M_fill 110 = .ok (.if_icmp .ne 16, 3) := by decide +kernel
theorem d_M_fill_113 : decode b_M_fill 113 = .ok (.aload_n 0, 1) := by decide +kernel
theorem d_M_fill_114 : decode b_M_fill 114 = .ok (.getfield 39, 3) := by decide +kernel
theorem d_M_fill_117 : decode b_M_fill 117 = .ok (.iload 5, 2) := by decide +kernel
theorem d_M_fill_119 : decode b_M_fill 119 = .ok (.iaload, 1) := by decide +kernel
theorem d_M_fill_120 : decode b_M_fill 120 = .ok (.bipush 127, 2) := by decide +kernel
theorem d_M_fill_122 : decode b_M_fill 122 = .ok (.iand, 1) := by decide +kernel
theorem d_M_fill_123 : decode b_M_fill 123 = .ok (.goto 10, 3) := by decide +kernel
theorem d_M_fill_126 : decode b_M_fill 126 = .ok (.aload_n 0, 1) := by decide +kernel
theorem d_M_fill_127 : decode b_M_fill 127 = .ok (.getfield 39, 3) := by decide +kernel
theorem d_M_fill_130 : decode b_M_fill 130 = .ok (.iload 5, 2) := by decide +kernel
theorem d_M_fill_132 : decode b_M_fill 132 = .ok (.iaload, 1) := by decide +kernel
theorem d_M_fill_133 : decode b_M_fill 133 = .ok (.iastore, 1) := by decide +kernel
theorem d_M_fill_134 : decode b_M_fill 134 = .ok (.iinc 5 1, 3) := by decide +kernel
theorem d_M_fill_137 : decode b_M_fill 137 = .ok (.goto (-50), 3) := by decide +kernel
theorem d_M_fill_140 : decode b_M_fill 140 = .ok (.aload_n 0, 1) := by decide +kernel
theorem d_M_fill_141 : decode b_M_fill 141 = .ok (.iconst 0, 1) := by decide +kernel
theorem d_M_fill_142 : decode b_M_fill 142 = .ok (.putfield 111, 3) := by decide +kernel
theorem d_M_fill_145 : decode b_M_fill 145 = .ok (.aload_n 0, 1) := by decide +kernel
theorem d_M_fill_146 : decode b_M_fill 146 = .ok (.getfield 33, 3) := by decide +kernel
theorem d_M_fill_149 : decode b_M_fill 149 = .ok (.iload 4, 2) := by decide +kernel
theorem d_M_fill_151 : decode b_M_fill 151 = .ok (.iaload, 1) := by decide +kernel
theorem d_M_fill_152 : decode b_M_fill 152 = .ok (.ireturn, 1) := by decide +kernel
theorem d_M_link_0 : decode b_M_link 0 = .ok (.aload_n 0, 1) := by decide +kernel
theorem d_M_link_1 : decode b_M_link 1 = .ok (.iconst 0, 1) := by decide +kernel
theorem d_M_link_2 : decode b_M_link 2 = .ok (.putfield 82, 3) := by decide +kernel
theorem d_M_link_5 : decode b_M_link 5 = .ok (.aload_n 0, 1) := by decide +kernel
theorem d_M_link_6 : decode b_M_link 6 = .ok (.iload_n 1, 1) := by decide +kernel
theorem d_M_link_7 : decode b_M_link 7 = .ok (.iload_n 2, 1) := by decide +kernel
theorem d_M_link_8 : decode b_M_link 8 = .ok (.invokevirtual 100, 3) := by decide +kernel
theorem d_M_link_11 : decode b_M_link 11 = .ok (.ifCond .ne 16, 3) := by decide +kernel
theorem d_M_link_14 : decode b_M_link 14 = .ok (.iload_n 3, 1) := by decide +kernel
theorem d_M_link_15 : decode b_M_link 15 = .ok (.aload_n 0, 1) := by decide +kernel
theorem d_M_link_16 : decode b_M_link 16 = .ok (.getfield 97, 3) := by decide +kernel
theorem d_M_link_19 : decode b_M_link 19 = .ok (.iconst 1, 1) := by decide +kernel
theorem d_M_link_20 : decode b_M_link 20 = .ok (.isub, 1) := by decide +kernel
theorem d_M_link_21 : decode b_M_link 21 = .ok (.invokestatic 85, 3) := by decide +kernel
theorem d_M_link_24 : decode b_M_link 24 = .ok (.ifCond .eq 9, 3) := by decide +kernel
theorem d_M_link_27 : decode b_M_link 27 = .ok (.aload_n 0, 1) := by decide +kernel
theorem d_M_link_28 : decode b_M_link 28 = .ok (.iconst 1, 1) := by decide +kernel
theorem d_M_link_29 : decode b_M_link 29 = .ok (.invokevirtual 89, 3) := by decide +kernel
theorem d_M_link_32 : decode b_M_link 32 = .ok (.ireturn, 1) := by decide +kernel
theorem d_M_link_33 : decode b_M_link 33 = .ok (.aload_n 0, 1) := by decide +kernel
theorem d_M_link_34 : decode b_M_link 34 = .ok (.iload_n 1, 1) := by decide +kernel
theorem d_M_link_35 : decode b_M_link 35 = .ok (.iload_n 2, 1) := by decide +kernel
theorem d_M_link_36 : decode b_M_link 36 = .ok (.invokevirtual 103, 3) := by decide +kernel
theorem d_M_link_39 : decode b_M_link 39 = .ok (.bipush 6, 2) := by decide +kernel
theorem d_M_link_41 : decode b_M_link 41 = .ok (.if_icmp .ne 33, 3) := by decide +kernel
theorem d_M_link_44 : decode b_M_link 44 = .ok (.aload_n 0, 1) := by decide +kernel
theorem d_M_link_45 : decode b_M_link 45 = .ok (.getfield 23, 3) := by decide +kernel
theorem d_M_link_48 : decode b_M_link 48 = .ok (.iload_n 3, 1) := by decide +kernel
theorem d_M_link_49 : decode b_M_link 49 = .ok (.iaload, 1) := by decide +kernel
theorem d_M_link_50 : decode b_M_link 50 = .ok (.aload_n 0, 1) := by decide +kernel
theorem d_M_link_51 : decode b_M_link 51 = .ok (.getfield 16, 3) := by decide +kernel
theorem d_M_link_54 : decode b_M_link 54 = .ok (.bipush 6, 2) := by decide +kernel
theorem d_M_link_56 : decode b_M_link 56 = .ok (.aload_n 0, 1) := by decide +kernel
theorem d_M_link_57 : decode b_M_link 57 = .ok (.getfield 23, 3) := by decide +kernel
theorem d_M_link_60 : decode b_M_link 60 = .ok (.iload_n 1, 1) := by decide +kernel
theorem d_M_link_61 : decode b_M_link 61 = .ok (.iaload, 1) := by decide +kernel
theorem d_M_link_62 : decode b_M_link 62 = .ok (.imul, 1) := by decide +kernel
theorem d_M_link_63 : decode b_M_link 63 = .ok (.iload_n 2, 1) := by decide +kernel
theorem d_M_link_64 : decode b_M_link 64 = .ok (.iadd, 1) := by decide +kernel
theorem d_M_link_65 : decode b_M_link 65 = .ok (.iaload, 1) := by decide +kernel
theorem d_M_link_66 : decode b_M_link 66 = .ok (.if_icmp .ne 8, 3) := by decide +kernel
theorem d_M_link_69 : decode b_M_link 69 = .ok (.iload_n 3, 1) := by decide +kernel
theorem d_M_link_70 : decode b_M_link 70 = .ok (.iload_n 1, 1) := by decide +kernel
theorem d_M_link_71 : decode b_M_link 71 = .ok (.if_icmp .lt 9, 3) := by decide +kernel
theorem d_M_link_74 : decode b_M_link 74 = .ok (.aload_n 0, 1) := by decide +kernel
theorem d_M_link_75 : decode b_M_link 75 = .ok (.iconst 2, 1) := by decide +kernel
theorem d_M_link_76 : decode b_M_link 76 = .ok (.invokevirtual 89, 3) := by decide +kernel
theorem d_M_link_79 : decode b_M_link 79 = .ok (.ireturn, 1) := by decide +kernel
theorem d_M_link_80 : decode b_M_link 80 = .ok (.aload_n 0, 1) := by decide +kernel
theorem d_M_link_81 : decode b_M_link 81 = .ok (.getfield 26, 3) := by decide +kernel
theorem d_M_link_84 : decode b_M_link 84 = .ok (.bipush 6, 2) := by decide +kernel
theorem d_M_link_86 : decode b_M_link 86 = .ok (.iload_n 1, 1) := by decide +kernel
theorem d_M_link_87 : decode b_M_link 87 = .ok (.imul, 1) := by decide +kernel
theorem d_M_link_88 : decode b_M_link 88 = .ok (.iload_n 2, 1) := by decide +kernel
theorem d_M_link_89 : decode b_M_link 89 = .ok (.iadd, 1) := by decide +kernel
theorem d_M_link_90 : decode b_M_link 90 = .ok (.iconst 1, 1) := by decide +kernel
theorem d_M_link_91 : decode b_M_link 91 = .ok (.bastore, 1) := by decide +kernel
theorem d_M_link_92 : decode b_M_link 92 = .ok (.aload_n 0, 1) := by decide +kernel
theorem d_M_link_93 : decode b_M_link 93 = .ok (.getfield 29, 3) := by decide +kernel
theorem d_M_link_96 : decode b_M_link 96 = .ok (.bipush 6, 2) := by decide +kernel
theorem d_M_link_98 : decode b_M_link 98 = .ok (.iload_n 1, 1) := by decide +kernel
theorem d_M_link_99 : decode b_M_link 99 = .ok (.imul, 1) := by decide +kernel
theorem d_M_link_100 : decode b_M_link 100 = .ok (.iload_n 2, 1) := by decide +kernel
theorem d_M_link_101 : decode b_M_link 101 = .ok (.iadd, 1) := by decide +kernel
theorem d_M_link_102 : decode b_M_link 102 = .ok (.iload_n 3, 1) := by decide +kernel
theorem d_M_link_103 : decode b_M_link 103 = .ok (.i2l, 1) := by decide +kernel
theorem d_M_link_104 : decode b_M_link 104 = .ok (.lastore, 1) := by decide +kernel
theorem d_M_link_105 : decode b_M_link 105 = .ok (.iconst 1, 1) := by decide +kernel
theorem d_M_link_106 : decode b_M_link 106 = .ok (.ireturn, 1) := by decide +kernel
theorem d_M_unset_0 : decode b_M_unset 0 = .ok (.aload_n 0, 1) := by decide +kernel
theorem d_M_unset_1 : decode b_M_unset 1 = .ok (.iconst 0, 1) := by decide +kernel
theorem d_M_unset_2 : decode b_M_unset 2 = .ok (.putfield 82, 3) := by decide +kernel
theorem d_M_unset_5 : decode b_M_unset 5 = .ok (.aload_n 0, 1) := by decide +kernel
theorem d_M_unset_6 : decode b_M_unset 6 = .ok (.iload_n 1, 1) := by decide +kernel
theorem d_M_unset_7 : decode b_M_unset 7 = .ok (.iload_n 2, 1) := by decide +kernel
theorem d_M_unset_8 : decode b_M_unset 8 = .ok (.invokevirtual 100, 3) := by decide +kernel
theorem d_M_unset_11 : decode b_M_unset 11 = .ok (.ifCond .eq 9, 3) := by decide +kernel
theorem d_M_unset_14 : decode b_M_unset 14 = .ok (.aload_n 0, 1) := by decide +kernel
theorem d_M_unset_15 : decode b_M_unset 15 = .ok (.iconst 1, 1) := by decide +kernel
theorem d_M_unset_16 : decode b_M_unset 16 = .ok (.invokevirtual 89, 3) := by decide +kernel
theorem d_M_unset_19 : decode b_M_unset 19 = .ok (.ireturn, 1) := by decide +kernel
theorem d_M_unset_20 : decode b_M_unset 20 = .ok (.aload_n 0, 1) := by decide +kernel
theorem d_M_unset_21 : decode b_M_unset 21 = .ok (.getfield 26, 3) := by decide +kernel
theorem d_M_unset_24 : decode b_M_unset 24 = .ok (.bipush 6, 2) := by decide +kernel
theorem d_M_unset_26 : decode b_M_unset 26 = .ok (.iload_n 1, 1) := by decide +kernel
theorem d_M_unset_27 : decode b_M_unset 27 = .ok (.imul, 1) := by decide +kernel
theorem d_M_unset_28 : decode b_M_unset 28 = .ok (.iload_n 2, 1) := by decide +kernel
theorem d_M_unset_29 : decode b_M_unset 29 = .ok (.iadd, 1) := by decide +kernel
theorem d_M_unset_30 : decode b_M_unset 30 = .ok (.baload, 1) := by decide +kernel
theorem d_M_unset_31 : decode b_M_unset 31 = .ok (.ifCond .eq 7, 3) := by decide +kernel
theorem d_M_unset_34 : decode b_M_unset 34 = .ok (.iconst 1, 1) := by decide +kernel
theorem d_M_unset_35 : decode b_M_unset 35 = .ok (.goto 4, 3) := by decide +kernel
theorem d_M_unset_38 : decode b_M_unset 38 = .ok (.iconst 0, 1) := by decide +kernel
theorem d_M_unset_39 : decode b_M_unset 39 = .ok (.istore_n 3, 1) := by decide +kernel
theorem d_M_unset_40 : decode b_M_unset 40 = .ok (.aload_n 0, 1) := by decide +kernel
theorem d_M_unset_41 : decode b_M_unset 41 = .ok (.getfield 26, 3) := by decide +kernel
theorem d_M_unset_44 : decode b_M_unset 44 = .ok (.bipush 6, 2) := by decide +kernel
theorem d_M_unset_46 : decode b_M_unset 46 = .ok (.iload_n 1, 1) := by decide +kernel
theorem d_M_unset_47 : decode b_M_unset 47 = .ok (.imul, 1) := by decide +kernel
theorem d_M_unset_48 : decode b_M_unset 48 = .ok (.iload_n 2, 1) := by decide +kernel
theorem d_M_unset_49 : decode b_M_unset 49 = .ok (.iadd, 1) := by decide +kernel
theorem d_M_unset_50 : decode b_M_unset 50 = .ok (.iconst 0, 1) := by decide +kernel
theorem d_M_unset_51 : decode b_M_unset 51 = .ok (.bastore, 1) := by decide +kernel
theorem d_M_unset_52 : decode b_M_unset 52 = .ok (.iload_n 3, 1) := by decide +kernel
theorem d_M_unset_53 : decode b_M_unset 53 = .ok (.ireturn, 1) := by decide +kernel
theorem d_M_at_0 : decode b_M_at 0 = .ok (.aload_n 0, 1) := by decide +kernel
theorem d_M_at_1 : decode b_M_at 1 = .ok (.iconst 0, 1) := by decide +kernel
theorem d_M_at_2 : decode b_M_at 2 = .ok (.putfield 82, 3) := by decide +kernel
theorem d_M_at_5 : decode b_M_at 5 = .ok (.iload_n 1, 1) := by decide +kernel
theorem d_M_at_6 : decode b_M_at 6 = .ok (.aload_n 0, 1) := by decide +kernel
theorem d_M_at_7 : decode b_M_at 7 = .ok (.getfield 164, 3) := by decide +kernel
theorem d_M_at_10 : decode b_M_at 10 = .ok (.iconst 1, 1) := by decide +kernel
theorem d_M_at_11 : decode b_M_at 11 = .ok (.isub, 1) := by decide +kernel
theorem d_M_at_12 : decode b_M_at 12 = .ok (.invokestatic 85, 3) := by decide +kernel
theorem d_M_at_15 : decode b_M_at 15 = .ok (.ifCond .eq 11, 3) := by decide +kernel
theorem d_M_at_18 : decode b_M_at 18 = .ok (.aload_n 0, 1) := by decide +kernel
theorem d_M_at_19 : decode b_M_at 19 = .ok (.iconst 1, 1) := by decide +kernel
theorem d_M_at_20 : decode b_M_at 20 = .ok (.invokevirtual 89, 3) := by decide +kernel
theorem d_M_at_23 : decode b_M_at 23 = .ok (.goto 9, 3) := by decide +kernel
theorem d_M_at_26 : decode b_M_at 26 = .ok (.aload_n 0, 1) := by decide +kernel
theorem d_M_at_27 : decode b_M_at 27 = .ok (.getfield 66, 3) := by decide +kernel
theorem d_M_at_30 : decode b_M_at 30 = .ok (.iload_n 1, 1) := by decide +kernel
theorem d_M_at_31 : decode b_M_at 31 = .ok (.iaload, 1) := by decide +kernel
theorem d_M_at_32 : decode b_M_at 32 = .ok (.ireturn, 1) := by decide +kernel
theorem d_M_patch_0 : decode b_M_patch 0 = .ok (.aload_n 0, 1) := by decide +kernel
theorem d_M_patch_1 : decode b_M_patch 1 = .ok (.iconst 0, 1) := by decide +kernel
theorem d_M_patch_2 : decode b_M_patch 2 = .ok (.putfield 82, 3) := by decide +kernel
theorem d_M_patch_5 : decode b_M_patch 5 = .ok (.iload_n 1, 1) := by decide +kernel
theorem d_M_patch_6 : decode b_M_patch 6 = .ok (.aload_n 0, 1) := by decide +kernel
theorem d_M_patch_7 : decode b_M_patch 7 = .ok (.getfield 164, 3) := by decide +kernel
theorem d_M_patch_10 : decode b_M_patch 10 = .ok (.iconst 1, 1) := by decide +kernel
theorem d_M_patch_11 : decode b_M_patch 11 = .ok (.isub, 1) := by decide +kernel
theorem d_M_patch_12 : decode b_M_patch 12 = .ok (.invokestatic 85, 3) := by decide +kernel
theorem d_M_patch_15 : decode b_M_patch 15 = .ok (.ifCond .eq 9, 3) := by decide +kernel
theorem d_M_patch_18 : decode b_M_patch 18 = .ok (.aload_n 0, 1) := by decide +kernel
theorem d_M_patch_19 : decode b_M_patch 19 = .ok (.iconst 1, 1) := by decide +kernel
theorem d_M_patch_20 : decode b_M_patch 20 = .ok (.invokevirtual 89, 3) := by decide +kernel
theorem d_M_patch_23 : decode b_M_patch 23 = .ok (.ireturn, 1) := by decide +kernel
theorem d_M_patch_24 : decode b_M_patch 24 = .ok (.aload_n 0, 1) := by decide +kernel
theorem d_M_patch_25 : decode b_M_patch 25 = .ok (.getfield 66, 3) := by decide +kernel
theorem d_M_patch_28 : decode b_M_patch 28 = .ok (.iload_n 1, 1) := by decide +kernel
theorem d_M_patch_29 : decode b_M_patch 29 = .ok (.iaload, 1) := by decide +kernel
theorem d_M_patch_30 : decode b_M_patch 30 = .ok (.istore_n 3, 1) := by decide +kernel
theorem d_M_patch_31 : decode b_M_patch 31 = .ok (.aload_n 0, 1) := by decide +kernel
theorem d_M_patch_32 : decode b_M_patch 32 = .ok (.getfield 66, 3) := by decide +kernel
theorem d_M_patch_35 : decode b_M_patch 35 = .ok (.iload_n 1, 1) := by decide +kernel
theorem d_M_patch_36 : decode b_M_patch 36 = .ok (.iload_n 2, 1) := by decide +kernel
theorem d_M_patch_37 : decode b_M_patch 37 = .ok (.sipush 255, 3) := by decide +kernel
theorem d_M_patch_40 : decode b_M_patch 40 = .ok (.iand, 1) := by decide +kernel
theorem d_M_patch_41 : decode b_M_patch 41 = .ok (.iastore, 1) := by decide +kernel
theorem d_M_patch_42 : decode b_M_patch 42 = .ok (.aload_n 0, 1) := by decide +kernel
theorem d_M_patch_43 : decode b_M_patch 43 = .ok (.iconst 0, 1) := by decide +kernel
theorem d_M_patch_44 : decode b_M_patch 44 = .ok (.putfield 93, 3) := by decide +kernel
theorem d_M_patch_47 : decode b_M_patch 47 = .ok (.iload_n 3, 1) := by decide +kernel
theorem d_M_patch_48 : decode b_M_patch 48 = .ok (.ireturn, 1) := by decide +kernel
theorem d_M_cut_0 : decode b_M_cut 0 = .ok (.aload_n 0, 1) := by decide +kernel
theorem d_M_cut_1 : decode b_M_cut 1 = .ok (.iconst 0, 1) := by decide +kernel
theorem d_M_cut_2 : decode b_M_cut 2 = .ok (.putfield 82, 3) := by decide +kernel
theorem d_M_cut_5 : decode b_M_cut 5 = .ok (.iload_n 1, 1) := by decide +kernel
theorem d_M_cut_6 : decode b_M_cut 6 = .ok (.aload_n 0, 1) := by decide +kernel
theorem d_M_cut_7 : decode b_M_cut 7 = .ok (.getfield 164, 3) := by decide +kernel
theorem d_M_cut_10 : decode b_M_cut 10 = .ok (.invokestatic 85, 3) := by decide +kernel
theorem d_M_cut_13 : decode b_M_cut 13 = .ok (.ifCond .eq 9, 3) := by decide +kernel
theorem d_M_cut_16 : decode b_M_cut 16 = .ok (.aload_n 0, 1) := by decide +kernel
theorem d_M_cut_17 : decode b_M_cut 17 = .ok (.iconst 1, 1) := by decide +kernel
theorem d_M_cut_18 : decode b_M_cut 18 = .ok (.invokevirtual 89, 3) := by decide +kernel
theorem d_M_cut_21 : decode b_M_cut 21 = .ok (.ireturn, 1) := by decide +kernel
theorem d_M_cut_22 : decode b_M_cut 22 = .ok (.aload_n 0, 1) := by decide +kernel
theorem d_M_cut_23 : decode b_M_cut 23 = .ok (.getfield 164, 3) := by decide +kernel
theorem d_M_cut_26 : decode b_M_cut 26 = .ok (.iload_n 1, 1) := by decide +kernel
theorem d_M_cut_27 : decode b_M_cut 27 = .ok (.isub, 1) := by decide +kernel
theorem d_M_cut_28 : decode b_M_cut 28 = .ok (.istore_n 2, 1) := by decide +kernel
theorem d_M_cut_29 : decode b_M_cut 29 = .ok (.aload_n 0, 1) := by decide +kernel
theorem d_M_cut_30 : decode b_M_cut 30 = .ok (.iload_n 1, 1) := by decide +kernel
theorem d_M_cut_31 : decode b_M_cut 31 = .ok (.putfield 164, 3) := by decide +kernel
theorem d_M_cut_34 : decode b_M_cut 34 = .ok (.aload_n 0, 1) := by decide +kernel
theorem d_M_cut_35 : decode b_M_cut 35 = .ok (.iconst 0, 1) := by decide +kernel
theorem d_M_cut_36 : decode b_M_cut 36 = .ok (.putfield 93, 3) := by decide +kernel
theorem d_M_cut_39 : decode b_M_cut 39 = .ok (.iload_n 2, 1) := by decide +kernel
theorem d_M_cut_40 : decode b_M_cut 40 = .ok (.ireturn, 1) := by decide +kernel
theorem d_M_fault_0 : decode b_M_fault 0 = .ok (.aload_n 0, 1) := by decide +kernel
theorem d_M_fault_1 : decode b_M_fault 1 = .ok (.iconst 0, 1) := by decide +kernel
theorem d_M_fault_2 : decode b_M_fault 2 = .ok (.putfield 82, 3) := by decide +kernel
theorem d_M_fault_5 : decode b_M_fault 5 = .ok (.aload_n 0, 1) := by decide +kernel
theorem d_M_fault_6 : decode b_M_fault 6 = .ok (.getfield 69, 3) := by decide +kernel
theorem d_M_fault_9 : decode b_M_fault 9 = .ok (.ireturn, 1) := by decide +kernel
theorem d_M_top_0 : decode b_M_top 0 = .ok (.aload_n 0, 1) := by decide +kernel
theorem d_M_top_1 : decode b_M_top 1 = .ok (.iconst 0, 1) := by decide +kernel
theorem d_M_top_2 : decode b_M_top 2 = .ok (.putfield 82, 3) := by decide +kernel
theorem d_M_top_5 : decode b_M_top 5 = .ok (.aload_n 0, 1) := by decide +kernel
theorem d_M_top_6 : decode b_M_top 6 = .ok (.getfield 93, 3) := by decide +kernel
theorem d_M_top_9 : decode b_M_top 9 = .ok (.ifCond .ne 9, 3) := by decide +kernel
theorem d_M_top_12 : decode b_M_top 12 = .ok (.aload_n 0, 1) := by decide +kernel
theorem d_M_top_13 : decode b_M_top 13 = .ok (.iconst 1, 1) := by decide +kernel
theorem d_M_top_14 : decode b_M_top 14 = .ok (.invokevirtual 89, 3) := by decide +kernel
theorem d_M_top_17 : decode b_M_top 17 = .ok (.ireturn, 1) := by decide +kernel
theorem d_M_top_18 : decode b_M_top 18 = .ok (.aload_n 0, 1) := by decide +kernel
theorem d_M_top_19 : decode b_M_top 19 = .ok (.aload_n 0, 1) := by decide +kernel
theorem d_M_top_20 : decode b_M_top 20 = .ok (.getfield 221, 3) := by decide +kernel
theorem d_M_top_23 : decode b_M_top 23 = .ok (.putfield 227, 3) := by decide +kernel
theorem d_M_top_26 : decode b_M_top 26 = .ok (.aload_n 0, 1) := by decide +kernel
theorem d_M_top_27 : decode b_M_top 27 = .ok (.aload_n 0, 1) := by decide +kernel
theorem d_M_top_28 : decode b_M_top 28 = .ok (.getfield 224, 3) := by decide +kernel
theorem d_M_top_31 : decode b_M_top 31 = .ok (.putfield 230, 3) := by decide +kernel
theorem d_M_top_34 : decode b_M_top 34 = .ok (.iconst 1, 1) := by decide +kernel
theorem d_M_top_35 : decode b_M_top 35 = .ok (.ireturn, 1) := by decide +kernel
theorem d_M_count_0 : decode b_M_count 0 = .ok (.aload_n 0, 1) := by decide +kernel
theorem d_M_count_1 : decode b_M_count 1 = .ok (.iconst 0, 1) := by decide +kernel
theorem d_M_count_2 : decode b_M_count 2 = .ok (.putfield 82, 3) := by decide +kernel
theorem d_M_count_5 : decode b_M_count 5 = .ok (.iload_n 1, 1) := by decide +kernel
theorem d_M_count_6 : decode b_M_count 6 = .ok (.tableswitch 110 0 5 #[38, 43, 48, 76, 81, 94], 38) := by decide +kernel
theorem d_M_count_44 : decode b_M_count 44 = .ok (.aload_n 0, 1) := by decide +kernel
theorem d_M_count_45 : decode b_M_count 45 = .ok (.getfield 164, 3) := by decide +kernel
theorem d_M_count_48 : decode b_M_count 48 = .ok (.ireturn, 1) := by decide +kernel
theorem d_M_count_49 : decode b_M_count 49 = .ok (.aload_n 0, 1) := by decide +kernel
theorem d_M_count_50 : decode b_M_count 50 = .ok (.getfield 97, 3) := by decide +kernel
theorem d_M_count_53 : decode b_M_count 53 = .ok (.ireturn, 1) := by decide +kernel
theorem d_M_count_54 : decode b_M_count 54 = .ok (.aload_n 0, 1) := by decide +kernel
theorem d_M_count_55 : decode b_M_count 55 = .ok (.getfield 7, 3) := by decide +kernel
theorem d_M_count_58 : decode b_M_count 58 = .ok (.iconst 0, 1) := by decide +kernel
theorem d_M_count_59 : decode b_M_count 59 = .ok (.iaload, 1) := by decide +kernel
theorem d_M_count_60 : decode b_M_count 60 = .ok (.aload_n 0, 1) := by decide +kernel
theorem d_M_count_61 : decode b_M_count 61 = .ok (.getfield 7, 3) := by decide +kernel
theorem d_M_count_64 : decode b_M_count 64 = .ok (.iconst 1, 1) := by decide +kernel
theorem d_M_count_65 : decode b_M_count 65 = .ok (.iaload, 1) := by decide +kernel
theorem d_M_count_66 : decode b_M_count 66 = .ok (.iadd, 1) := by decide +kernel
theorem d_M_count_67 : decode b_M_count 67 = .ok (.aload_n 0, 1) := by decide +kernel
theorem d_M_count_68 : decode b_M_count 68 = .ok (.getfield 7, 3) := by decide +kernel
theorem d_M_count_71 : decode b_M_count 71 = .ok (.iconst 2, 1) := by decide +kernel
theorem d_M_count_72 : decode b_M_count 72 = .ok (.iaload, 1) := by decide +kernel
theorem d_M_count_73 : decode b_M_count 73 = .ok (.iadd, 1) := by decide +kernel
theorem d_M_count_74 : decode b_M_count 74 = .ok (.aload_n 0, 1) := by decide +kernel
theorem d_M_count_75 : decode b_M_count 75 = .ok (.getfield 7, 3) := by decide +kernel
theorem d_M_count_78 : decode b_M_count 78 = .ok (.iconst 3, 1) := by decide +kernel
theorem d_M_count_79 : decode b_M_count 79 = .ok (.iaload, 1) := by decide +kernel
theorem d_M_count_80 : decode b_M_count 80 = .ok (.iadd, 1) := by decide +kernel
theorem d_M_count_81 : decode b_M_count 81 = .ok (.ireturn, 1) := by decide +kernel
theorem d_M_count_82 : decode b_M_count 82 = .ok (.aload_n 0, 1) := by decide +kernel
theorem d_M_count_83 : decode b_M_count 83 = .ok (.getfield 111, 3) := by decide +kernel
theorem d_M_count_86 : decode b_M_count 86 = .ok (.ireturn, 1) := by decide +kernel
theorem d_M_count_87 : decode b_M_count 87 = .ok (.aload_n 0, 1) := by decide +kernel
theorem d_M_count_88 : decode b_M_count 88 = .ok (.getfield 93, 3) := by decide +kernel
theorem d_M_count_91 : decode b_M_count 91 = .ok (.ifCond .eq 7, 3) := by decide +kernel
theorem d_M_count_94 : decode b_M_count 94 = .ok (.iconst 1, 1) := by decide +kernel
theorem d_M_count_95 : decode b_M_count 95 = .ok (.goto 4, 3) := by decide +kernel
theorem d_M_count_98 : decode b_M_count 98 = .ok (.iconst 0, 1) := by decide +kernel
theorem d_M_count_99 : decode b_M_count 99 = .ok (.ireturn, 1) := by decide +kernel
theorem d_M_count_100 : decode b_M_count 100 = .ok (.aload_n 0, 1) := by decide +kernel
theorem d_M_count_101 : decode b_M_count 101 = .ok (.getfield 93, 3) := by decide +kernel
theorem d_M_count_104 : decode b_M_count 104 = .ok (.ifCond .eq 10, 3) := by decide +kernel
theorem d_M_count_107 : decode b_M_count 107 = .ok (.aload_n 0, 1) := by decide +kernel
theorem d_M_count_108 : decode b_M_count 108 = .ok (.getfield 230, 3) := by decide +kernel
theorem d_M_count_111 : decode b_M_count 111 = .ok (.goto 4, 3) := by decide +kernel
theorem d_M_count_114 : decode b_M_count 114 = .ok (.iconst (-1), 1) := by decide +kernel
theorem d_M_count_115 : decode b_M_count 115 = .ok (.ireturn, 1) := by decide +kernel
theorem d_M_count_116 : decode b_M_count 116 = .ok (.aload_n 0, 1) := by decide +kernel
theorem d_M_count_117 : decode b_M_count 117 = .ok (.iconst 1, 1) := by decide +kernel
theorem d_M_count_118 : decode b_M_count 118 = .ok (.invokevirtual 89, 3) := by decide +kernel
theorem d_M_count_121 : decode b_M_count 121 = .ok (.ireturn, 1) := by decide +kernel
theorem d_M_two_0 : decode b_M_two 0 = .ok (.aload_n 0, 1) := by decide +kernel
theorem d_M_two_1 : decode b_M_two 1 = .ok (.getfield 66, 3) := by decide +kernel
theorem d_M_two_4 : decode b_M_two 4 = .ok (.iload_n 1, 1) := by decide +kernel
theorem d_M_two_5 : decode b_M_two 5 = .ok (.iaload, 1) := by decide +kernel
theorem d_M_two_6 : decode b_M_two 6 = .ok (.sipush 256, 3) := by decide +kernel
theorem d_M_two_9 : decode b_M_two 9 = .ok (.aload_n 0, 1) := by decide +kernel
theorem d_M_two_10 : decode b_M_two 10 = .ok (.getfield 66, 3) := by decide +kernel
theorem d_M_two_13 : decode b_M_two 13 = .ok (.iload_n 1, 1) := by decide +kernel
theorem d_M_two_14 : decode b_M_two 14 = .ok (.iconst 1, 1) := by decide +kernel
theorem d_M_two_15 : decode b_M_two 15 = .ok (.iadd, 1) := by decide +kernel
theorem d_M_two_16 : decode b_M_two 16 = .ok (.iaload, 1) := by decide +kernel
theorem d_M_two_17 : decode b_M_two 17 = .ok (.imul, 1) := by decide +kernel
theorem d_M_two_18 : decode b_M_two 18 = .ok (.iadd, 1) := by decide +kernel
theorem d_M_two_19 : decode b_M_two 19 = .ok (.ireturn, 1) := by decide +kernel
theorem d_M_four_0 : decode b_M_four 0 = .ok (.aload_n 0, 1) := by decide +kernel
theorem d_M_four_1 : decode b_M_four 1 = .ok (.iload_n 1, 1) := by decide +kernel
theorem d_M_four_2 : decode b_M_four 2 = .ok (.invokevirtual 167, 3) := by decide +kernel
theorem d_M_four_5 : decode b_M_four 5 = .ok (.i2l, 1) := by decide +kernel
theorem d_M_four_6 : decode b_M_four 6 = .ok (.ldc2_w 170, 3) := by decide +kernel
theorem d_M_four_9 : decode b_M_four 9 = .ok (.aload_n 0, 1) := by decide +kernel
theorem d_M_four_10 : decode b_M_four 10 = .ok (.iload_n 1, 1) := by decide +kernel
theorem d_M_four_11 : decode b_M_four 11 = .ok (.iconst 2, 1) := by decide +kernel
theorem d_M_four_12 : decode b_M_four 12 = .ok (.iadd, 1) := by decide +kernel
theorem d_M_four_13 : decode b_M_four 13 = .ok (.invokevirtual 167, 3) := by decide +kernel
theorem d_M_four_16 : decode b_M_four 16 = .ok (.i2l, 1) := by decide +kernel
theorem d_M_four_17 : decode b_M_four 17 = .ok (.lmul, 1) := by decide +kernel
theorem d_M_four_18 : decode b_M_four 18 = .ok (.ladd, 1) := by decide +kernel
theorem d_M_four_19 : decode b_M_four 19 = .ok (.lreturn, 1) := by decide +kernel
theorem d_M_offset4_0 : decode b_M_offset4 0 = .ok (.aload_n 0, 1) := by decide +kernel
theorem d_M_offset4_1 : decode b_M_offset4 1 = .ok (.iload_n 1, 1) := by decide +kernel
theorem d_M_offset4_2 : decode b_M_offset4 2 = .ok (.invokevirtual 172, 3) := by decide +kernel
theorem d_M_offset4_5 : decode b_M_offset4 5 = .ok (.ldc2_w 176, 3) := by decide +kernel
theorem d_M_offset4_8 : decode b_M_offset4 8 = .ok (.lcmp, 1) := by decide +kernel
theorem d_M_offset4_9 : decode b_M_offset4 9 = .ok (.ifCond .le 8, 3) := by decide +kernel
theorem d_M_offset4_12 : decode b_M_offset4 12 = .ok (.ldc 178, 2) := by decide +kernel
theorem d_M_offset4_14 : decode b_M_offset4 14 = .ok (.goto 9, 3) := by decide +kernel
theorem d_M_offset4_17 : decode b_M_offset4 17 = .ok (.aload_n 0, 1) := by decide +kernel
theorem d_M_offset4_18 : decode b_M_offset4 18 = .ok (.iload_n 1, 1) := by decide +kernel
theorem d_M_offset4_19 : decode b_M_offset4 19 = .ok (.invokevirtual 172, 3) := by decide +kernel
theorem d_M_offset4_22 : decode b_M_offset4 22 = .ok (.l2i, 1) := by decide +kernel
theorem d_M_offset4_23 : decode b_M_offset4 23 = .ok (.ireturn, 1) := by decide +kernel
theorem d_M_fail_0 : decode b_M_fail 0 = .ok (.aload_n 0, 1) := by decide +kernel
theorem d_M_fail_1 : decode b_M_fail 1 = .ok (.getfield 179, 3) := by decide +kernel
theorem d_M_fail_4 : decode b_M_fail 4 = .ok (.ifCond .ge 8, 3) := by decide +kernel
theorem d_M_fail_7 : decode b_M_fail 7 = .ok (.aload_n 0, 1) := by decide +kernel
theorem d_M_fail_8 : decode b_M_fail 8 = .ok (.iload_n 1, 1) := by decide +kernel
theorem d_M_fail_9 : decode b_M_fail 9 = .ok (.putfield 179, 3) := by decide +kernel
theorem d_M_fail_12 : decode b_M_fail 12 = .ok (.return_, 1) := by decide +kernel
theorem d_M_tableAt_0 : decode b_M_tableAt 0 = .ok (.iload_n 1, 1) := by decide +kernel
theorem d_M_tableAt_1 : decode b_M_tableAt 1 = .ok (.aload_n 0, 1) := by decide +kernel
theorem d_M_tableAt_2 : decode b_M_tableAt 2 = .ok (.iload_n 1, 1) := by decide +kernel
theorem d_M_tableAt_3 : decode b_M_tableAt 3 = .ok (.invokevirtual 172, 3) := by decide +kernel
theorem d_M_tableAt_6 : decode b_M_tableAt 6 = .ok (.l2i, 1) := by decide +kernel
theorem d_M_tableAt_7 : decode b_M_tableAt 7 = .ok (.isub, 1) := by decide +kernel
theorem d_M_tableAt_8 : decode b_M_tableAt 8 = .ok (.ireturn, 1) := by decide +kernel
theorem d_M_badV_0 : decode b_M_badV 0 = .ok (.iload_n 1, 1) := by decide +kernel
theorem d_M_badV_1 : decode b_M_badV 1 = .ok (.i2l, 1) := by decide +kernel
theorem d_M_badV_2 : decode b_M_badV 2 = .ok (.aload_n 0, 1) := by decide +kernel
theorem d_M_badV_3 : decode b_M_badV 3 = .ok (.iload_n 1, 1) := by decide +kernel
theorem d_M_badV_4 : decode b_M_badV 4 = .ok (.invokevirtual 172, 3) := by decide +kernel
theorem d_M_badV_7 : decode b_M_badV 7 = .ok (.l2i, 1) := by decide +kernel
theorem d_M_badV_8 : decode b_M_badV 8 = .ok (.i2l, 1) := by decide +kernel
theorem d_M_badV_9 : decode b_M_badV 9 = .ok (.lsub, 1) := by decide +kernel
theorem d_M_badV_10 : decode b_M_badV 10 = .ok (.lstore_n 2, 1) := by decide +kernel
theorem d_M_badV_11 : decode b_M_badV 11 = .ok (.lload_n 2, 1) := by decide +kernel
theorem d_M_badV_12 : decode b_M_badV 12 = .ok (.lconst 0, 1) := by decide +kernel
theorem d_M_badV_13 : decode b_M_badV 13 = .ok (.lcmp, 1) := by decide +kernel
theorem d_M_badV_14 : decode b_M_badV 14 = .ok (.ifCond .lt 27, 3) := by decide +kernel
theorem d_M_badV_17 : decode b_M_badV 17 = .ok (.lload_n 2, 1) := by decide +kernel
theorem d_M_badV_18 : decode b_M_badV 18 = .ok (.ldc2_w 182, 3) := by decide +kernel
theorem d_M_badV_21 : decode b_M_badV 21 = .ok (.lrem, 1) := by decide +kernel
theorem d_M_badV_22 : decode b_M_badV 22 = .ok (.lconst 0, 1) := by decide +kernel
theorem d_M_badV_23 : decode b_M_badV 23 = .ok (.lcmp, 1) := by decide +kernel
theorem d_M_badV_24 : decode b_M_badV 24 = .ok (.ifCond .ne 17, 3) := by decide +kernel
theorem d_M_badV_27 : decode b_M_badV 27 = .ok (.lload_n 2, 1) := by decide +kernel
theorem d_M_badV_28 : decode b_M_badV 28 = .ok (.ldc2_w 184, 3) := by decide +kernel
theorem d_M_badV_31 : decode b_M_badV 31 = .ok (.ladd, 1) := by decide +kernel
theorem d_M_badV_32 : decode b_M_badV 32 = .ok (.aload_n 0, 1) := by decide +kernel
theorem d_M_badV_33 : decode b_M_badV 33 = .ok (.getfield 164, 3) := by decide +kernel
theorem d_M_badV_36 : decode b_M_badV 36 = .ok (.i2l, 1) := by decide +kernel
theorem d_M_badV_37 : decode b_M_badV 37 = .ok (.lcmp, 1) := by decide +kernel
theorem d_M_badV_38 : decode b_M_badV 38 = .ok (.ifCond .le 7, 3) := by decide +kernel
theorem d_M_badV_41 : decode b_M_badV 41 = .ok (.iconst 1, 1) := by decide +kernel
theorem d_M_badV_42 : decode b_M_badV 42 = .ok (.goto 4, 3) := by decide +kernel
theorem d_M_badV_45 : decode b_M_badV 45 = .ok (.iconst 0, 1) := by decide +kernel
theorem d_M_badV_46 : decode b_M_badV 46 = .ok (.ireturn, 1) := by decide +kernel
theorem m_M_thrown : kIV y_M_thrown b_M_thrown 1 (some .int) 0 := ⟨⟨wd_6c6d2858, wd_5cde94ae, ⟨by decide, by decide⟩, by decide +kernel⟩, wd_e6bd7a2e, wd_6f540bd4⟩
theorem m_M_raise : kIV y_M_raise b_M_raise 2 (some .int) 1 := ⟨⟨wd_d17fb38f, wd_5cde94ae, ⟨by decide, by decide⟩, by decide +kernel⟩, wd_020009b5, wd_c8350b8c⟩
theorem m_M_out : kIS y_M_out b_M_out 2 (some .boolean) 2 := ⟨⟨wd_b538c45e, wd_5cde94ae, ⟨by decide, by decide⟩, by decide +kernel⟩, wd_c0a77159⟩
theorem m_M_kindOf : kIV y_M_kindOf b_M_kindOf 3 (some .int) 2 := ⟨⟨wd_188aa957, wd_5cde94ae, ⟨by decide, by decide⟩, by decide +kernel⟩, wd_e04d1ffc, wd_401f0411⟩
theorem m_M_fit : kIS y_M_fit b_M_fit 3 (some .long) 2 := ⟨⟨wd_ce35168c, wd_5cde94ae, ⟨by decide, by decide⟩, by decide +kernel⟩, wd_4cd632fe⟩
theorem m_M_wide : kIS y_M_wide b_M_wide 1 (some .int) 1 := ⟨⟨wd_c3f774d5, wd_5cde94ae, ⟨by decide, by decide⟩, by decide +kernel⟩, wd_f0366da2⟩
theorem m_M_field : kIV y_M_field b_M_field 7 (some .int) 4 := ⟨⟨wd_478eba5a, wd_5cde94ae, ⟨by decide, by decide⟩, by decide +kernel⟩, wd_77a195f9, wd_b8fb6874⟩
theorem m_M_make : kIV y_M_make b_M_make 2 (some .int) 1 := ⟨⟨wd_c8d0369f, wd_5cde94ae, ⟨by decide, by decide⟩, by decide +kernel⟩, wd_1dfed2f7, wd_d0676658⟩
theorem m_M_none : kIV y_M_none b_M_none 3 (some .boolean) 2 := ⟨⟨wd_b8a5fbc8, wd_5cde94ae, ⟨by decide, by decide⟩, by decide +kernel⟩, wd_d8a3118b, wd_c2bbdbd2⟩
theorem m_M_number : kIV y_M_number b_M_number 5 (some .long) 3 := ⟨⟨wd_7c2df808, wd_5cde94ae, ⟨by decide, by decide⟩, by decide +kernel⟩, wd_80a163f3, wd_c2aac7eb⟩
theorem m_M_add : kIV y_M_add b_M_add 2 (some .int) 1 := ⟨⟨wd_7dcc92f0, wd_5cde94ae, ⟨by decide, by decide⟩, by decide +kernel⟩, wd_e8ae1713, wd_c89a7b8c⟩
theorem m_M_fill : kIV y_M_fill b_M_fill 6 (some .int) 2 := ⟨⟨wd_ad793664, wd_5cde94ae, ⟨by decide, by decide⟩, by decide +kernel⟩, wd_af42de9a, wd_dcb86058⟩
theorem m_M_link : kIV y_M_link b_M_link 4 (some .int) 3 := ⟨⟨wd_862e5ff4, wd_5cde94ae, ⟨by decide, by decide⟩, by decide +kernel⟩, wd_a24687f3, wd_404d66c0⟩
theorem m_M_unset : kIV y_M_unset b_M_unset 4 (some .int) 2 := ⟨⟨wd_26413064, wd_5cde94ae, ⟨by decide, by decide⟩, by decide +kernel⟩, wd_98fbfd4b, wd_df8cc152⟩
theorem m_M_at : kIV y_M_at b_M_at 2 (some .int) 1 := ⟨⟨wd_a83c7b49, wd_5cde94ae, ⟨by decide, by decide⟩, by decide +kernel⟩, wd_ef373b29, wd_4e089264⟩
theorem m_M_patch : kIV y_M_patch b_M_patch 4 (some .int) 2 := ⟨⟨wd_3c40939d, wd_5cde94ae, ⟨by decide, by decide⟩, by decide +kernel⟩, wd_7aaa22a8, wd_21d29287⟩
theorem m_M_cut : kIV y_M_cut b_M_cut 3 (some .int) 1 := ⟨⟨wd_67c21b6c, wd_5cde94ae, ⟨by decide, by decide⟩, by decide +kernel⟩, wd_6fa95450, wd_9010474a⟩
theorem m_M_fault : kIV y_M_fault b_M_fault 1 (some .int) 0 := ⟨⟨wd_38be0a8f, wd_5cde94ae, ⟨by decide, by decide⟩, by decide +kernel⟩, wd_5ef48346, wd_a3afcb18⟩
theorem m_M_top : kIV y_M_top b_M_top 1 (some .int) 0 := ⟨⟨wd_3db1f3eb, wd_5cde94ae, ⟨by decide, by decide⟩, by decide +kernel⟩, wd_67be83c9, wd_1ff2fe6c⟩
theorem m_M_count : kIV y_M_count b_M_count 2 (some .int) 1 := ⟨⟨wd_7eee5f7f, wd_5cde94ae, ⟨by decide, by decide⟩, by decide +kernel⟩, wd_385a74b3, wd_38c1b33c⟩
theorem m_M_two : kIV y_M_two b_M_two 2 (some .int) 1 := ⟨⟨wd_1a8eb5eb, wd_5cde94ae, ⟨by decide, by decide⟩, by decide +kernel⟩, wd_5dce5d0c, wd_45fb506b⟩
theorem m_M_four : kIV y_M_four b_M_four 2 (some .long) 1 := ⟨⟨wd_48df08e0, wd_5cde94ae, ⟨by decide, by decide⟩, by decide +kernel⟩, wd_88270740, wd_a1686fb0⟩
theorem m_M_offset4 : kIV y_M_offset4 b_M_offset4 2 (some .int) 1 := ⟨⟨wd_3f6bae09, wd_5cde94ae, ⟨by decide, by decide⟩, by decide +kernel⟩, wd_c5b16ba0, wd_b20dccee⟩
theorem m_M_fail : kIV y_M_fail b_M_fail 2 none 1 := ⟨⟨wd_8efb2f6b, wd_5cde94ae, ⟨by decide, by decide⟩, by decide +kernel⟩, wd_29cc8c73, wd_add2693a⟩
theorem m_M_tableAt : kIV y_M_tableAt b_M_tableAt 2 (some .int) 1 := ⟨⟨wd_3eb259bd, wd_5cde94ae, ⟨by decide, by decide⟩, by decide +kernel⟩, wd_a93cc7fb, wd_1abd7ab6⟩
theorem m_M_badV : kIV y_M_badV b_M_badV 4 (some .boolean) 1 := ⟨⟨wd_c06e5266, wd_5cde94ae, ⟨by decide, by decide⟩, by decide +kernel⟩, wd_8486d8bc, wd_ea576cea⟩
set_option maxHeartbeats 4000000 in
set_option maxRecDepth 100000 in
theorem m_thrown (l : Launch) (D : va_G) (am : Nat → Nat) (gm : Nat → ClassId) (tw : Nat) (sLen sKind : Nat → Nat) (sExt : Nat → Int32) (sMust : Nat → Bool) (rTab : Nat → Nat) (rFil : Nat → Bool) (mNum : Nat → Int64) (rLen : Nat → Nat) (rItm : Nat → Int32) (made : Nat) (pItm : Nat → Int32) (held : Nat) (dByt : Nat → Nat) (dLen : Nat) (ver : Bool) (fAdr fTab adr tab : Nat) (lf : Int32) (mCode : Nat) (row : Nat → Nat) (mWr mWid : Nat) (mOv : Bool) (mPl mTh mSp mPile mNext mSh : Nat → Nat) (mShs : Nat) (mRea : Nat → Bool) (mWg : Int32) (mEn mDp : Nat) (mAt mTb mSt : Nat → Nat)    : kM l y_M_thrown b_M_thrown 1 (some .int) ({ frames := 0, cells := 0, slots := 0, locals := 0 }) D vwCl (WmT gm) tw [.ref (am 0)] (Wm am gm sLen sKind sExt sMust rTab rFil mNum rLen rItm made pItm held dByt dLen ver fAdr fTab adr tab lf mCode row mWr mWid mOv mPl mTh mSp mPile mNext mSh mShs mRea mWg mEn mDp mAt mTb mSt) (some (.int (nI mCode))) (Wm am gm sLen sKind sExt sMust rTab rFil mNum rLen rItm made pItm held dByt dLen ver fAdr fTab adr tab lf mCode row mWr mWid mOv mPl mTh mSp mPile mNext mSh mShs mRea mWg mEn mDp mAt mTb mSt) := by
  refine k_of (by decide) (Nat.le_of_ble_eq_true rfl) ?_
  intro p e s m below meth c A ls hx hb hr hlocks hml hts hown hin0 hA hP hK hD hS hZ hl
  have hl : lv_has ls 1 [(0, .ref (am 0))] := hl
  refine lv_aload_n hx hb d_M_thrown_0 rfl (lv_at hl 0 rfl) ?_
  refine va_get (D := D) (ci := 8) (C := R_M) (T := T_M) (N := 39) hx hb hts (fun w h => kT w (i_M w h)) hown hK hP 0 rfl rfl 0 (by decide) (hts _ (kT _ wd_8b8ffda9)) (fun _ h9 => h9) rfl d_M_thrown_1 ?_
  exact k_iret hx hb hr hlocks hK hP hD hS (trivial) (rfl) (rfl) d_M_thrown_4
set_option maxHeartbeats 4000000 in
set_option maxRecDepth 100000 in
theorem m_raise (l : Launch) (D : va_G) (am : Nat → Nat) (gm : Nat → ClassId) (tw : Nat) (sLen sKind : Nat → Nat) (sExt : Nat → Int32) (sMust : Nat → Bool) (rTab : Nat → Nat) (rFil : Nat → Bool) (mNum : Nat → Int64) (rLen : Nat → Nat) (rItm : Nat → Int32) (made : Nat) (pItm : Nat → Int32) (held : Nat) (dByt : Nat → Nat) (dLen : Nat) (ver : Bool) (fAdr fTab adr tab : Nat) (lf : Int32) (mCode : Nat) (row : Nat → Nat) (mWr mWid : Nat) (mOv : Bool) (mPl mTh mSp mPile mNext mSh : Nat → Nat) (mShs : Nat) (mRea : Nat → Bool) (mWg : Int32) (mEn mDp : Nat) (mAt mTb mSt : Nat → Nat) (k : Nat)   : kM l y_M_raise b_M_raise 2 (some .int) ({ frames := 0, cells := 0, slots := 0, locals := 0 }) D vwCl (WmT gm) tw [.ref (am 0), .int (nI k)] (Wm am gm sLen sKind sExt sMust rTab rFil mNum rLen rItm made pItm held dByt dLen ver fAdr fTab adr tab lf mCode row mWr mWid mOv mPl mTh mSp mPile mNext mSh mShs mRea mWg mEn mDp mAt mTb mSt) (some (.int (nI 0))) (Wm am gm sLen sKind sExt sMust rTab rFil mNum rLen rItm made pItm held dByt dLen ver fAdr fTab adr tab lf k row mWr mWid mOv mPl mTh mSp mPile mNext mSh mShs mRea mWg mEn mDp mAt mTb mSt) := by
  refine k_of (by decide) (Nat.le_of_ble_eq_true rfl) ?_
  intro p e s m below meth c A ls hx hb hr hlocks hml hts hown hin0 hA hP hK hD hS hZ hl
  have hl : lv_has ls 2 [(0, .ref (am 0)), (1, .int (nI k))] := hl
  refine lv_aload_n hx hb d_M_raise_0 rfl (lv_at hl 0 rfl) ?_
  refine lv_iload_n hx hb d_M_raise_1 rfl (lv_at hl 1 rfl) ?_
  refine va_put (D := D) (ci := 8) (ty := .int) (C := R_M) (T := T_M) (N := 39) hx hb hts (fun w h => kT w (i_M w h)) ty_M tyk_M nm_M hown hK hP hD hS 0 rfl rfl 0 (by decide) (hts _ (kT _ wd_8b8ffda9)) (fun _ h9 => h9) rfl (by decide +kernel) rfl rfl (Nat.le_of_ble_eq_true rfl) d_M_raise_2 (fun H locs hP hD hS => ?_)
  have hP : va_P D vwCl (Wm am gm sLen sKind sExt sMust rTab rFil mNum rLen rItm made pItm held dByt dLen ver fAdr fTab adr tab lf k row mWr mWid mOv mPl mTh mSp mPile mNext mSh mShs mRea mWg mEn mDp mAt mTb mSt) H := hP
  have hD : va_D A (Wm am gm sLen sKind sExt sMust rTab rFil mNum rLen rItm made pItm held dByt dLen ver fAdr fTab adr tab lf k row mWr mWid mOv mPl mTh mSp mPile mNext mSh mShs mRea mWg mEn mDp mAt mTb mSt) := hD
  refine lv_iconst (v := nI 0) hx hb d_M_raise_5 (by decide) ?_
  exact k_iret hx hb hr hlocks hK hP hD hS (trivial) (rfl) (rfl) d_M_raise_6
set_option maxHeartbeats 4000000 in
set_option maxRecDepth 100000 in
theorem m_out (l : Launch) (D : va_G) (am : Nat → Nat) (gm : Nat → ClassId) (tw : Nat) (sLen sKind : Nat → Nat) (sExt : Nat → Int32) (sMust : Nat → Bool) (rTab : Nat → Nat) (rFil : Nat → Bool) (mNum : Nat → Int64) (rLen : Nat → Nat) (rItm : Nat → Int32) (made : Nat) (pItm : Nat → Int32) (held : Nat) (dByt : Nat → Nat) (dLen : Nat) (ver : Bool) (fAdr fTab adr tab : Nat) (lf : Int32) (mCode : Nat) (row : Nat → Nat) (mWr mWid : Nat) (mOv : Bool) (mPl mTh mSp mPile mNext mSh : Nat → Nat) (mShs : Nat) (mRea : Nat → Bool) (mWg : Int32) (mEn mDp : Nat) (mAt mTb mSt : Nat → Nat) (v : Int32) (hi : Int32)   : kM l y_M_out b_M_out 2 (some .boolean) ({ frames := 0, cells := 0, slots := 0, locals := 0 }) D vwCl (WmT gm) tw [.int v, .int hi] (Wm am gm sLen sKind sExt sMust rTab rFil mNum rLen rItm made pItm held dByt dLen ver fAdr fTab adr tab lf mCode row mWr mWid mOv mPl mTh mSp mPile mNext mSh mShs mRea mWg mEn mDp mAt mTb mSt) (some (.int (bI (outB v hi)))) (Wm am gm sLen sKind sExt sMust rTab rFil mNum rLen rItm made pItm held dByt dLen ver fAdr fTab adr tab lf mCode row mWr mWid mOv mPl mTh mSp mPile mNext mSh mShs mRea mWg mEn mDp mAt mTb mSt) := by
  refine k_of (by decide) (Nat.le_of_ble_eq_true rfl) ?_
  intro p e s m below meth c A ls hx hb hr hlocks hml hts hown hin0 hA hP hK hD hS hZ hl
  have hl : lv_has ls 2 [(0, .int v), (1, .int hi)] := hl
  refine lv_iload_n hx hb d_M_out_0 rfl (lv_at hl 0 rfl) ?_
  refine lv_if_lt (tgt := 9) hx hb d_M_out_1 (by decide) (fun c_1 => ?_) (fun c_1 => ?_)
  · skip
    refine lv_iconst (v := nI 1) hx hb d_M_out_9 (by decide) ?_
    refine lv_goto (tgt := 14) hx hb d_M_out_10 (by decide) ?_
    exact k_zret hx hb hr hlocks hK hP hD hS (trivial) (by rw [nI_bI1]; exact congrArg bI (decide_eq_true (Or.inl c_1)).symm) (rfl) (bI_nar _) d_M_out_14
  · skip
    refine lv_iload_n hx hb d_M_out_4 rfl (lv_at hl 0 rfl) ?_
    refine lv_iload_n hx hb d_M_out_5 rfl (lv_at hl 1 rfl) ?_
    refine lv_icmp_le (tgt := 13) hx hb d_M_out_6 (by decide) (fun c_6 => ?_) (fun c_6 => ?_)
    · skip
      refine lv_iconst (v := nI 0) hx hb d_M_out_13 (by decide) ?_
      exact k_zret hx hb hr hlocks hK hP hD hS (trivial) (by rw [nI_bI0]; exact congrArg bI (decide_eq_false (fun z => z.elim c_1 (fun z => z c_6))).symm) (rfl) (bI_nar _) d_M_out_14
    · skip
      refine lv_iconst (v := nI 1) hx hb d_M_out_9 (by decide) ?_
      refine lv_goto (tgt := 14) hx hb d_M_out_10 (by decide) ?_
      exact k_zret hx hb hr hlocks hK hP hD hS (trivial) (by rw [nI_bI1]; exact congrArg bI (decide_eq_true (Or.inr c_6)).symm) (rfl) (bI_nar _) d_M_out_14
set_option maxHeartbeats 4000000 in
set_option maxRecDepth 100000 in
theorem m_kindOf (l : Launch) (D : va_G) (am : Nat → Nat) (gm : Nat → ClassId) (tw : Nat) (sLen sKind : Nat → Nat) (sExt : Nat → Int32) (sMust : Nat → Bool) (rTab : Nat → Nat) (rFil : Nat → Bool) (mNum : Nat → Int64) (rLen : Nat → Nat) (rItm : Nat → Int32) (made : Nat) (pItm : Nat → Int32) (held : Nat) (dByt : Nat → Nat) (dLen : Nat) (ver : Bool) (fAdr fTab adr tab : Nat) (lf : Int32) (mCode : Nat) (row : Nat → Nat) (mWr mWid : Nat) (mOv : Bool) (mPl mTh mSp mPile mNext mSh : Nat → Nat) (mShs : Nat) (mRea : Nat → Bool) (mWg : Int32) (mEn mDp : Nat) (mAt mTb mSt : Nat → Nat) (r : Nat) (f : Nat)  (hr : r < 16) (hT : rTab r < 4) (hf : f < 6) : kM l y_M_kindOf b_M_kindOf 3 (some .int) ({ frames := 0, cells := 0, slots := 0, locals := 0 }) D vwCl (WmT gm) tw [.ref (am 0), .int (nI r), .int (nI f)] (Wm am gm sLen sKind sExt sMust rTab rFil mNum rLen rItm made pItm held dByt dLen ver fAdr fTab adr tab lf mCode row mWr mWid mOv mPl mTh mSp mPile mNext mSh mShs mRea mWg mEn mDp mAt mTb mSt) (some (.int (nI (sKind (rTab r * 6 + f))))) (Wm am gm sLen sKind sExt sMust rTab rFil mNum rLen rItm made pItm held dByt dLen ver fAdr fTab adr tab lf mCode row mWr mWid mOv mPl mTh mSp mPile mNext mSh mShs mRea mWg mEn mDp mAt mTb mSt) := by
  refine k_of (by decide) (Nat.le_of_ble_eq_true rfl) ?_
  intro p e s m below meth c A ls hx hb hr hlocks hml hts hown hin0 hA hP hK hD hS hZ hl
  have hl : lv_has ls 3 [(0, .ref (am 0)), (1, .int (nI r)), (2, .int (nI f))] := hl
  refine lv_aload_n hx hb d_M_kindOf_0 rfl (lv_at hl 0 rfl) ?_
  refine va_get (D := D) (ci := 8) (C := R_M) (T := T_M) (N := 39) hx hb hts (fun w h => kT w (i_M w h)) hown hK hP 0 rfl rfl 2 (by decide) (hts _ (kT _ wd_91f4763a)) (fun _ h9 => h9) rfl d_M_kindOf_1 ?_
  refine lv_bipush (v := nI 6) hx hb d_M_kindOf_4 (by decide) ?_
  refine lv_aload_n hx hb d_M_kindOf_6 rfl (lv_at hl 0 rfl) ?_
  refine va_get (D := D) (ci := 8) (C := R_M) (T := T_M) (N := 39) hx hb hts (fun w h => kT w (i_M w h)) hown hK hP 0 rfl rfl 5 (by decide) (hts _ (kT _ wd_83fb424b)) (fun _ h9 => h9) rfl d_M_kindOf_7 ?_
  refine lv_iload_n hx hb d_M_kindOf_10 rfl (lv_at hl 1 rfl) ?_
  refine n_iald hx hb hK hP 5 4 rfl rfl (i := r) (by omega) (by decide) d_M_kindOf_11 ?_
  refine lv_imul hx hb d_M_kindOf_12 ?_
  refine lv_eqi ((pk_mul _ _).trans (nI_congr (Nat.mul_comm _ _))) ?_
  refine lv_iload_n hx hb d_M_kindOf_13 rfl (lv_at hl 2 rfl) ?_
  refine lv_iadd hx hb d_M_kindOf_14 ?_
  refine lv_eqi (nI_add _ _) ?_
  refine n_iald hx hb hK hP 2 1 rfl rfl (i := (((rTab r) * 6) + f)) (by omega) (by decide) d_M_kindOf_15 ?_
  exact k_iret hx hb hr hlocks hK hP hD hS (trivial) (rfl) (rfl) d_M_kindOf_16
set_option maxHeartbeats 4000000 in
set_option maxRecDepth 100000 in
theorem m_fit (l : Launch) (D : va_G) (am : Nat → Nat) (gm : Nat → ClassId) (tw : Nat) (sLen sKind : Nat → Nat) (sExt : Nat → Int32) (sMust : Nat → Bool) (rTab : Nat → Nat) (rFil : Nat → Bool) (mNum : Nat → Int64) (rLen : Nat → Nat) (rItm : Nat → Int32) (made : Nat) (pItm : Nat → Int32) (held : Nat) (dByt : Nat → Nat) (dLen : Nat) (ver : Bool) (fAdr fTab adr tab : Nat) (lf : Int32) (mCode : Nat) (row : Nat → Nat) (mWr mWid : Nat) (mOv : Bool) (mPl mTh mSp mPile mNext mSh : Nat → Nat) (mShs : Nat) (mRea : Nat → Bool) (mWg : Int32) (mEn mDp : Nat) (mAt mTb mSt : Nat → Nat) (k : Nat) (v : Int64)  (hk : k < 7) : kM l y_M_fit b_M_fit 3 (some .long) ({ frames := 0, cells := 0, slots := 0, locals := 0 }) D vwCl (WmT gm) tw [.int (nI k), .long v] (Wm am gm sLen sKind sExt sMust rTab rFil mNum rLen rItm made pItm held dByt dLen ver fAdr fTab adr tab lf mCode row mWr mWid mOv mPl mTh mSp mPile mNext mSh mShs mRea mWg mEn mDp mAt mTb mSt) (some (.long (brI k v))) (Wm am gm sLen sKind sExt sMust rTab rFil mNum rLen rItm made pItm held dByt dLen ver fAdr fTab adr tab lf mCode row mWr mWid mOv mPl mTh mSp mPile mNext mSh mShs mRea mWg mEn mDp mAt mTb mSt) := by
  refine k_of (by decide) (Nat.le_of_ble_eq_true rfl) ?_
  intro p e s m below meth c A ls hx hb hr hlocks hml hts hown hin0 hA hP hK hD hS hZ hl
  have hl : lv_has ls 3 [(0, .int (nI k)), (1, .long v)] := hl
  refine lv_iload_n hx hb d_M_fit_0 rfl (lv_at hl 0 rfl) ?_
  refine lv_if_ne (tgt := 11) hx hb d_M_fit_1 (by decide) (fun c_1 => ?_) (fun c_1 => ?_)
  · skip
    have c_1 := mt (z_eq (by omega)).mpr c_1
    refine lv_iload_n hx hb d_M_fit_11 rfl (lv_at hl 0 rfl) ?_
    refine lv_iconst (v := nI 1) hx hb d_M_fit_12 (by decide) ?_
    refine lv_icmp_ne (tgt := 23) hx hb d_M_fit_13 (by decide) (fun c_13 => ?_) (fun c_13 => ?_)
    · skip
      have c_13 := mt (nI_eq (by omega) (by omega)).mpr c_13
      refine lv_iload_n hx hb d_M_fit_23 rfl (lv_at hl 0 rfl) ?_
      refine lv_iconst (v := nI 2) hx hb d_M_fit_24 (by decide) ?_
      refine lv_icmp_ne (tgt := 34) hx hb d_M_fit_25 (by decide) (fun c_25 => ?_) (fun c_25 => ?_)
      · skip
        have c_25 := mt (nI_eq (by omega) (by omega)).mpr c_25
        refine lv_lload_n hx hb d_M_fit_34 rfl (lv_at hl 1 rfl) ?_
        exact k_lret hx hb hr hlocks hK hP hD hS (trivial) (by simp [brI, c_1, c_13, c_25]) (rfl) d_M_fit_35
      · skip
        have c_25 := (nI_eq (by omega) (by omega)).mp c_25
        refine lv_lload_n hx hb d_M_fit_28 rfl (lv_at hl 1 rfl) ?_
        refine lv_l2i hx hb d_M_fit_29 rfl ?_
        refine lv_i2l hx hb d_M_fit_30 rfl ?_
        refine lv_goto (tgt := 35) hx hb d_M_fit_31 (by decide) ?_
        exact k_lret hx hb hr hlocks hK hP hD hS (trivial) (by simp [brI, c_1, c_13, c_25]) (rfl) d_M_fit_35
    · skip
      have c_13 := (nI_eq (by omega) (by omega)).mp c_13
      refine lv_lload_n hx hb d_M_fit_16 rfl (lv_at hl 1 rfl) ?_
      refine lv_l2i hx hb d_M_fit_17 rfl ?_
      refine lv_i2s hx hb d_M_fit_18 rfl ?_
      refine lv_i2l hx hb d_M_fit_19 rfl ?_
      refine lv_goto (tgt := 35) hx hb d_M_fit_20 (by decide) ?_
      exact k_lret hx hb hr hlocks hK hP hD hS (trivial) (by simp [brI, c_1, c_13]) (rfl) d_M_fit_35
  · skip
    have c_1 := (z_eq (by omega)).mp c_1
    refine lv_lload_n hx hb d_M_fit_4 rfl (lv_at hl 1 rfl) ?_
    refine lv_l2i hx hb d_M_fit_5 rfl ?_
    refine lv_i2b hx hb d_M_fit_6 rfl ?_
    refine lv_i2l hx hb d_M_fit_7 rfl ?_
    refine lv_goto (tgt := 35) hx hb d_M_fit_8 (by decide) ?_
    exact k_lret hx hb hr hlocks hK hP hD hS (trivial) (by simp [brI, c_1]) (rfl) d_M_fit_35
set_option maxHeartbeats 4000000 in
set_option maxRecDepth 100000 in
theorem m_wide (l : Launch) (D : va_G) (am : Nat → Nat) (gm : Nat → ClassId) (tw : Nat) (sLen sKind : Nat → Nat) (sExt : Nat → Int32) (sMust : Nat → Bool) (rTab : Nat → Nat) (rFil : Nat → Bool) (mNum : Nat → Int64) (rLen : Nat → Nat) (rItm : Nat → Int32) (made : Nat) (pItm : Nat → Int32) (held : Nat) (dByt : Nat → Nat) (dLen : Nat) (ver : Bool) (fAdr fTab adr tab : Nat) (lf : Int32) (mCode : Nat) (row : Nat → Nat) (mWr mWid : Nat) (mOv : Bool) (mPl mTh mSp mPile mNext mSh : Nat → Nat) (mShs : Nat) (mRea : Nat → Bool) (mWg : Int32) (mEn mDp : Nat) (mAt mTb mSt : Nat → Nat) (k : Nat)  (hk : k < 7) : kM l y_M_wide b_M_wide 1 (some .int) ({ frames := 0, cells := 0, slots := 0, locals := 0 }) D vwCl (WmT gm) tw [.int (nI k)] (Wm am gm sLen sKind sExt sMust rTab rFil mNum rLen rItm made pItm held dByt dLen ver fAdr fTab adr tab lf mCode row mWr mWid mOv mPl mTh mSp mPile mNext mSh mShs mRea mWg mEn mDp mAt mTb mSt) (some (.int (nI (kWd k)))) (Wm am gm sLen sKind sExt sMust rTab rFil mNum rLen rItm made pItm held dByt dLen ver fAdr fTab adr tab lf mCode row mWr mWid mOv mPl mTh mSp mPile mNext mSh mShs mRea mWg mEn mDp mAt mTb mSt) := by
  refine k_of (by decide) (Nat.le_of_ble_eq_true rfl) ?_
  intro p e s m below meth c A ls hx hb hr hlocks hml hts hown hin0 hA hP hK hD hS hZ hl
  have hl : lv_has ls 1 [(0, .int (nI k))] := hl
  refine lv_iload_n hx hb d_M_wide_0 rfl (lv_at hl 0 rfl) ?_
  refine lv_if_ne (tgt := 8) hx hb d_M_wide_1 (by decide) (fun c_1 => ?_) (fun c_1 => ?_)
  · skip
    have c_1 := mt (z_eq (by omega)).mpr c_1
    refine lv_iload_n hx hb d_M_wide_8 rfl (lv_at hl 0 rfl) ?_
    refine lv_iconst (v := nI 1) hx hb d_M_wide_9 (by decide) ?_
    refine lv_icmp_ne (tgt := 17) hx hb d_M_wide_10 (by decide) (fun c_10 => ?_) (fun c_10 => ?_)
    · skip
      have c_10 := mt (nI_eq (by omega) (by omega)).mpr c_10
      refine lv_iload_n hx hb d_M_wide_17 rfl (lv_at hl 0 rfl) ?_
      refine lv_iconst (v := nI 3) hx hb d_M_wide_18 (by decide) ?_
      refine lv_icmp_ne (tgt := 27) hx hb d_M_wide_19 (by decide) (fun c_19 => ?_) (fun c_19 => ?_)
      · skip
        have c_19 := mt (nI_eq (by omega) (by omega)).mpr c_19
        refine lv_iconst (v := nI 4) hx hb d_M_wide_27 (by decide) ?_
        exact k_iret hx hb hr hlocks hK hP hD hS (trivial) (by rw [show kWd k = 4 from kWd_4 hk c_1 c_10 c_19]) (rfl) d_M_wide_28
      · skip
        have c_19 := (nI_eq (by omega) (by omega)).mp c_19
        refine lv_bipush (v := nI 8) hx hb d_M_wide_22 (by decide) ?_
        refine lv_goto (tgt := 28) hx hb d_M_wide_24 (by decide) ?_
        exact k_iret hx hb hr hlocks hK hP hD hS (trivial) (by rw [show kWd k = 8 from by rw [c_19]; rfl]) (rfl) d_M_wide_28
    · skip
      have c_10 := (nI_eq (by omega) (by omega)).mp c_10
      refine lv_iconst (v := nI 2) hx hb d_M_wide_13 (by decide) ?_
      refine lv_goto (tgt := 28) hx hb d_M_wide_14 (by decide) ?_
      exact k_iret hx hb hr hlocks hK hP hD hS (trivial) (by rw [show kWd k = 2 from by rw [c_10]; rfl]) (rfl) d_M_wide_28
  · skip
    have c_1 := (z_eq (by omega)).mp c_1
    refine lv_iconst (v := nI 1) hx hb d_M_wide_4 (by decide) ?_
    refine lv_goto (tgt := 28) hx hb d_M_wide_5 (by decide) ?_
    exact k_iret hx hb hr hlocks hK hP hD hS (trivial) (by rw [show kWd k = 1 from by rw [c_1]; rfl]) (rfl) d_M_wide_28
set_option maxHeartbeats 4000000 in
set_option maxRecDepth 100000 in
theorem m_field (l : Launch) (D : va_G) (am : Nat → Nat) (gm : Nat → ClassId) (tw : Nat) (sLen sKind : Nat → Nat) (sExt : Nat → Int32) (sMust : Nat → Bool) (rTab : Nat → Nat) (rFil : Nat → Bool) (mNum : Nat → Int64) (rLen : Nat → Nat) (rItm : Nat → Int32) (made : Nat) (pItm : Nat → Int32) (held : Nat) (dByt : Nat → Nat) (dLen : Nat) (ver : Bool) (fAdr fTab adr tab : Nat) (lf : Int32) (mCode : Nat) (row : Nat → Nat) (mWr mWid : Nat) (mOv : Bool) (mPl mTh mSp mPile mNext mSh : Nat → Nat) (mShs : Nat) (mRea : Nat → Bool) (mWg : Int32) (mEn mDp : Nat) (mAt mTb mSt : Nat → Nat) (t : Int32) (k : Int32) (x : Int32) (b : Bool)  (hL : ∀ t, sLen t ≤ 6) : kM l y_M_field b_M_field 7 (some .int) ({ frames := 1, cells := 0, slots := 0, locals := 21 }) D vwCl (WmT gm) tw [.ref (am 0), .int t, .int k, .int x, .int (bI b)] (Wm am gm sLen sKind sExt sMust rTab rFil mNum rLen rItm made pItm held dByt dLen ver fAdr fTab adr tab lf mCode row mWr mWid mOv mPl mTh mSp mPile mNext mSh mShs mRea mWg mEn mDp mAt mTb mSt) (some (.int (nI (if cdField sLen t k x b = 0 then sLen (cN t) else 0)))) (Wm am gm (if cdField sLen t k x b = 0 then va_up sLen (cN t) (sLen (cN t) + 1) else sLen) (if cdField sLen t k x b = 0 then va_up sKind (cN t * 6 + sLen (cN t)) (cN k) else sKind) (if cdField sLen t k x b = 0 then upd sExt (cN t * 6 + sLen (cN t)) x else sExt) (if cdField sLen t k x b = 0 then va_up sMust (cN t * 6 + sLen (cN t)) b else sMust) rTab rFil mNum rLen rItm made pItm held dByt dLen (if cdField sLen t k x b = 0 then false else ver) fAdr fTab adr tab lf (cdField sLen t k x b) row mWr mWid mOv mPl mTh mSp mPile mNext mSh mShs mRea mWg mEn mDp mAt mTb mSt) := by
  refine k_of (by decide) (Nat.le_of_ble_eq_true rfl) ?_
  intro p e s m below meth c A ls hx hb hr hlocks hml hts hown hin0 hA hP hK hD hS hZ hl
  have hl : lv_has ls 7 [(0, .ref (am 0)), (1, .int t), (2, .int k), (3, .int x), (4, .int (bI b))] := hl
  refine lv_aload_n hx hb d_M_field_0 rfl (lv_at hl 0 rfl) ?_
  refine lv_iconst (v := nI 0) hx hb d_M_field_1 (by decide) ?_
  refine va_put (D := D) (ci := 8) (ty := .int) (C := R_M) (T := T_M) (N := 39) hx hb hts (fun w h => kT w (i_M w h)) ty_M tyk_M nm_M hown hK hP hD hS 0 rfl rfl 0 (by decide) (hts _ (kT _ wd_8b8ffda9)) (fun _ h9 => h9) rfl (by decide +kernel) rfl rfl (Nat.le_of_ble_eq_true rfl) d_M_field_2 (fun H locs hP hD hS => ?_)
  have hP : va_P D vwCl (Wm am gm sLen sKind sExt sMust rTab rFil mNum rLen rItm made pItm held dByt dLen ver fAdr fTab adr tab lf 0 row mWr mWid mOv mPl mTh mSp mPile mNext mSh mShs mRea mWg mEn mDp mAt mTb mSt) H := hP
  have hD : va_D A (Wm am gm sLen sKind sExt sMust rTab rFil mNum rLen rItm made pItm held dByt dLen ver fAdr fTab adr tab lf 0 row mWr mWid mOv mPl mTh mSp mPile mNext mSh mShs mRea mWg mEn mDp mAt mTb mSt) := hD
  refine lv_iload_n hx hb d_M_field_5 rfl (lv_at hl 1 rfl) ?_
  refine lv_iconst (v := nI 3) hx hb d_M_field_6 (by decide) ?_
  refine k_callS (m_out l D am gm tw sLen sKind sExt sMust rTab rFil mNum rLen rItm made pItm held dByt dLen ver fAdr fTab adr tab lf 0 row mWr mWid mOv mPl mTh mSp mPile mNext mSh mShs mRea mWg mEn mDp mAt mTb mSt t (nI 3)  ) m_M_out wd_0c68f9ea kT hx hb hml hown hts ⟨Nat.le_of_ble_eq_true rfl, Nat.le_of_ble_eq_true rfl⟩ ⟨Nat.le_of_ble_eq_true rfl, Nat.le_of_ble_eq_true rfl⟩ hK hP hD hS hA hZ hl.1 rfl rfl (Nat.le_of_ble_eq_true rfl) d_M_field_7 (fun H locs hP hD hS => ?_)
  have hP : va_P D vwCl (Wm am gm sLen sKind sExt sMust rTab rFil mNum rLen rItm made pItm held dByt dLen ver fAdr fTab adr tab lf 0 row mWr mWid mOv mPl mTh mSp mPile mNext mSh mShs mRea mWg mEn mDp mAt mTb mSt) H := hP
  have hD : va_D A (Wm am gm sLen sKind sExt sMust rTab rFil mNum rLen rItm made pItm held dByt dLen ver fAdr fTab adr tab lf 0 row mWr mWid mOv mPl mTh mSp mPile mNext mSh mShs mRea mWg mEn mDp mAt mTb mSt) := hD
  refine W.eq (g2 := F0 m 10 ls [.int (bI (outB t (nI 3)))]) rfl ?_
  refine lv_if_ne (tgt := 46) hx hb d_M_field_10 (by decide) (fun c_10 => ?_) (fun c_10 => ?_)
  · skip
    have c_10 := mt (bI_0).mpr c_10
    have c_10 := eq_true_of_ne_false c_10
    refine lv_iconst (v := nI 1) hx hb d_M_field_46 (by decide) ?_
    refine lv_goto (tgt := 51) hx hb d_M_field_47 (by decide) ?_
    refine lv_istore (lv' := [(5, .int (nI 1)), (0, .ref (am 0)), (1, .int t), (2, .int k), (3, .int x), (4, .int (bI b))]) hx hb d_M_field_51 hl (by decide) rfl (fun ls hl => ?_)
    refine lv_iload hx hb d_M_field_53 (lv_at hl 0 rfl) ?_
    refine lv_if_ne (tgt := 93) hx hb d_M_field_55 (by decide) (fun _ => ?_) (fun c_55 => absurd c_55 (by decide))
    refine lv_iconst (v := nI 1) hx hb d_M_field_93 (by decide) ?_
    refine lv_goto (tgt := 98) hx hb d_M_field_94 (by decide) ?_
    refine lv_istore (lv' := [(5, .int (nI 1)), (0, .ref (am 0)), (1, .int t), (2, .int k), (3, .int x), (4, .int (bI b))]) hx hb d_M_field_98 hl (by decide) rfl (fun ls hl => ?_)
    refine lv_iload hx hb d_M_field_100 (lv_at hl 0 rfl) ?_
    refine lv_if_eq (tgt := 111) hx hb d_M_field_102 (by decide) (fun c_102 => absurd c_102 (by decide)) (fun _ => ?_)
    have hcd : cdField sLen t k x b = 1 := cdF_1a (t_n c_10)
    refine lv_aload_n hx hb d_M_field_105 rfl (lv_at hl 1 rfl) ?_
    refine lv_iconst (v := nI 1) hx hb d_M_field_106 (by decide) ?_
    refine k_callV (m_raise l D am gm tw sLen sKind sExt sMust rTab rFil mNum rLen rItm made pItm held dByt dLen ver fAdr fTab adr tab lf 0 row mWr mWid mOv mPl mTh mSp mPile mNext mSh mShs mRea mWg mEn mDp mAt mTb mSt 1  ) m_M_raise wd_4b1468e4 0 8 rfl rfl rfl kT hx hb hml hown hts ⟨Nat.le_of_ble_eq_true rfl, Nat.le_of_ble_eq_true rfl⟩ ⟨Nat.le_of_ble_eq_true rfl, Nat.le_of_ble_eq_true rfl⟩ hK hP hD hS hA hZ hl.1 rfl rfl (Nat.le_of_ble_eq_true rfl) d_M_field_107 (fun H locs hP hD hS => ?_)
    have hP : va_P D vwCl (Wm am gm sLen sKind sExt sMust rTab rFil mNum rLen rItm made pItm held dByt dLen ver fAdr fTab adr tab lf 1 row mWr mWid mOv mPl mTh mSp mPile mNext mSh mShs mRea mWg mEn mDp mAt mTb mSt) H := hP
    have hD : va_D A (Wm am gm sLen sKind sExt sMust rTab rFil mNum rLen rItm made pItm held dByt dLen ver fAdr fTab adr tab lf 1 row mWr mWid mOv mPl mTh mSp mPile mNext mSh mShs mRea mWg mEn mDp mAt mTb mSt) := hD
    refine W.eq (g2 := F0 m 110 ls [.int (nI 0)]) rfl ?_
    exact k_iret hx hb hr hlocks hK hP hD hS (trivial) (by rw [hcd]; first | done | rfl) (by rw [hcd]; first | done | rfl) d_M_field_110
  · skip
    have c_10 := (bI_0).mp c_10
    refine lv_iload_n hx hb d_M_field_13 rfl (lv_at hl 2 rfl) ?_
    refine lv_bipush (v := nI 6) hx hb d_M_field_14 (by decide) ?_
    refine k_callS (m_out l D am gm tw sLen sKind sExt sMust rTab rFil mNum rLen rItm made pItm held dByt dLen ver fAdr fTab adr tab lf 0 row mWr mWid mOv mPl mTh mSp mPile mNext mSh mShs mRea mWg mEn mDp mAt mTb mSt k (nI 6)  ) m_M_out wd_0c68f9ea kT hx hb hml hown hts ⟨Nat.le_of_ble_eq_true rfl, Nat.le_of_ble_eq_true rfl⟩ ⟨Nat.le_of_ble_eq_true rfl, Nat.le_of_ble_eq_true rfl⟩ hK hP hD hS hA hZ hl.1 rfl rfl (Nat.le_of_ble_eq_true rfl) d_M_field_16 (fun H locs hP hD hS => ?_)
    have hP : va_P D vwCl (Wm am gm sLen sKind sExt sMust rTab rFil mNum rLen rItm made pItm held dByt dLen ver fAdr fTab adr tab lf 0 row mWr mWid mOv mPl mTh mSp mPile mNext mSh mShs mRea mWg mEn mDp mAt mTb mSt) H := hP
    have hD : va_D A (Wm am gm sLen sKind sExt sMust rTab rFil mNum rLen rItm made pItm held dByt dLen ver fAdr fTab adr tab lf 0 row mWr mWid mOv mPl mTh mSp mPile mNext mSh mShs mRea mWg mEn mDp mAt mTb mSt) := hD
    refine W.eq (g2 := F0 m 19 ls [.int (bI (outB k (nI 6)))]) rfl ?_
    refine lv_if_ne (tgt := 46) hx hb d_M_field_19 (by decide) (fun c_19 => ?_) (fun c_19 => ?_)
    · skip
      have c_19 := mt (bI_0).mpr c_19
      have c_19 := eq_true_of_ne_false c_19
      refine lv_iconst (v := nI 1) hx hb d_M_field_46 (by decide) ?_
      refine lv_goto (tgt := 51) hx hb d_M_field_47 (by decide) ?_
      refine lv_istore (lv' := [(5, .int (nI 1)), (0, .ref (am 0)), (1, .int t), (2, .int k), (3, .int x), (4, .int (bI b))]) hx hb d_M_field_51 hl (by decide) rfl (fun ls hl => ?_)
      refine lv_iload hx hb d_M_field_53 (lv_at hl 0 rfl) ?_
      refine lv_if_ne (tgt := 93) hx hb d_M_field_55 (by decide) (fun _ => ?_) (fun c_55 => absurd c_55 (by decide))
      refine lv_iconst (v := nI 1) hx hb d_M_field_93 (by decide) ?_
      refine lv_goto (tgt := 98) hx hb d_M_field_94 (by decide) ?_
      refine lv_istore (lv' := [(5, .int (nI 1)), (0, .ref (am 0)), (1, .int t), (2, .int k), (3, .int x), (4, .int (bI b))]) hx hb d_M_field_98 hl (by decide) rfl (fun ls hl => ?_)
      refine lv_iload hx hb d_M_field_100 (lv_at hl 0 rfl) ?_
      refine lv_if_eq (tgt := 111) hx hb d_M_field_102 (by decide) (fun c_102 => absurd c_102 (by decide)) (fun _ => ?_)
      have hcd : cdField sLen t k x b = 1 := cdF_1b (o_n c_19)
      refine lv_aload_n hx hb d_M_field_105 rfl (lv_at hl 1 rfl) ?_
      refine lv_iconst (v := nI 1) hx hb d_M_field_106 (by decide) ?_
      refine k_callV (m_raise l D am gm tw sLen sKind sExt sMust rTab rFil mNum rLen rItm made pItm held dByt dLen ver fAdr fTab adr tab lf 0 row mWr mWid mOv mPl mTh mSp mPile mNext mSh mShs mRea mWg mEn mDp mAt mTb mSt 1  ) m_M_raise wd_4b1468e4 0 8 rfl rfl rfl kT hx hb hml hown hts ⟨Nat.le_of_ble_eq_true rfl, Nat.le_of_ble_eq_true rfl⟩ ⟨Nat.le_of_ble_eq_true rfl, Nat.le_of_ble_eq_true rfl⟩ hK hP hD hS hA hZ hl.1 rfl rfl (Nat.le_of_ble_eq_true rfl) d_M_field_107 (fun H locs hP hD hS => ?_)
      have hP : va_P D vwCl (Wm am gm sLen sKind sExt sMust rTab rFil mNum rLen rItm made pItm held dByt dLen ver fAdr fTab adr tab lf 1 row mWr mWid mOv mPl mTh mSp mPile mNext mSh mShs mRea mWg mEn mDp mAt mTb mSt) H := hP
      have hD : va_D A (Wm am gm sLen sKind sExt sMust rTab rFil mNum rLen rItm made pItm held dByt dLen ver fAdr fTab adr tab lf 1 row mWr mWid mOv mPl mTh mSp mPile mNext mSh mShs mRea mWg mEn mDp mAt mTb mSt) := hD
      refine W.eq (g2 := F0 m 110 ls [.int (nI 0)]) rfl ?_
      exact k_iret hx hb hr hlocks hK hP hD hS (trivial) (by rw [hcd]; first | done | rfl) (by rw [hcd]; first | done | rfl) d_M_field_110
    · skip
      have c_19 := (bI_0).mp c_19
      obtain ⟨n_k, b_k⟩ := k7_spec (o_y c_19).1 (i_nlt (o_y c_19).2)
      have hl : lv_has ls 7 [(0, .ref (am 0)), (1, .int t), (2, .int (nI (cN k))), (3, .int x), (4, .int (bI b))] := by rw [← n_k]; exact hl
      refine lv_iload_n hx hb d_M_field_22 rfl (lv_at hl 2 rfl) ?_
      refine lv_iconst (v := nI 4) hx hb d_M_field_23 (by decide) ?_
      refine lv_icmp_ge (tgt := 32) hx hb d_M_field_24 (by decide) (fun c_24 => ?_) (fun c_24 => ?_)
      · skip
        have c_24 := (nI_leI (by omega) (by omega)).mp c_24
        refine lv_iload_n hx hb d_M_field_32 rfl (lv_at hl 2 rfl) ?_
        refine lv_bipush (v := nI 6) hx hb d_M_field_33 (by decide) ?_
        refine lv_icmp_ne (tgt := 50) hx hb d_M_field_35 (by decide) (fun c_35 => ?_) (fun c_35 => ?_)
        · skip
          have c_35 := mt (nI_eq (by omega) (by omega)).mpr c_35
          refine lv_iconst (v := nI 0) hx hb d_M_field_50 (by decide) ?_
          refine lv_istore (lv' := [(5, .int (nI 0)), (0, .ref (am 0)), (1, .int t), (2, .int (nI (cN k))), (3, .int x), (4, .int (bI b))]) hx hb d_M_field_51 hl (by decide) rfl (fun ls hl => ?_)
          refine lv_iload hx hb d_M_field_53 (lv_at hl 0 rfl) ?_
          refine lv_if_ne (tgt := 93) hx hb d_M_field_55 (by decide) (fun c_55 => absurd (by decide) c_55) (fun _ => ?_)
          refine lv_iload_n hx hb d_M_field_58 rfl (lv_at hl 3 rfl) ?_
          refine lv_if_ne (tgt := 74) hx hb d_M_field_59 (by decide) (fun c_59 => ?_) (fun c_59 => ?_)
          · skip
            have c_59 := mt (z_eq (by omega)).mpr c_59
            refine lv_iload_n hx hb d_M_field_74 rfl (lv_at hl 3 rfl) ?_
            refine lv_iconst (v := nI 1) hx hb d_M_field_75 (by decide) ?_
            refine lv_icmp_ne (tgt := 97) hx hb d_M_field_76 (by decide) (fun c_76 => ?_) (fun c_76 => ?_)
            · skip
              have c_76 := mt (nI_eq (by omega) (by omega)).mpr c_76
              refine lv_iconst (v := nI 0) hx hb d_M_field_97 (by decide) ?_
              refine lv_istore (lv' := [(5, .int (nI 0)), (0, .ref (am 0)), (1, .int t), (2, .int (nI (cN k))), (3, .int x), (4, .int (bI b))]) hx hb d_M_field_98 hl (by decide) rfl (fun ls hl => ?_)
              refine lv_iload hx hb d_M_field_100 (lv_at hl 0 rfl) ?_
              refine lv_if_eq (tgt := 111) hx hb d_M_field_102 (by decide) (fun _ => ?_) (fun c_102 => absurd (by decide) c_102)
              have hcd0 : cdField sLen t k x b = if sLen (cN t) < 6 then 0 else 2 := cdF_2 (t_y c_10) (o_y c_19) (suT_r (by omega) (by omega) (by omega)) (fun z => absurd z.2 (by omega))
              obtain ⟨n_t, b_t⟩ := okT_spec (t_y c_10)
              have hl : lv_has ls 7 [(5, .int (nI 0)), (0, .ref (am 0)), (1, .int (nI (cN t))), (2, .int (nI (cN k))), (3, .int x), (4, .int (bI b))] := by rw [← n_t]; exact hl
              have hL1 := hL (cN t)
              refine lv_aload_n hx hb d_M_field_111 rfl (lv_at hl 1 rfl) ?_
              refine va_get (D := D) (ci := 8) (C := R_M) (T := T_M) (N := 39) hx hb hts (fun w h => kT w (i_M w h)) hown hK hP 0 rfl rfl 1 (by decide) (hts _ (kT _ wd_4d2260e1)) (fun _ h9 => h9) rfl d_M_field_112 ?_
              refine lv_iload_n hx hb d_M_field_115 rfl (lv_at hl 2 rfl) ?_
              refine n_iald hx hb hK hP 1 0 rfl rfl (i := (cN t)) (by omega) (by decide) d_M_field_116 ?_
              refine lv_bipush (v := nI 6) hx hb d_M_field_117 (by decide) ?_
              refine lv_icmp_ne (tgt := 128) hx hb d_M_field_119 (by decide) (fun c_119 => ?_) (fun c_119 => ?_)
              · skip
                have c_119 := mt (nI_eq (by omega) (by omega)).mpr c_119
                have hcd : cdField sLen t k x b = 0 := by rw [hcd0, if_pos (by omega)]
                refine lv_bipush (v := nI 6) hx hb d_M_field_128 (by decide) ?_
                refine lv_iload_n hx hb d_M_field_130 rfl (lv_at hl 2 rfl) ?_
                refine lv_imul hx hb d_M_field_131 ?_
                refine lv_eqi ((pk_mul _ _).trans (nI_congr (Nat.mul_comm _ _))) ?_
                refine lv_aload_n hx hb d_M_field_132 rfl (lv_at hl 1 rfl) ?_
                refine va_get (D := D) (ci := 8) (C := R_M) (T := T_M) (N := 39) hx hb hts (fun w h => kT w (i_M w h)) hown hK hP 0 rfl rfl 1 (by decide) (hts _ (kT _ wd_4d2260e1)) (fun _ h9 => h9) rfl d_M_field_133 ?_
                refine lv_iload_n hx hb d_M_field_136 rfl (lv_at hl 2 rfl) ?_
                refine n_iald hx hb hK hP 1 0 rfl rfl (i := (cN t)) (by omega) (by decide) d_M_field_137 ?_
                refine lv_iadd hx hb d_M_field_138 ?_
                refine lv_eqi (nI_add _ _) ?_
                refine lv_istore (lv' := [(6, .int (nI (((cN t) * 6) + (sLen (cN t))))), (5, .int (nI 0)), (0, .ref (am 0)), (1, .int (nI (cN t))), (2, .int (nI (cN k))), (3, .int x), (4, .int (bI b))]) hx hb d_M_field_139 hl (by decide) rfl (fun ls hl => ?_)
                refine lv_aload_n hx hb d_M_field_141 rfl (lv_at hl 2 rfl) ?_
                refine va_get (D := D) (ci := 8) (C := R_M) (T := T_M) (N := 39) hx hb hts (fun w h => kT w (i_M w h)) hown hK hP 0 rfl rfl 2 (by decide) (hts _ (kT _ wd_91f4763a)) (fun _ h9 => h9) rfl d_M_field_142 ?_
                refine lv_iload hx hb d_M_field_145 (lv_at hl 0 rfl) ?_
                refine lv_iload_n hx hb d_M_field_147 rfl (lv_at hl 4 rfl) ?_
                refine n_iast hx hb hK hP hD hS 2 1 rfl rfl (i := (((cN t) * 6) + (sLen (cN t)))) (by omega) (by decide) d_M_field_148 (fun H locs hP hD hS => ?_)
                have hP : va_P D vwCl (Wm am gm sLen (va_up sKind (((cN t) * 6) + (sLen (cN t))) (cN k)) sExt sMust rTab rFil mNum rLen rItm made pItm held dByt dLen ver fAdr fTab adr tab lf 0 row mWr mWid mOv mPl mTh mSp mPile mNext mSh mShs mRea mWg mEn mDp mAt mTb mSt) H := hP
                have hD : va_D A (Wm am gm sLen (va_up sKind (((cN t) * 6) + (sLen (cN t))) (cN k)) sExt sMust rTab rFil mNum rLen rItm made pItm held dByt dLen ver fAdr fTab adr tab lf 0 row mWr mWid mOv mPl mTh mSp mPile mNext mSh mShs mRea mWg mEn mDp mAt mTb mSt) := hD
                refine lv_aload_n hx hb d_M_field_149 rfl (lv_at hl 2 rfl) ?_
                refine va_get (D := D) (ci := 8) (C := R_M) (T := T_M) (N := 39) hx hb hts (fun w h => kT w (i_M w h)) hown hK hP 0 rfl rfl 3 (by decide) (hts _ (kT _ wd_74a62eb0)) (fun _ h9 => h9) rfl d_M_field_150 ?_
                refine lv_iload hx hb d_M_field_153 (lv_at hl 0 rfl) ?_
                refine lv_iload_n hx hb d_M_field_155 rfl (lv_at hl 5 rfl) ?_
                refine r_iast hx hb hK hP hD hS 3 2 rfl rfl (i := (((cN t) * 6) + (sLen (cN t)))) (by omega) (by decide) d_M_field_156 (fun H locs hP hD hS => ?_)
                have hP : va_P D vwCl (Wm am gm sLen (va_up sKind (((cN t) * 6) + (sLen (cN t))) (cN k)) (upd sExt (((cN t) * 6) + (sLen (cN t))) x) sMust rTab rFil mNum rLen rItm made pItm held dByt dLen ver fAdr fTab adr tab lf 0 row mWr mWid mOv mPl mTh mSp mPile mNext mSh mShs mRea mWg mEn mDp mAt mTb mSt) H := hP
                have hD : va_D A (Wm am gm sLen (va_up sKind (((cN t) * 6) + (sLen (cN t))) (cN k)) (upd sExt (((cN t) * 6) + (sLen (cN t))) x) sMust rTab rFil mNum rLen rItm made pItm held dByt dLen ver fAdr fTab adr tab lf 0 row mWr mWid mOv mPl mTh mSp mPile mNext mSh mShs mRea mWg mEn mDp mAt mTb mSt) := hD
                refine lv_aload_n hx hb d_M_field_157 rfl (lv_at hl 2 rfl) ?_
                refine va_get (D := D) (ci := 8) (C := R_M) (T := T_M) (N := 39) hx hb hts (fun w h => kT w (i_M w h)) hown hK hP 0 rfl rfl 4 (by decide) (hts _ (kT _ wd_de26f6e3)) (fun _ h9 => h9) rfl d_M_field_158 ?_
                refine lv_iload hx hb d_M_field_161 (lv_at hl 0 rfl) ?_
                refine lv_iload hx hb d_M_field_163 (lv_at hl 6 rfl) ?_
                refine z_zast hx hb hK hP hD hS 4 3 rfl rfl (i := (((cN t) * 6) + (sLen (cN t)))) (by omega) (by decide) d_M_field_165 (fun H locs hP hD hS => ?_)
                have hP : va_P D vwCl (Wm am gm sLen (va_up sKind (((cN t) * 6) + (sLen (cN t))) (cN k)) (upd sExt (((cN t) * 6) + (sLen (cN t))) x) (va_up sMust (((cN t) * 6) + (sLen (cN t))) b) rTab rFil mNum rLen rItm made pItm held dByt dLen ver fAdr fTab adr tab lf 0 row mWr mWid mOv mPl mTh mSp mPile mNext mSh mShs mRea mWg mEn mDp mAt mTb mSt) H := hP
                have hD : va_D A (Wm am gm sLen (va_up sKind (((cN t) * 6) + (sLen (cN t))) (cN k)) (upd sExt (((cN t) * 6) + (sLen (cN t))) x) (va_up sMust (((cN t) * 6) + (sLen (cN t))) b) rTab rFil mNum rLen rItm made pItm held dByt dLen ver fAdr fTab adr tab lf 0 row mWr mWid mOv mPl mTh mSp mPile mNext mSh mShs mRea mWg mEn mDp mAt mTb mSt) := hD
                refine lv_aload_n hx hb d_M_field_166 rfl (lv_at hl 2 rfl) ?_
                refine va_get (D := D) (ci := 8) (C := R_M) (T := T_M) (N := 39) hx hb hts (fun w h => kT w (i_M w h)) hown hK hP 0 rfl rfl 1 (by decide) (hts _ (kT _ wd_4d2260e1)) (fun _ h9 => h9) rfl d_M_field_167 ?_
                refine lv_iload_n hx hb d_M_field_170 rfl (lv_at hl 3 rfl) ?_
                refine lv_dup2_11 hx hb d_M_field_171 rfl rfl ?_
                refine n_iald hx hb hK hP 1 0 rfl rfl (i := (cN t)) (by omega) (by decide) d_M_field_172 ?_
                refine lv_iconst (v := nI 1) hx hb d_M_field_173 (by decide) ?_
                refine lv_iadd hx hb d_M_field_174 ?_
                refine lv_eqi (nI_add _ _) ?_
                refine n_iast hx hb hK hP hD hS 1 0 rfl rfl (i := (cN t)) (by omega) (by decide) d_M_field_175 (fun H locs hP hD hS => ?_)
                have hP : va_P D vwCl (Wm am gm (va_up sLen (cN t) ((sLen (cN t)) + 1)) (va_up sKind (((cN t) * 6) + (sLen (cN t))) (cN k)) (upd sExt (((cN t) * 6) + (sLen (cN t))) x) (va_up sMust (((cN t) * 6) + (sLen (cN t))) b) rTab rFil mNum rLen rItm made pItm held dByt dLen ver fAdr fTab adr tab lf 0 row mWr mWid mOv mPl mTh mSp mPile mNext mSh mShs mRea mWg mEn mDp mAt mTb mSt) H := hP
                have hD : va_D A (Wm am gm (va_up sLen (cN t) ((sLen (cN t)) + 1)) (va_up sKind (((cN t) * 6) + (sLen (cN t))) (cN k)) (upd sExt (((cN t) * 6) + (sLen (cN t))) x) (va_up sMust (((cN t) * 6) + (sLen (cN t))) b) rTab rFil mNum rLen rItm made pItm held dByt dLen ver fAdr fTab adr tab lf 0 row mWr mWid mOv mPl mTh mSp mPile mNext mSh mShs mRea mWg mEn mDp mAt mTb mSt) := hD
                refine lv_aload_n hx hb d_M_field_176 rfl (lv_at hl 2 rfl) ?_
                refine lv_iconst (v := nI 0) hx hb d_M_field_177 (by decide) ?_
                refine lv_eqi (show nI 0 = bI false by decide) ?_
                refine va_put (D := D) (ci := 8) (ty := .boolean) (C := R_M) (T := T_M) (N := 39) hx hb hts (fun w h => kT w (i_M w h)) ty_M tyk_M nm_M hown hK hP hD hS 0 rfl rfl 27 (by decide) (hts _ (kT _ wd_a47358da)) (fun _ h9 => h9) rfl (by decide +kernel) (bI_nar _) (bI_fits _) (Nat.le_of_ble_eq_true rfl) d_M_field_178 (fun H locs hP hD hS => ?_)
                have hP : va_P D vwCl (Wm am gm (va_up sLen (cN t) ((sLen (cN t)) + 1)) (va_up sKind (((cN t) * 6) + (sLen (cN t))) (cN k)) (upd sExt (((cN t) * 6) + (sLen (cN t))) x) (va_up sMust (((cN t) * 6) + (sLen (cN t))) b) rTab rFil mNum rLen rItm made pItm held dByt dLen false fAdr fTab adr tab lf 0 row mWr mWid mOv mPl mTh mSp mPile mNext mSh mShs mRea mWg mEn mDp mAt mTb mSt) H := hP
                have hD : va_D A (Wm am gm (va_up sLen (cN t) ((sLen (cN t)) + 1)) (va_up sKind (((cN t) * 6) + (sLen (cN t))) (cN k)) (upd sExt (((cN t) * 6) + (sLen (cN t))) x) (va_up sMust (((cN t) * 6) + (sLen (cN t))) b) rTab rFil mNum rLen rItm made pItm held dByt dLen false fAdr fTab adr tab lf 0 row mWr mWid mOv mPl mTh mSp mPile mNext mSh mShs mRea mWg mEn mDp mAt mTb mSt) := hD
                have hup : (va_up sLen (cN t) ((sLen (cN t)) + 1)) (cN t) = sLen (cN t) + 1 := va_up_self _ _ _
                refine lv_aload_n hx hb d_M_field_181 rfl (lv_at hl 2 rfl) ?_
                refine va_get (D := D) (ci := 8) (C := R_M) (T := T_M) (N := 39) hx hb hts (fun w h => kT w (i_M w h)) hown hK hP 0 rfl rfl 1 (by decide) (hts _ (kT _ wd_4d2260e1)) (fun _ h9 => h9) rfl d_M_field_182 ?_
                refine lv_iload_n hx hb d_M_field_185 rfl (lv_at hl 3 rfl) ?_
                refine n_iald hx hb hK hP 1 0 rfl rfl (i := (cN t)) (by omega) (by decide) d_M_field_186 ?_
                refine lv_iconst (v := nI 1) hx hb d_M_field_187 (by decide) ?_
                refine lv_isub hx hb d_M_field_188 ?_
                refine lv_eqi (pk_sub (by omega)) ?_
                exact k_iret hx hb hr hlocks hK hP hD hS (trivial) (by rw [hcd, hup]; rfl) (by rw [hcd]; first | done | rfl) d_M_field_189
              · skip
                have c_119 := (nI_eq (by omega) (by omega)).mp c_119
                have hcd : cdField sLen t k x b = 2 := by rw [hcd0, if_neg (by omega)]
                refine lv_aload_n hx hb d_M_field_122 rfl (lv_at hl 1 rfl) ?_
                refine lv_iconst (v := nI 2) hx hb d_M_field_123 (by decide) ?_
                refine k_callV (m_raise l D am gm tw sLen sKind sExt sMust rTab rFil mNum rLen rItm made pItm held dByt dLen ver fAdr fTab adr tab lf 0 row mWr mWid mOv mPl mTh mSp mPile mNext mSh mShs mRea mWg mEn mDp mAt mTb mSt 2  ) m_M_raise wd_4b1468e4 0 8 rfl rfl rfl kT hx hb hml hown hts ⟨Nat.le_of_ble_eq_true rfl, Nat.le_of_ble_eq_true rfl⟩ ⟨Nat.le_of_ble_eq_true rfl, Nat.le_of_ble_eq_true rfl⟩ hK hP hD hS hA hZ hl.1 rfl rfl (Nat.le_of_ble_eq_true rfl) d_M_field_124 (fun H locs hP hD hS => ?_)
                have hP : va_P D vwCl (Wm am gm sLen sKind sExt sMust rTab rFil mNum rLen rItm made pItm held dByt dLen ver fAdr fTab adr tab lf 2 row mWr mWid mOv mPl mTh mSp mPile mNext mSh mShs mRea mWg mEn mDp mAt mTb mSt) H := hP
                have hD : va_D A (Wm am gm sLen sKind sExt sMust rTab rFil mNum rLen rItm made pItm held dByt dLen ver fAdr fTab adr tab lf 2 row mWr mWid mOv mPl mTh mSp mPile mNext mSh mShs mRea mWg mEn mDp mAt mTb mSt) := hD
                refine W.eq (g2 := F0 m 127 ls [.int (nI 0)]) rfl ?_
                exact k_iret hx hb hr hlocks hK hP hD hS (trivial) (by rw [hcd]; first | done | rfl) (by rw [hcd]; first | done | rfl) d_M_field_127
            · skip
              have c_76 := (nI_eq (by omega) (by omega)).mp c_76
              refine lv_iload_n hx hb d_M_field_79 rfl (lv_at hl 4 rfl) ?_
              refine lv_sipush (v := -32768) hx hb d_M_field_80 (by decide) ?_
              refine lv_icmp_lt (tgt := 93) hx hb d_M_field_83 (by decide) (fun c_83 => ?_) (fun c_83 => ?_)
              · skip
                refine lv_iconst (v := nI 1) hx hb d_M_field_93 (by decide) ?_
                refine lv_goto (tgt := 98) hx hb d_M_field_94 (by decide) ?_
                refine lv_istore (lv' := [(5, .int (nI 1)), (0, .ref (am 0)), (1, .int t), (2, .int (nI (cN k))), (3, .int x), (4, .int (bI b))]) hx hb d_M_field_98 hl (by decide) rfl (fun ls hl => ?_)
                refine lv_iload hx hb d_M_field_100 (lv_at hl 0 rfl) ?_
                refine lv_if_eq (tgt := 111) hx hb d_M_field_102 (by decide) (fun c_102 => absurd c_102 (by decide)) (fun _ => ?_)
                have hcd : cdField sLen t k x b = 1 := cdF_1c (by rw [show cN k = 1 by omega]; exact suT_1n (Or.inl c_83))
                refine lv_aload_n hx hb d_M_field_105 rfl (lv_at hl 1 rfl) ?_
                refine lv_iconst (v := nI 1) hx hb d_M_field_106 (by decide) ?_
                refine k_callV (m_raise l D am gm tw sLen sKind sExt sMust rTab rFil mNum rLen rItm made pItm held dByt dLen ver fAdr fTab adr tab lf 0 row mWr mWid mOv mPl mTh mSp mPile mNext mSh mShs mRea mWg mEn mDp mAt mTb mSt 1  ) m_M_raise wd_4b1468e4 0 8 rfl rfl rfl kT hx hb hml hown hts ⟨Nat.le_of_ble_eq_true rfl, Nat.le_of_ble_eq_true rfl⟩ ⟨Nat.le_of_ble_eq_true rfl, Nat.le_of_ble_eq_true rfl⟩ hK hP hD hS hA hZ hl.1 rfl rfl (Nat.le_of_ble_eq_true rfl) d_M_field_107 (fun H locs hP hD hS => ?_)
                have hP : va_P D vwCl (Wm am gm sLen sKind sExt sMust rTab rFil mNum rLen rItm made pItm held dByt dLen ver fAdr fTab adr tab lf 1 row mWr mWid mOv mPl mTh mSp mPile mNext mSh mShs mRea mWg mEn mDp mAt mTb mSt) H := hP
                have hD : va_D A (Wm am gm sLen sKind sExt sMust rTab rFil mNum rLen rItm made pItm held dByt dLen ver fAdr fTab adr tab lf 1 row mWr mWid mOv mPl mTh mSp mPile mNext mSh mShs mRea mWg mEn mDp mAt mTb mSt) := hD
                refine W.eq (g2 := F0 m 110 ls [.int (nI 0)]) rfl ?_
                exact k_iret hx hb hr hlocks hK hP hD hS (trivial) (by rw [hcd]; first | done | rfl) (by rw [hcd]; first | done | rfl) d_M_field_110
              · skip
                refine lv_iload_n hx hb d_M_field_86 rfl (lv_at hl 4 rfl) ?_
                refine lv_sipush (v := nI 32767) hx hb d_M_field_87 (by decide) ?_
                refine lv_icmp_le (tgt := 97) hx hb d_M_field_90 (by decide) (fun c_90 => ?_) (fun c_90 => ?_)
                · skip
                  refine lv_iconst (v := nI 0) hx hb d_M_field_97 (by decide) ?_
                  refine lv_istore (lv' := [(5, .int (nI 0)), (0, .ref (am 0)), (1, .int t), (2, .int (nI (cN k))), (3, .int x), (4, .int (bI b))]) hx hb d_M_field_98 hl (by decide) rfl (fun ls hl => ?_)
                  refine lv_iload hx hb d_M_field_100 (lv_at hl 0 rfl) ?_
                  refine lv_if_eq (tgt := 111) hx hb d_M_field_102 (by decide) (fun _ => ?_) (fun c_102 => absurd (by decide) c_102)
                  have hcd0 : cdField sLen t k x b = if sLen (cN t) < 6 then 0 else 2 := cdF_2 (t_y c_10) (o_y c_19) (by rw [show cN k = 1 by omega]; exact suT_1 c_83 c_90) (fun z => absurd z.2 (by omega))
                  obtain ⟨n_t, b_t⟩ := okT_spec (t_y c_10)
                  have hl : lv_has ls 7 [(5, .int (nI 0)), (0, .ref (am 0)), (1, .int (nI (cN t))), (2, .int (nI (cN k))), (3, .int x), (4, .int (bI b))] := by rw [← n_t]; exact hl
                  have hL1 := hL (cN t)
                  refine lv_aload_n hx hb d_M_field_111 rfl (lv_at hl 1 rfl) ?_
                  refine va_get (D := D) (ci := 8) (C := R_M) (T := T_M) (N := 39) hx hb hts (fun w h => kT w (i_M w h)) hown hK hP 0 rfl rfl 1 (by decide) (hts _ (kT _ wd_4d2260e1)) (fun _ h9 => h9) rfl d_M_field_112 ?_
                  refine lv_iload_n hx hb d_M_field_115 rfl (lv_at hl 2 rfl) ?_
                  refine n_iald hx hb hK hP 1 0 rfl rfl (i := (cN t)) (by omega) (by decide) d_M_field_116 ?_
                  refine lv_bipush (v := nI 6) hx hb d_M_field_117 (by decide) ?_
                  refine lv_icmp_ne (tgt := 128) hx hb d_M_field_119 (by decide) (fun c_119 => ?_) (fun c_119 => ?_)
                  · skip
                    have c_119 := mt (nI_eq (by omega) (by omega)).mpr c_119
                    have hcd : cdField sLen t k x b = 0 := by rw [hcd0, if_pos (by omega)]
                    refine lv_bipush (v := nI 6) hx hb d_M_field_128 (by decide) ?_
                    refine lv_iload_n hx hb d_M_field_130 rfl (lv_at hl 2 rfl) ?_
                    refine lv_imul hx hb d_M_field_131 ?_
                    refine lv_eqi ((pk_mul _ _).trans (nI_congr (Nat.mul_comm _ _))) ?_
                    refine lv_aload_n hx hb d_M_field_132 rfl (lv_at hl 1 rfl) ?_
                    refine va_get (D := D) (ci := 8) (C := R_M) (T := T_M) (N := 39) hx hb hts (fun w h => kT w (i_M w h)) hown hK hP 0 rfl rfl 1 (by decide) (hts _ (kT _ wd_4d2260e1)) (fun _ h9 => h9) rfl d_M_field_133 ?_
                    refine lv_iload_n hx hb d_M_field_136 rfl (lv_at hl 2 rfl) ?_
                    refine n_iald hx hb hK hP 1 0 rfl rfl (i := (cN t)) (by omega) (by decide) d_M_field_137 ?_
                    refine lv_iadd hx hb d_M_field_138 ?_
                    refine lv_eqi (nI_add _ _) ?_
                    refine lv_istore (lv' := [(6, .int (nI (((cN t) * 6) + (sLen (cN t))))), (5, .int (nI 0)), (0, .ref (am 0)), (1, .int (nI (cN t))), (2, .int (nI (cN k))), (3, .int x), (4, .int (bI b))]) hx hb d_M_field_139 hl (by decide) rfl (fun ls hl => ?_)
                    refine lv_aload_n hx hb d_M_field_141 rfl (lv_at hl 2 rfl) ?_
                    refine va_get (D := D) (ci := 8) (C := R_M) (T := T_M) (N := 39) hx hb hts (fun w h => kT w (i_M w h)) hown hK hP 0 rfl rfl 2 (by decide) (hts _ (kT _ wd_91f4763a)) (fun _ h9 => h9) rfl d_M_field_142 ?_
                    refine lv_iload hx hb d_M_field_145 (lv_at hl 0 rfl) ?_
                    refine lv_iload_n hx hb d_M_field_147 rfl (lv_at hl 4 rfl) ?_
                    refine n_iast hx hb hK hP hD hS 2 1 rfl rfl (i := (((cN t) * 6) + (sLen (cN t)))) (by omega) (by decide) d_M_field_148 (fun H locs hP hD hS => ?_)
                    have hP : va_P D vwCl (Wm am gm sLen (va_up sKind (((cN t) * 6) + (sLen (cN t))) (cN k)) sExt sMust rTab rFil mNum rLen rItm made pItm held dByt dLen ver fAdr fTab adr tab lf 0 row mWr mWid mOv mPl mTh mSp mPile mNext mSh mShs mRea mWg mEn mDp mAt mTb mSt) H := hP
                    have hD : va_D A (Wm am gm sLen (va_up sKind (((cN t) * 6) + (sLen (cN t))) (cN k)) sExt sMust rTab rFil mNum rLen rItm made pItm held dByt dLen ver fAdr fTab adr tab lf 0 row mWr mWid mOv mPl mTh mSp mPile mNext mSh mShs mRea mWg mEn mDp mAt mTb mSt) := hD
                    refine lv_aload_n hx hb d_M_field_149 rfl (lv_at hl 2 rfl) ?_
                    refine va_get (D := D) (ci := 8) (C := R_M) (T := T_M) (N := 39) hx hb hts (fun w h => kT w (i_M w h)) hown hK hP 0 rfl rfl 3 (by decide) (hts _ (kT _ wd_74a62eb0)) (fun _ h9 => h9) rfl d_M_field_150 ?_
                    refine lv_iload hx hb d_M_field_153 (lv_at hl 0 rfl) ?_
                    refine lv_iload_n hx hb d_M_field_155 rfl (lv_at hl 5 rfl) ?_
                    refine r_iast hx hb hK hP hD hS 3 2 rfl rfl (i := (((cN t) * 6) + (sLen (cN t)))) (by omega) (by decide) d_M_field_156 (fun H locs hP hD hS => ?_)
                    have hP : va_P D vwCl (Wm am gm sLen (va_up sKind (((cN t) * 6) + (sLen (cN t))) (cN k)) (upd sExt (((cN t) * 6) + (sLen (cN t))) x) sMust rTab rFil mNum rLen rItm made pItm held dByt dLen ver fAdr fTab adr tab lf 0 row mWr mWid mOv mPl mTh mSp mPile mNext mSh mShs mRea mWg mEn mDp mAt mTb mSt) H := hP
                    have hD : va_D A (Wm am gm sLen (va_up sKind (((cN t) * 6) + (sLen (cN t))) (cN k)) (upd sExt (((cN t) * 6) + (sLen (cN t))) x) sMust rTab rFil mNum rLen rItm made pItm held dByt dLen ver fAdr fTab adr tab lf 0 row mWr mWid mOv mPl mTh mSp mPile mNext mSh mShs mRea mWg mEn mDp mAt mTb mSt) := hD
                    refine lv_aload_n hx hb d_M_field_157 rfl (lv_at hl 2 rfl) ?_
                    refine va_get (D := D) (ci := 8) (C := R_M) (T := T_M) (N := 39) hx hb hts (fun w h => kT w (i_M w h)) hown hK hP 0 rfl rfl 4 (by decide) (hts _ (kT _ wd_de26f6e3)) (fun _ h9 => h9) rfl d_M_field_158 ?_
                    refine lv_iload hx hb d_M_field_161 (lv_at hl 0 rfl) ?_
                    refine lv_iload hx hb d_M_field_163 (lv_at hl 6 rfl) ?_
                    refine z_zast hx hb hK hP hD hS 4 3 rfl rfl (i := (((cN t) * 6) + (sLen (cN t)))) (by omega) (by decide) d_M_field_165 (fun H locs hP hD hS => ?_)
                    have hP : va_P D vwCl (Wm am gm sLen (va_up sKind (((cN t) * 6) + (sLen (cN t))) (cN k)) (upd sExt (((cN t) * 6) + (sLen (cN t))) x) (va_up sMust (((cN t) * 6) + (sLen (cN t))) b) rTab rFil mNum rLen rItm made pItm held dByt dLen ver fAdr fTab adr tab lf 0 row mWr mWid mOv mPl mTh mSp mPile mNext mSh mShs mRea mWg mEn mDp mAt mTb mSt) H := hP
                    have hD : va_D A (Wm am gm sLen (va_up sKind (((cN t) * 6) + (sLen (cN t))) (cN k)) (upd sExt (((cN t) * 6) + (sLen (cN t))) x) (va_up sMust (((cN t) * 6) + (sLen (cN t))) b) rTab rFil mNum rLen rItm made pItm held dByt dLen ver fAdr fTab adr tab lf 0 row mWr mWid mOv mPl mTh mSp mPile mNext mSh mShs mRea mWg mEn mDp mAt mTb mSt) := hD
                    refine lv_aload_n hx hb d_M_field_166 rfl (lv_at hl 2 rfl) ?_
                    refine va_get (D := D) (ci := 8) (C := R_M) (T := T_M) (N := 39) hx hb hts (fun w h => kT w (i_M w h)) hown hK hP 0 rfl rfl 1 (by decide) (hts _ (kT _ wd_4d2260e1)) (fun _ h9 => h9) rfl d_M_field_167 ?_
                    refine lv_iload_n hx hb d_M_field_170 rfl (lv_at hl 3 rfl) ?_
                    refine lv_dup2_11 hx hb d_M_field_171 rfl rfl ?_
                    refine n_iald hx hb hK hP 1 0 rfl rfl (i := (cN t)) (by omega) (by decide) d_M_field_172 ?_
                    refine lv_iconst (v := nI 1) hx hb d_M_field_173 (by decide) ?_
                    refine lv_iadd hx hb d_M_field_174 ?_
                    refine lv_eqi (nI_add _ _) ?_
                    refine n_iast hx hb hK hP hD hS 1 0 rfl rfl (i := (cN t)) (by omega) (by decide) d_M_field_175 (fun H locs hP hD hS => ?_)
                    have hP : va_P D vwCl (Wm am gm (va_up sLen (cN t) ((sLen (cN t)) + 1)) (va_up sKind (((cN t) * 6) + (sLen (cN t))) (cN k)) (upd sExt (((cN t) * 6) + (sLen (cN t))) x) (va_up sMust (((cN t) * 6) + (sLen (cN t))) b) rTab rFil mNum rLen rItm made pItm held dByt dLen ver fAdr fTab adr tab lf 0 row mWr mWid mOv mPl mTh mSp mPile mNext mSh mShs mRea mWg mEn mDp mAt mTb mSt) H := hP
                    have hD : va_D A (Wm am gm (va_up sLen (cN t) ((sLen (cN t)) + 1)) (va_up sKind (((cN t) * 6) + (sLen (cN t))) (cN k)) (upd sExt (((cN t) * 6) + (sLen (cN t))) x) (va_up sMust (((cN t) * 6) + (sLen (cN t))) b) rTab rFil mNum rLen rItm made pItm held dByt dLen ver fAdr fTab adr tab lf 0 row mWr mWid mOv mPl mTh mSp mPile mNext mSh mShs mRea mWg mEn mDp mAt mTb mSt) := hD
                    refine lv_aload_n hx hb d_M_field_176 rfl (lv_at hl 2 rfl) ?_
                    refine lv_iconst (v := nI 0) hx hb d_M_field_177 (by decide) ?_
                    refine lv_eqi (show nI 0 = bI false by decide) ?_
                    refine va_put (D := D) (ci := 8) (ty := .boolean) (C := R_M) (T := T_M) (N := 39) hx hb hts (fun w h => kT w (i_M w h)) ty_M tyk_M nm_M hown hK hP hD hS 0 rfl rfl 27 (by decide) (hts _ (kT _ wd_a47358da)) (fun _ h9 => h9) rfl (by decide +kernel) (bI_nar _) (bI_fits _) (Nat.le_of_ble_eq_true rfl) d_M_field_178 (fun H locs hP hD hS => ?_)
                    have hP : va_P D vwCl (Wm am gm (va_up sLen (cN t) ((sLen (cN t)) + 1)) (va_up sKind (((cN t) * 6) + (sLen (cN t))) (cN k)) (upd sExt (((cN t) * 6) + (sLen (cN t))) x) (va_up sMust (((cN t) * 6) + (sLen (cN t))) b) rTab rFil mNum rLen rItm made pItm held dByt dLen false fAdr fTab adr tab lf 0 row mWr mWid mOv mPl mTh mSp mPile mNext mSh mShs mRea mWg mEn mDp mAt mTb mSt) H := hP
                    have hD : va_D A (Wm am gm (va_up sLen (cN t) ((sLen (cN t)) + 1)) (va_up sKind (((cN t) * 6) + (sLen (cN t))) (cN k)) (upd sExt (((cN t) * 6) + (sLen (cN t))) x) (va_up sMust (((cN t) * 6) + (sLen (cN t))) b) rTab rFil mNum rLen rItm made pItm held dByt dLen false fAdr fTab adr tab lf 0 row mWr mWid mOv mPl mTh mSp mPile mNext mSh mShs mRea mWg mEn mDp mAt mTb mSt) := hD
                    have hup : (va_up sLen (cN t) ((sLen (cN t)) + 1)) (cN t) = sLen (cN t) + 1 := va_up_self _ _ _
                    refine lv_aload_n hx hb d_M_field_181 rfl (lv_at hl 2 rfl) ?_
                    refine va_get (D := D) (ci := 8) (C := R_M) (T := T_M) (N := 39) hx hb hts (fun w h => kT w (i_M w h)) hown hK hP 0 rfl rfl 1 (by decide) (hts _ (kT _ wd_4d2260e1)) (fun _ h9 => h9) rfl d_M_field_182 ?_
                    refine lv_iload_n hx hb d_M_field_185 rfl (lv_at hl 3 rfl) ?_
                    refine n_iald hx hb hK hP 1 0 rfl rfl (i := (cN t)) (by omega) (by decide) d_M_field_186 ?_
                    refine lv_iconst (v := nI 1) hx hb d_M_field_187 (by decide) ?_
                    refine lv_isub hx hb d_M_field_188 ?_
                    refine lv_eqi (pk_sub (by omega)) ?_
                    exact k_iret hx hb hr hlocks hK hP hD hS (trivial) (by rw [hcd, hup]; rfl) (by rw [hcd]; first | done | rfl) d_M_field_189
                  · skip
                    have c_119 := (nI_eq (by omega) (by omega)).mp c_119
                    have hcd : cdField sLen t k x b = 2 := by rw [hcd0, if_neg (by omega)]
                    refine lv_aload_n hx hb d_M_field_122 rfl (lv_at hl 1 rfl) ?_
                    refine lv_iconst (v := nI 2) hx hb d_M_field_123 (by decide) ?_
                    refine k_callV (m_raise l D am gm tw sLen sKind sExt sMust rTab rFil mNum rLen rItm made pItm held dByt dLen ver fAdr fTab adr tab lf 0 row mWr mWid mOv mPl mTh mSp mPile mNext mSh mShs mRea mWg mEn mDp mAt mTb mSt 2  ) m_M_raise wd_4b1468e4 0 8 rfl rfl rfl kT hx hb hml hown hts ⟨Nat.le_of_ble_eq_true rfl, Nat.le_of_ble_eq_true rfl⟩ ⟨Nat.le_of_ble_eq_true rfl, Nat.le_of_ble_eq_true rfl⟩ hK hP hD hS hA hZ hl.1 rfl rfl (Nat.le_of_ble_eq_true rfl) d_M_field_124 (fun H locs hP hD hS => ?_)
                    have hP : va_P D vwCl (Wm am gm sLen sKind sExt sMust rTab rFil mNum rLen rItm made pItm held dByt dLen ver fAdr fTab adr tab lf 2 row mWr mWid mOv mPl mTh mSp mPile mNext mSh mShs mRea mWg mEn mDp mAt mTb mSt) H := hP
                    have hD : va_D A (Wm am gm sLen sKind sExt sMust rTab rFil mNum rLen rItm made pItm held dByt dLen ver fAdr fTab adr tab lf 2 row mWr mWid mOv mPl mTh mSp mPile mNext mSh mShs mRea mWg mEn mDp mAt mTb mSt) := hD
                    refine W.eq (g2 := F0 m 127 ls [.int (nI 0)]) rfl ?_
                    exact k_iret hx hb hr hlocks hK hP hD hS (trivial) (by rw [hcd]; first | done | rfl) (by rw [hcd]; first | done | rfl) d_M_field_127
                · skip
                  refine lv_iconst (v := nI 1) hx hb d_M_field_93 (by decide) ?_
                  refine lv_goto (tgt := 98) hx hb d_M_field_94 (by decide) ?_
                  refine lv_istore (lv' := [(5, .int (nI 1)), (0, .ref (am 0)), (1, .int t), (2, .int (nI (cN k))), (3, .int x), (4, .int (bI b))]) hx hb d_M_field_98 hl (by decide) rfl (fun ls hl => ?_)
                  refine lv_iload hx hb d_M_field_100 (lv_at hl 0 rfl) ?_
                  refine lv_if_eq (tgt := 111) hx hb d_M_field_102 (by decide) (fun c_102 => absurd c_102 (by decide)) (fun _ => ?_)
                  have hcd : cdField sLen t k x b = 1 := cdF_1c (by rw [show cN k = 1 by omega]; exact suT_1n (Or.inr (i_lt c_90)))
                  refine lv_aload_n hx hb d_M_field_105 rfl (lv_at hl 1 rfl) ?_
                  refine lv_iconst (v := nI 1) hx hb d_M_field_106 (by decide) ?_
                  refine k_callV (m_raise l D am gm tw sLen sKind sExt sMust rTab rFil mNum rLen rItm made pItm held dByt dLen ver fAdr fTab adr tab lf 0 row mWr mWid mOv mPl mTh mSp mPile mNext mSh mShs mRea mWg mEn mDp mAt mTb mSt 1  ) m_M_raise wd_4b1468e4 0 8 rfl rfl rfl kT hx hb hml hown hts ⟨Nat.le_of_ble_eq_true rfl, Nat.le_of_ble_eq_true rfl⟩ ⟨Nat.le_of_ble_eq_true rfl, Nat.le_of_ble_eq_true rfl⟩ hK hP hD hS hA hZ hl.1 rfl rfl (Nat.le_of_ble_eq_true rfl) d_M_field_107 (fun H locs hP hD hS => ?_)
                  have hP : va_P D vwCl (Wm am gm sLen sKind sExt sMust rTab rFil mNum rLen rItm made pItm held dByt dLen ver fAdr fTab adr tab lf 1 row mWr mWid mOv mPl mTh mSp mPile mNext mSh mShs mRea mWg mEn mDp mAt mTb mSt) H := hP
                  have hD : va_D A (Wm am gm sLen sKind sExt sMust rTab rFil mNum rLen rItm made pItm held dByt dLen ver fAdr fTab adr tab lf 1 row mWr mWid mOv mPl mTh mSp mPile mNext mSh mShs mRea mWg mEn mDp mAt mTb mSt) := hD
                  refine W.eq (g2 := F0 m 110 ls [.int (nI 0)]) rfl ?_
                  exact k_iret hx hb hr hlocks hK hP hD hS (trivial) (by rw [hcd]; first | done | rfl) (by rw [hcd]; first | done | rfl) d_M_field_110
          · skip
            have c_59 := (z_eq (by omega)).mp c_59
            refine lv_iload_n hx hb d_M_field_62 rfl (lv_at hl 4 rfl) ?_
            refine lv_bipush (v := -128) hx hb d_M_field_63 (by decide) ?_
            refine lv_icmp_lt (tgt := 93) hx hb d_M_field_65 (by decide) (fun c_65 => ?_) (fun c_65 => ?_)
            · skip
              refine lv_iconst (v := nI 1) hx hb d_M_field_93 (by decide) ?_
              refine lv_goto (tgt := 98) hx hb d_M_field_94 (by decide) ?_
              refine lv_istore (lv' := [(5, .int (nI 1)), (0, .ref (am 0)), (1, .int t), (2, .int (nI (cN k))), (3, .int x), (4, .int (bI b))]) hx hb d_M_field_98 hl (by decide) rfl (fun ls hl => ?_)
              refine lv_iload hx hb d_M_field_100 (lv_at hl 0 rfl) ?_
              refine lv_if_eq (tgt := 111) hx hb d_M_field_102 (by decide) (fun c_102 => absurd c_102 (by decide)) (fun _ => ?_)
              have hcd : cdField sLen t k x b = 1 := cdF_1c (by rw [show cN k = 0 by omega]; exact suT_0n (Or.inl c_65))
              refine lv_aload_n hx hb d_M_field_105 rfl (lv_at hl 1 rfl) ?_
              refine lv_iconst (v := nI 1) hx hb d_M_field_106 (by decide) ?_
              refine k_callV (m_raise l D am gm tw sLen sKind sExt sMust rTab rFil mNum rLen rItm made pItm held dByt dLen ver fAdr fTab adr tab lf 0 row mWr mWid mOv mPl mTh mSp mPile mNext mSh mShs mRea mWg mEn mDp mAt mTb mSt 1  ) m_M_raise wd_4b1468e4 0 8 rfl rfl rfl kT hx hb hml hown hts ⟨Nat.le_of_ble_eq_true rfl, Nat.le_of_ble_eq_true rfl⟩ ⟨Nat.le_of_ble_eq_true rfl, Nat.le_of_ble_eq_true rfl⟩ hK hP hD hS hA hZ hl.1 rfl rfl (Nat.le_of_ble_eq_true rfl) d_M_field_107 (fun H locs hP hD hS => ?_)
              have hP : va_P D vwCl (Wm am gm sLen sKind sExt sMust rTab rFil mNum rLen rItm made pItm held dByt dLen ver fAdr fTab adr tab lf 1 row mWr mWid mOv mPl mTh mSp mPile mNext mSh mShs mRea mWg mEn mDp mAt mTb mSt) H := hP
              have hD : va_D A (Wm am gm sLen sKind sExt sMust rTab rFil mNum rLen rItm made pItm held dByt dLen ver fAdr fTab adr tab lf 1 row mWr mWid mOv mPl mTh mSp mPile mNext mSh mShs mRea mWg mEn mDp mAt mTb mSt) := hD
              refine W.eq (g2 := F0 m 110 ls [.int (nI 0)]) rfl ?_
              exact k_iret hx hb hr hlocks hK hP hD hS (trivial) (by rw [hcd]; first | done | rfl) (by rw [hcd]; first | done | rfl) d_M_field_110
            · skip
              refine lv_iload_n hx hb d_M_field_68 rfl (lv_at hl 4 rfl) ?_
              refine lv_bipush (v := nI 127) hx hb d_M_field_69 (by decide) ?_
              refine lv_icmp_gt (tgt := 93) hx hb d_M_field_71 (by decide) (fun c_71 => ?_) (fun c_71 => ?_)
              · skip
                refine lv_iconst (v := nI 1) hx hb d_M_field_93 (by decide) ?_
                refine lv_goto (tgt := 98) hx hb d_M_field_94 (by decide) ?_
                refine lv_istore (lv' := [(5, .int (nI 1)), (0, .ref (am 0)), (1, .int t), (2, .int (nI (cN k))), (3, .int x), (4, .int (bI b))]) hx hb d_M_field_98 hl (by decide) rfl (fun ls hl => ?_)
                refine lv_iload hx hb d_M_field_100 (lv_at hl 0 rfl) ?_
                refine lv_if_eq (tgt := 111) hx hb d_M_field_102 (by decide) (fun c_102 => absurd c_102 (by decide)) (fun _ => ?_)
                have hcd : cdField sLen t k x b = 1 := cdF_1c (by rw [show cN k = 0 by omega]; exact suT_0n (Or.inr c_71))
                refine lv_aload_n hx hb d_M_field_105 rfl (lv_at hl 1 rfl) ?_
                refine lv_iconst (v := nI 1) hx hb d_M_field_106 (by decide) ?_
                refine k_callV (m_raise l D am gm tw sLen sKind sExt sMust rTab rFil mNum rLen rItm made pItm held dByt dLen ver fAdr fTab adr tab lf 0 row mWr mWid mOv mPl mTh mSp mPile mNext mSh mShs mRea mWg mEn mDp mAt mTb mSt 1  ) m_M_raise wd_4b1468e4 0 8 rfl rfl rfl kT hx hb hml hown hts ⟨Nat.le_of_ble_eq_true rfl, Nat.le_of_ble_eq_true rfl⟩ ⟨Nat.le_of_ble_eq_true rfl, Nat.le_of_ble_eq_true rfl⟩ hK hP hD hS hA hZ hl.1 rfl rfl (Nat.le_of_ble_eq_true rfl) d_M_field_107 (fun H locs hP hD hS => ?_)
                have hP : va_P D vwCl (Wm am gm sLen sKind sExt sMust rTab rFil mNum rLen rItm made pItm held dByt dLen ver fAdr fTab adr tab lf 1 row mWr mWid mOv mPl mTh mSp mPile mNext mSh mShs mRea mWg mEn mDp mAt mTb mSt) H := hP
                have hD : va_D A (Wm am gm sLen sKind sExt sMust rTab rFil mNum rLen rItm made pItm held dByt dLen ver fAdr fTab adr tab lf 1 row mWr mWid mOv mPl mTh mSp mPile mNext mSh mShs mRea mWg mEn mDp mAt mTb mSt) := hD
                refine W.eq (g2 := F0 m 110 ls [.int (nI 0)]) rfl ?_
                exact k_iret hx hb hr hlocks hK hP hD hS (trivial) (by rw [hcd]; first | done | rfl) (by rw [hcd]; first | done | rfl) d_M_field_110
              · skip
                refine lv_iload_n hx hb d_M_field_74 rfl (lv_at hl 3 rfl) ?_
                refine lv_iconst (v := nI 1) hx hb d_M_field_75 (by decide) ?_
                refine lv_icmp_ne (tgt := 97) hx hb d_M_field_76 (by decide) (fun c_76 => ?_) (fun c_76 => ?_)
                · skip
                  have c_76 := mt (nI_eq (by omega) (by omega)).mpr c_76
                  refine lv_iconst (v := nI 0) hx hb d_M_field_97 (by decide) ?_
                  refine lv_istore (lv' := [(5, .int (nI 0)), (0, .ref (am 0)), (1, .int t), (2, .int (nI (cN k))), (3, .int x), (4, .int (bI b))]) hx hb d_M_field_98 hl (by decide) rfl (fun ls hl => ?_)
                  refine lv_iload hx hb d_M_field_100 (lv_at hl 0 rfl) ?_
                  refine lv_if_eq (tgt := 111) hx hb d_M_field_102 (by decide) (fun _ => ?_) (fun c_102 => absurd (by decide) c_102)
                  have hcd0 : cdField sLen t k x b = if sLen (cN t) < 6 then 0 else 2 := cdF_2 (t_y c_10) (o_y c_19) (by rw [show cN k = 0 by omega]; exact suT_0 c_65 (i_le c_71)) (fun z => absurd z.2 (by omega))
                  obtain ⟨n_t, b_t⟩ := okT_spec (t_y c_10)
                  have hl : lv_has ls 7 [(5, .int (nI 0)), (0, .ref (am 0)), (1, .int (nI (cN t))), (2, .int (nI (cN k))), (3, .int x), (4, .int (bI b))] := by rw [← n_t]; exact hl
                  have hL1 := hL (cN t)
                  refine lv_aload_n hx hb d_M_field_111 rfl (lv_at hl 1 rfl) ?_
                  refine va_get (D := D) (ci := 8) (C := R_M) (T := T_M) (N := 39) hx hb hts (fun w h => kT w (i_M w h)) hown hK hP 0 rfl rfl 1 (by decide) (hts _ (kT _ wd_4d2260e1)) (fun _ h9 => h9) rfl d_M_field_112 ?_
                  refine lv_iload_n hx hb d_M_field_115 rfl (lv_at hl 2 rfl) ?_
                  refine n_iald hx hb hK hP 1 0 rfl rfl (i := (cN t)) (by omega) (by decide) d_M_field_116 ?_
                  refine lv_bipush (v := nI 6) hx hb d_M_field_117 (by decide) ?_
                  refine lv_icmp_ne (tgt := 128) hx hb d_M_field_119 (by decide) (fun c_119 => ?_) (fun c_119 => ?_)
                  · skip
                    have c_119 := mt (nI_eq (by omega) (by omega)).mpr c_119
                    have hcd : cdField sLen t k x b = 0 := by rw [hcd0, if_pos (by omega)]
                    refine lv_bipush (v := nI 6) hx hb d_M_field_128 (by decide) ?_
                    refine lv_iload_n hx hb d_M_field_130 rfl (lv_at hl 2 rfl) ?_
                    refine lv_imul hx hb d_M_field_131 ?_
                    refine lv_eqi ((pk_mul _ _).trans (nI_congr (Nat.mul_comm _ _))) ?_
                    refine lv_aload_n hx hb d_M_field_132 rfl (lv_at hl 1 rfl) ?_
                    refine va_get (D := D) (ci := 8) (C := R_M) (T := T_M) (N := 39) hx hb hts (fun w h => kT w (i_M w h)) hown hK hP 0 rfl rfl 1 (by decide) (hts _ (kT _ wd_4d2260e1)) (fun _ h9 => h9) rfl d_M_field_133 ?_
                    refine lv_iload_n hx hb d_M_field_136 rfl (lv_at hl 2 rfl) ?_
                    refine n_iald hx hb hK hP 1 0 rfl rfl (i := (cN t)) (by omega) (by decide) d_M_field_137 ?_
                    refine lv_iadd hx hb d_M_field_138 ?_
                    refine lv_eqi (nI_add _ _) ?_
                    refine lv_istore (lv' := [(6, .int (nI (((cN t) * 6) + (sLen (cN t))))), (5, .int (nI 0)), (0, .ref (am 0)), (1, .int (nI (cN t))), (2, .int (nI (cN k))), (3, .int x), (4, .int (bI b))]) hx hb d_M_field_139 hl (by decide) rfl (fun ls hl => ?_)
                    refine lv_aload_n hx hb d_M_field_141 rfl (lv_at hl 2 rfl) ?_
                    refine va_get (D := D) (ci := 8) (C := R_M) (T := T_M) (N := 39) hx hb hts (fun w h => kT w (i_M w h)) hown hK hP 0 rfl rfl 2 (by decide) (hts _ (kT _ wd_91f4763a)) (fun _ h9 => h9) rfl d_M_field_142 ?_
                    refine lv_iload hx hb d_M_field_145 (lv_at hl 0 rfl) ?_
                    refine lv_iload_n hx hb d_M_field_147 rfl (lv_at hl 4 rfl) ?_
                    refine n_iast hx hb hK hP hD hS 2 1 rfl rfl (i := (((cN t) * 6) + (sLen (cN t)))) (by omega) (by decide) d_M_field_148 (fun H locs hP hD hS => ?_)
                    have hP : va_P D vwCl (Wm am gm sLen (va_up sKind (((cN t) * 6) + (sLen (cN t))) (cN k)) sExt sMust rTab rFil mNum rLen rItm made pItm held dByt dLen ver fAdr fTab adr tab lf 0 row mWr mWid mOv mPl mTh mSp mPile mNext mSh mShs mRea mWg mEn mDp mAt mTb mSt) H := hP
                    have hD : va_D A (Wm am gm sLen (va_up sKind (((cN t) * 6) + (sLen (cN t))) (cN k)) sExt sMust rTab rFil mNum rLen rItm made pItm held dByt dLen ver fAdr fTab adr tab lf 0 row mWr mWid mOv mPl mTh mSp mPile mNext mSh mShs mRea mWg mEn mDp mAt mTb mSt) := hD
                    refine lv_aload_n hx hb d_M_field_149 rfl (lv_at hl 2 rfl) ?_
                    refine va_get (D := D) (ci := 8) (C := R_M) (T := T_M) (N := 39) hx hb hts (fun w h => kT w (i_M w h)) hown hK hP 0 rfl rfl 3 (by decide) (hts _ (kT _ wd_74a62eb0)) (fun _ h9 => h9) rfl d_M_field_150 ?_
                    refine lv_iload hx hb d_M_field_153 (lv_at hl 0 rfl) ?_
                    refine lv_iload_n hx hb d_M_field_155 rfl (lv_at hl 5 rfl) ?_
                    refine r_iast hx hb hK hP hD hS 3 2 rfl rfl (i := (((cN t) * 6) + (sLen (cN t)))) (by omega) (by decide) d_M_field_156 (fun H locs hP hD hS => ?_)
                    have hP : va_P D vwCl (Wm am gm sLen (va_up sKind (((cN t) * 6) + (sLen (cN t))) (cN k)) (upd sExt (((cN t) * 6) + (sLen (cN t))) x) sMust rTab rFil mNum rLen rItm made pItm held dByt dLen ver fAdr fTab adr tab lf 0 row mWr mWid mOv mPl mTh mSp mPile mNext mSh mShs mRea mWg mEn mDp mAt mTb mSt) H := hP
                    have hD : va_D A (Wm am gm sLen (va_up sKind (((cN t) * 6) + (sLen (cN t))) (cN k)) (upd sExt (((cN t) * 6) + (sLen (cN t))) x) sMust rTab rFil mNum rLen rItm made pItm held dByt dLen ver fAdr fTab adr tab lf 0 row mWr mWid mOv mPl mTh mSp mPile mNext mSh mShs mRea mWg mEn mDp mAt mTb mSt) := hD
                    refine lv_aload_n hx hb d_M_field_157 rfl (lv_at hl 2 rfl) ?_
                    refine va_get (D := D) (ci := 8) (C := R_M) (T := T_M) (N := 39) hx hb hts (fun w h => kT w (i_M w h)) hown hK hP 0 rfl rfl 4 (by decide) (hts _ (kT _ wd_de26f6e3)) (fun _ h9 => h9) rfl d_M_field_158 ?_
                    refine lv_iload hx hb d_M_field_161 (lv_at hl 0 rfl) ?_
                    refine lv_iload hx hb d_M_field_163 (lv_at hl 6 rfl) ?_
                    refine z_zast hx hb hK hP hD hS 4 3 rfl rfl (i := (((cN t) * 6) + (sLen (cN t)))) (by omega) (by decide) d_M_field_165 (fun H locs hP hD hS => ?_)
                    have hP : va_P D vwCl (Wm am gm sLen (va_up sKind (((cN t) * 6) + (sLen (cN t))) (cN k)) (upd sExt (((cN t) * 6) + (sLen (cN t))) x) (va_up sMust (((cN t) * 6) + (sLen (cN t))) b) rTab rFil mNum rLen rItm made pItm held dByt dLen ver fAdr fTab adr tab lf 0 row mWr mWid mOv mPl mTh mSp mPile mNext mSh mShs mRea mWg mEn mDp mAt mTb mSt) H := hP
                    have hD : va_D A (Wm am gm sLen (va_up sKind (((cN t) * 6) + (sLen (cN t))) (cN k)) (upd sExt (((cN t) * 6) + (sLen (cN t))) x) (va_up sMust (((cN t) * 6) + (sLen (cN t))) b) rTab rFil mNum rLen rItm made pItm held dByt dLen ver fAdr fTab adr tab lf 0 row mWr mWid mOv mPl mTh mSp mPile mNext mSh mShs mRea mWg mEn mDp mAt mTb mSt) := hD
                    refine lv_aload_n hx hb d_M_field_166 rfl (lv_at hl 2 rfl) ?_
                    refine va_get (D := D) (ci := 8) (C := R_M) (T := T_M) (N := 39) hx hb hts (fun w h => kT w (i_M w h)) hown hK hP 0 rfl rfl 1 (by decide) (hts _ (kT _ wd_4d2260e1)) (fun _ h9 => h9) rfl d_M_field_167 ?_
                    refine lv_iload_n hx hb d_M_field_170 rfl (lv_at hl 3 rfl) ?_
                    refine lv_dup2_11 hx hb d_M_field_171 rfl rfl ?_
                    refine n_iald hx hb hK hP 1 0 rfl rfl (i := (cN t)) (by omega) (by decide) d_M_field_172 ?_
                    refine lv_iconst (v := nI 1) hx hb d_M_field_173 (by decide) ?_
                    refine lv_iadd hx hb d_M_field_174 ?_
                    refine lv_eqi (nI_add _ _) ?_
                    refine n_iast hx hb hK hP hD hS 1 0 rfl rfl (i := (cN t)) (by omega) (by decide) d_M_field_175 (fun H locs hP hD hS => ?_)
                    have hP : va_P D vwCl (Wm am gm (va_up sLen (cN t) ((sLen (cN t)) + 1)) (va_up sKind (((cN t) * 6) + (sLen (cN t))) (cN k)) (upd sExt (((cN t) * 6) + (sLen (cN t))) x) (va_up sMust (((cN t) * 6) + (sLen (cN t))) b) rTab rFil mNum rLen rItm made pItm held dByt dLen ver fAdr fTab adr tab lf 0 row mWr mWid mOv mPl mTh mSp mPile mNext mSh mShs mRea mWg mEn mDp mAt mTb mSt) H := hP
                    have hD : va_D A (Wm am gm (va_up sLen (cN t) ((sLen (cN t)) + 1)) (va_up sKind (((cN t) * 6) + (sLen (cN t))) (cN k)) (upd sExt (((cN t) * 6) + (sLen (cN t))) x) (va_up sMust (((cN t) * 6) + (sLen (cN t))) b) rTab rFil mNum rLen rItm made pItm held dByt dLen ver fAdr fTab adr tab lf 0 row mWr mWid mOv mPl mTh mSp mPile mNext mSh mShs mRea mWg mEn mDp mAt mTb mSt) := hD
                    refine lv_aload_n hx hb d_M_field_176 rfl (lv_at hl 2 rfl) ?_
                    refine lv_iconst (v := nI 0) hx hb d_M_field_177 (by decide) ?_
                    refine lv_eqi (show nI 0 = bI false by decide) ?_
                    refine va_put (D := D) (ci := 8) (ty := .boolean) (C := R_M) (T := T_M) (N := 39) hx hb hts (fun w h => kT w (i_M w h)) ty_M tyk_M nm_M hown hK hP hD hS 0 rfl rfl 27 (by decide) (hts _ (kT _ wd_a47358da)) (fun _ h9 => h9) rfl (by decide +kernel) (bI_nar _) (bI_fits _) (Nat.le_of_ble_eq_true rfl) d_M_field_178 (fun H locs hP hD hS => ?_)
                    have hP : va_P D vwCl (Wm am gm (va_up sLen (cN t) ((sLen (cN t)) + 1)) (va_up sKind (((cN t) * 6) + (sLen (cN t))) (cN k)) (upd sExt (((cN t) * 6) + (sLen (cN t))) x) (va_up sMust (((cN t) * 6) + (sLen (cN t))) b) rTab rFil mNum rLen rItm made pItm held dByt dLen false fAdr fTab adr tab lf 0 row mWr mWid mOv mPl mTh mSp mPile mNext mSh mShs mRea mWg mEn mDp mAt mTb mSt) H := hP
                    have hD : va_D A (Wm am gm (va_up sLen (cN t) ((sLen (cN t)) + 1)) (va_up sKind (((cN t) * 6) + (sLen (cN t))) (cN k)) (upd sExt (((cN t) * 6) + (sLen (cN t))) x) (va_up sMust (((cN t) * 6) + (sLen (cN t))) b) rTab rFil mNum rLen rItm made pItm held dByt dLen false fAdr fTab adr tab lf 0 row mWr mWid mOv mPl mTh mSp mPile mNext mSh mShs mRea mWg mEn mDp mAt mTb mSt) := hD
                    have hup : (va_up sLen (cN t) ((sLen (cN t)) + 1)) (cN t) = sLen (cN t) + 1 := va_up_self _ _ _
                    refine lv_aload_n hx hb d_M_field_181 rfl (lv_at hl 2 rfl) ?_
                    refine va_get (D := D) (ci := 8) (C := R_M) (T := T_M) (N := 39) hx hb hts (fun w h => kT w (i_M w h)) hown hK hP 0 rfl rfl 1 (by decide) (hts _ (kT _ wd_4d2260e1)) (fun _ h9 => h9) rfl d_M_field_182 ?_
                    refine lv_iload_n hx hb d_M_field_185 rfl (lv_at hl 3 rfl) ?_
                    refine n_iald hx hb hK hP 1 0 rfl rfl (i := (cN t)) (by omega) (by decide) d_M_field_186 ?_
                    refine lv_iconst (v := nI 1) hx hb d_M_field_187 (by decide) ?_
                    refine lv_isub hx hb d_M_field_188 ?_
                    refine lv_eqi (pk_sub (by omega)) ?_
                    exact k_iret hx hb hr hlocks hK hP hD hS (trivial) (by rw [hcd, hup]; rfl) (by rw [hcd]; first | done | rfl) d_M_field_189
                  · skip
                    have c_119 := (nI_eq (by omega) (by omega)).mp c_119
                    have hcd : cdField sLen t k x b = 2 := by rw [hcd0, if_neg (by omega)]
                    refine lv_aload_n hx hb d_M_field_122 rfl (lv_at hl 1 rfl) ?_
                    refine lv_iconst (v := nI 2) hx hb d_M_field_123 (by decide) ?_
                    refine k_callV (m_raise l D am gm tw sLen sKind sExt sMust rTab rFil mNum rLen rItm made pItm held dByt dLen ver fAdr fTab adr tab lf 0 row mWr mWid mOv mPl mTh mSp mPile mNext mSh mShs mRea mWg mEn mDp mAt mTb mSt 2  ) m_M_raise wd_4b1468e4 0 8 rfl rfl rfl kT hx hb hml hown hts ⟨Nat.le_of_ble_eq_true rfl, Nat.le_of_ble_eq_true rfl⟩ ⟨Nat.le_of_ble_eq_true rfl, Nat.le_of_ble_eq_true rfl⟩ hK hP hD hS hA hZ hl.1 rfl rfl (Nat.le_of_ble_eq_true rfl) d_M_field_124 (fun H locs hP hD hS => ?_)
                    have hP : va_P D vwCl (Wm am gm sLen sKind sExt sMust rTab rFil mNum rLen rItm made pItm held dByt dLen ver fAdr fTab adr tab lf 2 row mWr mWid mOv mPl mTh mSp mPile mNext mSh mShs mRea mWg mEn mDp mAt mTb mSt) H := hP
                    have hD : va_D A (Wm am gm sLen sKind sExt sMust rTab rFil mNum rLen rItm made pItm held dByt dLen ver fAdr fTab adr tab lf 2 row mWr mWid mOv mPl mTh mSp mPile mNext mSh mShs mRea mWg mEn mDp mAt mTb mSt) := hD
                    refine W.eq (g2 := F0 m 127 ls [.int (nI 0)]) rfl ?_
                    exact k_iret hx hb hr hlocks hK hP hD hS (trivial) (by rw [hcd]; first | done | rfl) (by rw [hcd]; first | done | rfl) d_M_field_127
                · skip
                  have c_76 := (nI_eq (by omega) (by omega)).mp c_76
                  refine lv_iload_n hx hb d_M_field_79 rfl (lv_at hl 4 rfl) ?_
                  refine lv_sipush (v := -32768) hx hb d_M_field_80 (by decide) ?_
                  refine lv_icmp_lt (tgt := 93) hx hb d_M_field_83 (by decide) (fun c_83 => ?_) (fun c_83 => ?_)
                  · skip
                    refine lv_iconst (v := nI 1) hx hb d_M_field_93 (by decide) ?_
                    refine lv_goto (tgt := 98) hx hb d_M_field_94 (by decide) ?_
                    refine lv_istore (lv' := [(5, .int (nI 1)), (0, .ref (am 0)), (1, .int t), (2, .int (nI (cN k))), (3, .int x), (4, .int (bI b))]) hx hb d_M_field_98 hl (by decide) rfl (fun ls hl => ?_)
                    refine lv_iload hx hb d_M_field_100 (lv_at hl 0 rfl) ?_
                    refine lv_if_eq (tgt := 111) hx hb d_M_field_102 (by decide) (fun c_102 => absurd c_102 (by decide)) (fun _ => ?_)
                    have hcd : cdField sLen t k x b = 1 := cdF_1c (by rw [show cN k = 1 by omega]; exact suT_1n (Or.inl c_83))
                    refine lv_aload_n hx hb d_M_field_105 rfl (lv_at hl 1 rfl) ?_
                    refine lv_iconst (v := nI 1) hx hb d_M_field_106 (by decide) ?_
                    refine k_callV (m_raise l D am gm tw sLen sKind sExt sMust rTab rFil mNum rLen rItm made pItm held dByt dLen ver fAdr fTab adr tab lf 0 row mWr mWid mOv mPl mTh mSp mPile mNext mSh mShs mRea mWg mEn mDp mAt mTb mSt 1  ) m_M_raise wd_4b1468e4 0 8 rfl rfl rfl kT hx hb hml hown hts ⟨Nat.le_of_ble_eq_true rfl, Nat.le_of_ble_eq_true rfl⟩ ⟨Nat.le_of_ble_eq_true rfl, Nat.le_of_ble_eq_true rfl⟩ hK hP hD hS hA hZ hl.1 rfl rfl (Nat.le_of_ble_eq_true rfl) d_M_field_107 (fun H locs hP hD hS => ?_)
                    have hP : va_P D vwCl (Wm am gm sLen sKind sExt sMust rTab rFil mNum rLen rItm made pItm held dByt dLen ver fAdr fTab adr tab lf 1 row mWr mWid mOv mPl mTh mSp mPile mNext mSh mShs mRea mWg mEn mDp mAt mTb mSt) H := hP
                    have hD : va_D A (Wm am gm sLen sKind sExt sMust rTab rFil mNum rLen rItm made pItm held dByt dLen ver fAdr fTab adr tab lf 1 row mWr mWid mOv mPl mTh mSp mPile mNext mSh mShs mRea mWg mEn mDp mAt mTb mSt) := hD
                    refine W.eq (g2 := F0 m 110 ls [.int (nI 0)]) rfl ?_
                    exact k_iret hx hb hr hlocks hK hP hD hS (trivial) (by rw [hcd]; first | done | rfl) (by rw [hcd]; first | done | rfl) d_M_field_110
                  · skip
                    refine lv_iload_n hx hb d_M_field_86 rfl (lv_at hl 4 rfl) ?_
                    refine lv_sipush (v := nI 32767) hx hb d_M_field_87 (by decide) ?_
                    refine lv_icmp_le (tgt := 97) hx hb d_M_field_90 (by decide) (fun c_90 => ?_) (fun c_90 => ?_)
                    · skip
                      refine lv_iconst (v := nI 0) hx hb d_M_field_97 (by decide) ?_
                      refine lv_istore (lv' := [(5, .int (nI 0)), (0, .ref (am 0)), (1, .int t), (2, .int (nI (cN k))), (3, .int x), (4, .int (bI b))]) hx hb d_M_field_98 hl (by decide) rfl (fun ls hl => ?_)
                      refine lv_iload hx hb d_M_field_100 (lv_at hl 0 rfl) ?_
                      refine lv_if_eq (tgt := 111) hx hb d_M_field_102 (by decide) (fun _ => ?_) (fun c_102 => absurd (by decide) c_102)
                      have hcd0 : cdField sLen t k x b = if sLen (cN t) < 6 then 0 else 2 := cdF_2 (t_y c_10) (o_y c_19) (by rw [show cN k = 0 by omega]; exact suT_0 c_65 (i_le c_71)) (fun z => absurd z.2 (by omega))
                      obtain ⟨n_t, b_t⟩ := okT_spec (t_y c_10)
                      have hl : lv_has ls 7 [(5, .int (nI 0)), (0, .ref (am 0)), (1, .int (nI (cN t))), (2, .int (nI (cN k))), (3, .int x), (4, .int (bI b))] := by rw [← n_t]; exact hl
                      have hL1 := hL (cN t)
                      refine lv_aload_n hx hb d_M_field_111 rfl (lv_at hl 1 rfl) ?_
                      refine va_get (D := D) (ci := 8) (C := R_M) (T := T_M) (N := 39) hx hb hts (fun w h => kT w (i_M w h)) hown hK hP 0 rfl rfl 1 (by decide) (hts _ (kT _ wd_4d2260e1)) (fun _ h9 => h9) rfl d_M_field_112 ?_
                      refine lv_iload_n hx hb d_M_field_115 rfl (lv_at hl 2 rfl) ?_
                      refine n_iald hx hb hK hP 1 0 rfl rfl (i := (cN t)) (by omega) (by decide) d_M_field_116 ?_
                      refine lv_bipush (v := nI 6) hx hb d_M_field_117 (by decide) ?_
                      refine lv_icmp_ne (tgt := 128) hx hb d_M_field_119 (by decide) (fun c_119 => ?_) (fun c_119 => ?_)
                      · skip
                        have c_119 := mt (nI_eq (by omega) (by omega)).mpr c_119
                        have hcd : cdField sLen t k x b = 0 := by rw [hcd0, if_pos (by omega)]
                        refine lv_bipush (v := nI 6) hx hb d_M_field_128 (by decide) ?_
                        refine lv_iload_n hx hb d_M_field_130 rfl (lv_at hl 2 rfl) ?_
                        refine lv_imul hx hb d_M_field_131 ?_
                        refine lv_eqi ((pk_mul _ _).trans (nI_congr (Nat.mul_comm _ _))) ?_
                        refine lv_aload_n hx hb d_M_field_132 rfl (lv_at hl 1 rfl) ?_
                        refine va_get (D := D) (ci := 8) (C := R_M) (T := T_M) (N := 39) hx hb hts (fun w h => kT w (i_M w h)) hown hK hP 0 rfl rfl 1 (by decide) (hts _ (kT _ wd_4d2260e1)) (fun _ h9 => h9) rfl d_M_field_133 ?_
                        refine lv_iload_n hx hb d_M_field_136 rfl (lv_at hl 2 rfl) ?_
                        refine n_iald hx hb hK hP 1 0 rfl rfl (i := (cN t)) (by omega) (by decide) d_M_field_137 ?_
                        refine lv_iadd hx hb d_M_field_138 ?_
                        refine lv_eqi (nI_add _ _) ?_
                        refine lv_istore (lv' := [(6, .int (nI (((cN t) * 6) + (sLen (cN t))))), (5, .int (nI 0)), (0, .ref (am 0)), (1, .int (nI (cN t))), (2, .int (nI (cN k))), (3, .int x), (4, .int (bI b))]) hx hb d_M_field_139 hl (by decide) rfl (fun ls hl => ?_)
                        refine lv_aload_n hx hb d_M_field_141 rfl (lv_at hl 2 rfl) ?_
                        refine va_get (D := D) (ci := 8) (C := R_M) (T := T_M) (N := 39) hx hb hts (fun w h => kT w (i_M w h)) hown hK hP 0 rfl rfl 2 (by decide) (hts _ (kT _ wd_91f4763a)) (fun _ h9 => h9) rfl d_M_field_142 ?_
                        refine lv_iload hx hb d_M_field_145 (lv_at hl 0 rfl) ?_
                        refine lv_iload_n hx hb d_M_field_147 rfl (lv_at hl 4 rfl) ?_
                        refine n_iast hx hb hK hP hD hS 2 1 rfl rfl (i := (((cN t) * 6) + (sLen (cN t)))) (by omega) (by decide) d_M_field_148 (fun H locs hP hD hS => ?_)
                        have hP : va_P D vwCl (Wm am gm sLen (va_up sKind (((cN t) * 6) + (sLen (cN t))) (cN k)) sExt sMust rTab rFil mNum rLen rItm made pItm held dByt dLen ver fAdr fTab adr tab lf 0 row mWr mWid mOv mPl mTh mSp mPile mNext mSh mShs mRea mWg mEn mDp mAt mTb mSt) H := hP
                        have hD : va_D A (Wm am gm sLen (va_up sKind (((cN t) * 6) + (sLen (cN t))) (cN k)) sExt sMust rTab rFil mNum rLen rItm made pItm held dByt dLen ver fAdr fTab adr tab lf 0 row mWr mWid mOv mPl mTh mSp mPile mNext mSh mShs mRea mWg mEn mDp mAt mTb mSt) := hD
                        refine lv_aload_n hx hb d_M_field_149 rfl (lv_at hl 2 rfl) ?_
                        refine va_get (D := D) (ci := 8) (C := R_M) (T := T_M) (N := 39) hx hb hts (fun w h => kT w (i_M w h)) hown hK hP 0 rfl rfl 3 (by decide) (hts _ (kT _ wd_74a62eb0)) (fun _ h9 => h9) rfl d_M_field_150 ?_
                        refine lv_iload hx hb d_M_field_153 (lv_at hl 0 rfl) ?_
                        refine lv_iload_n hx hb d_M_field_155 rfl (lv_at hl 5 rfl) ?_
                        refine r_iast hx hb hK hP hD hS 3 2 rfl rfl (i := (((cN t) * 6) + (sLen (cN t)))) (by omega) (by decide) d_M_field_156 (fun H locs hP hD hS => ?_)
                        have hP : va_P D vwCl (Wm am gm sLen (va_up sKind (((cN t) * 6) + (sLen (cN t))) (cN k)) (upd sExt (((cN t) * 6) + (sLen (cN t))) x) sMust rTab rFil mNum rLen rItm made pItm held dByt dLen ver fAdr fTab adr tab lf 0 row mWr mWid mOv mPl mTh mSp mPile mNext mSh mShs mRea mWg mEn mDp mAt mTb mSt) H := hP
                        have hD : va_D A (Wm am gm sLen (va_up sKind (((cN t) * 6) + (sLen (cN t))) (cN k)) (upd sExt (((cN t) * 6) + (sLen (cN t))) x) sMust rTab rFil mNum rLen rItm made pItm held dByt dLen ver fAdr fTab adr tab lf 0 row mWr mWid mOv mPl mTh mSp mPile mNext mSh mShs mRea mWg mEn mDp mAt mTb mSt) := hD
                        refine lv_aload_n hx hb d_M_field_157 rfl (lv_at hl 2 rfl) ?_
                        refine va_get (D := D) (ci := 8) (C := R_M) (T := T_M) (N := 39) hx hb hts (fun w h => kT w (i_M w h)) hown hK hP 0 rfl rfl 4 (by decide) (hts _ (kT _ wd_de26f6e3)) (fun _ h9 => h9) rfl d_M_field_158 ?_
                        refine lv_iload hx hb d_M_field_161 (lv_at hl 0 rfl) ?_
                        refine lv_iload hx hb d_M_field_163 (lv_at hl 6 rfl) ?_
                        refine z_zast hx hb hK hP hD hS 4 3 rfl rfl (i := (((cN t) * 6) + (sLen (cN t)))) (by omega) (by decide) d_M_field_165 (fun H locs hP hD hS => ?_)
                        have hP : va_P D vwCl (Wm am gm sLen (va_up sKind (((cN t) * 6) + (sLen (cN t))) (cN k)) (upd sExt (((cN t) * 6) + (sLen (cN t))) x) (va_up sMust (((cN t) * 6) + (sLen (cN t))) b) rTab rFil mNum rLen rItm made pItm held dByt dLen ver fAdr fTab adr tab lf 0 row mWr mWid mOv mPl mTh mSp mPile mNext mSh mShs mRea mWg mEn mDp mAt mTb mSt) H := hP
                        have hD : va_D A (Wm am gm sLen (va_up sKind (((cN t) * 6) + (sLen (cN t))) (cN k)) (upd sExt (((cN t) * 6) + (sLen (cN t))) x) (va_up sMust (((cN t) * 6) + (sLen (cN t))) b) rTab rFil mNum rLen rItm made pItm held dByt dLen ver fAdr fTab adr tab lf 0 row mWr mWid mOv mPl mTh mSp mPile mNext mSh mShs mRea mWg mEn mDp mAt mTb mSt) := hD
                        refine lv_aload_n hx hb d_M_field_166 rfl (lv_at hl 2 rfl) ?_
                        refine va_get (D := D) (ci := 8) (C := R_M) (T := T_M) (N := 39) hx hb hts (fun w h => kT w (i_M w h)) hown hK hP 0 rfl rfl 1 (by decide) (hts _ (kT _ wd_4d2260e1)) (fun _ h9 => h9) rfl d_M_field_167 ?_
                        refine lv_iload_n hx hb d_M_field_170 rfl (lv_at hl 3 rfl) ?_
                        refine lv_dup2_11 hx hb d_M_field_171 rfl rfl ?_
                        refine n_iald hx hb hK hP 1 0 rfl rfl (i := (cN t)) (by omega) (by decide) d_M_field_172 ?_
                        refine lv_iconst (v := nI 1) hx hb d_M_field_173 (by decide) ?_
                        refine lv_iadd hx hb d_M_field_174 ?_
                        refine lv_eqi (nI_add _ _) ?_
                        refine n_iast hx hb hK hP hD hS 1 0 rfl rfl (i := (cN t)) (by omega) (by decide) d_M_field_175 (fun H locs hP hD hS => ?_)
                        have hP : va_P D vwCl (Wm am gm (va_up sLen (cN t) ((sLen (cN t)) + 1)) (va_up sKind (((cN t) * 6) + (sLen (cN t))) (cN k)) (upd sExt (((cN t) * 6) + (sLen (cN t))) x) (va_up sMust (((cN t) * 6) + (sLen (cN t))) b) rTab rFil mNum rLen rItm made pItm held dByt dLen ver fAdr fTab adr tab lf 0 row mWr mWid mOv mPl mTh mSp mPile mNext mSh mShs mRea mWg mEn mDp mAt mTb mSt) H := hP
                        have hD : va_D A (Wm am gm (va_up sLen (cN t) ((sLen (cN t)) + 1)) (va_up sKind (((cN t) * 6) + (sLen (cN t))) (cN k)) (upd sExt (((cN t) * 6) + (sLen (cN t))) x) (va_up sMust (((cN t) * 6) + (sLen (cN t))) b) rTab rFil mNum rLen rItm made pItm held dByt dLen ver fAdr fTab adr tab lf 0 row mWr mWid mOv mPl mTh mSp mPile mNext mSh mShs mRea mWg mEn mDp mAt mTb mSt) := hD
                        refine lv_aload_n hx hb d_M_field_176 rfl (lv_at hl 2 rfl) ?_
                        refine lv_iconst (v := nI 0) hx hb d_M_field_177 (by decide) ?_
                        refine lv_eqi (show nI 0 = bI false by decide) ?_
                        refine va_put (D := D) (ci := 8) (ty := .boolean) (C := R_M) (T := T_M) (N := 39) hx hb hts (fun w h => kT w (i_M w h)) ty_M tyk_M nm_M hown hK hP hD hS 0 rfl rfl 27 (by decide) (hts _ (kT _ wd_a47358da)) (fun _ h9 => h9) rfl (by decide +kernel) (bI_nar _) (bI_fits _) (Nat.le_of_ble_eq_true rfl) d_M_field_178 (fun H locs hP hD hS => ?_)
                        have hP : va_P D vwCl (Wm am gm (va_up sLen (cN t) ((sLen (cN t)) + 1)) (va_up sKind (((cN t) * 6) + (sLen (cN t))) (cN k)) (upd sExt (((cN t) * 6) + (sLen (cN t))) x) (va_up sMust (((cN t) * 6) + (sLen (cN t))) b) rTab rFil mNum rLen rItm made pItm held dByt dLen false fAdr fTab adr tab lf 0 row mWr mWid mOv mPl mTh mSp mPile mNext mSh mShs mRea mWg mEn mDp mAt mTb mSt) H := hP
                        have hD : va_D A (Wm am gm (va_up sLen (cN t) ((sLen (cN t)) + 1)) (va_up sKind (((cN t) * 6) + (sLen (cN t))) (cN k)) (upd sExt (((cN t) * 6) + (sLen (cN t))) x) (va_up sMust (((cN t) * 6) + (sLen (cN t))) b) rTab rFil mNum rLen rItm made pItm held dByt dLen false fAdr fTab adr tab lf 0 row mWr mWid mOv mPl mTh mSp mPile mNext mSh mShs mRea mWg mEn mDp mAt mTb mSt) := hD
                        have hup : (va_up sLen (cN t) ((sLen (cN t)) + 1)) (cN t) = sLen (cN t) + 1 := va_up_self _ _ _
                        refine lv_aload_n hx hb d_M_field_181 rfl (lv_at hl 2 rfl) ?_
                        refine va_get (D := D) (ci := 8) (C := R_M) (T := T_M) (N := 39) hx hb hts (fun w h => kT w (i_M w h)) hown hK hP 0 rfl rfl 1 (by decide) (hts _ (kT _ wd_4d2260e1)) (fun _ h9 => h9) rfl d_M_field_182 ?_
                        refine lv_iload_n hx hb d_M_field_185 rfl (lv_at hl 3 rfl) ?_
                        refine n_iald hx hb hK hP 1 0 rfl rfl (i := (cN t)) (by omega) (by decide) d_M_field_186 ?_
                        refine lv_iconst (v := nI 1) hx hb d_M_field_187 (by decide) ?_
                        refine lv_isub hx hb d_M_field_188 ?_
                        refine lv_eqi (pk_sub (by omega)) ?_
                        exact k_iret hx hb hr hlocks hK hP hD hS (trivial) (by rw [hcd, hup]; rfl) (by rw [hcd]; first | done | rfl) d_M_field_189
                      · skip
                        have c_119 := (nI_eq (by omega) (by omega)).mp c_119
                        have hcd : cdField sLen t k x b = 2 := by rw [hcd0, if_neg (by omega)]
                        refine lv_aload_n hx hb d_M_field_122 rfl (lv_at hl 1 rfl) ?_
                        refine lv_iconst (v := nI 2) hx hb d_M_field_123 (by decide) ?_
                        refine k_callV (m_raise l D am gm tw sLen sKind sExt sMust rTab rFil mNum rLen rItm made pItm held dByt dLen ver fAdr fTab adr tab lf 0 row mWr mWid mOv mPl mTh mSp mPile mNext mSh mShs mRea mWg mEn mDp mAt mTb mSt 2  ) m_M_raise wd_4b1468e4 0 8 rfl rfl rfl kT hx hb hml hown hts ⟨Nat.le_of_ble_eq_true rfl, Nat.le_of_ble_eq_true rfl⟩ ⟨Nat.le_of_ble_eq_true rfl, Nat.le_of_ble_eq_true rfl⟩ hK hP hD hS hA hZ hl.1 rfl rfl (Nat.le_of_ble_eq_true rfl) d_M_field_124 (fun H locs hP hD hS => ?_)
                        have hP : va_P D vwCl (Wm am gm sLen sKind sExt sMust rTab rFil mNum rLen rItm made pItm held dByt dLen ver fAdr fTab adr tab lf 2 row mWr mWid mOv mPl mTh mSp mPile mNext mSh mShs mRea mWg mEn mDp mAt mTb mSt) H := hP
                        have hD : va_D A (Wm am gm sLen sKind sExt sMust rTab rFil mNum rLen rItm made pItm held dByt dLen ver fAdr fTab adr tab lf 2 row mWr mWid mOv mPl mTh mSp mPile mNext mSh mShs mRea mWg mEn mDp mAt mTb mSt) := hD
                        refine W.eq (g2 := F0 m 127 ls [.int (nI 0)]) rfl ?_
                        exact k_iret hx hb hr hlocks hK hP hD hS (trivial) (by rw [hcd]; first | done | rfl) (by rw [hcd]; first | done | rfl) d_M_field_127
                    · skip
                      refine lv_iconst (v := nI 1) hx hb d_M_field_93 (by decide) ?_
                      refine lv_goto (tgt := 98) hx hb d_M_field_94 (by decide) ?_
                      refine lv_istore (lv' := [(5, .int (nI 1)), (0, .ref (am 0)), (1, .int t), (2, .int (nI (cN k))), (3, .int x), (4, .int (bI b))]) hx hb d_M_field_98 hl (by decide) rfl (fun ls hl => ?_)
                      refine lv_iload hx hb d_M_field_100 (lv_at hl 0 rfl) ?_
                      refine lv_if_eq (tgt := 111) hx hb d_M_field_102 (by decide) (fun c_102 => absurd c_102 (by decide)) (fun _ => ?_)
                      have hcd : cdField sLen t k x b = 1 := cdF_1c (by rw [show cN k = 1 by omega]; exact suT_1n (Or.inr (i_lt c_90)))
                      refine lv_aload_n hx hb d_M_field_105 rfl (lv_at hl 1 rfl) ?_
                      refine lv_iconst (v := nI 1) hx hb d_M_field_106 (by decide) ?_
                      refine k_callV (m_raise l D am gm tw sLen sKind sExt sMust rTab rFil mNum rLen rItm made pItm held dByt dLen ver fAdr fTab adr tab lf 0 row mWr mWid mOv mPl mTh mSp mPile mNext mSh mShs mRea mWg mEn mDp mAt mTb mSt 1  ) m_M_raise wd_4b1468e4 0 8 rfl rfl rfl kT hx hb hml hown hts ⟨Nat.le_of_ble_eq_true rfl, Nat.le_of_ble_eq_true rfl⟩ ⟨Nat.le_of_ble_eq_true rfl, Nat.le_of_ble_eq_true rfl⟩ hK hP hD hS hA hZ hl.1 rfl rfl (Nat.le_of_ble_eq_true rfl) d_M_field_107 (fun H locs hP hD hS => ?_)
                      have hP : va_P D vwCl (Wm am gm sLen sKind sExt sMust rTab rFil mNum rLen rItm made pItm held dByt dLen ver fAdr fTab adr tab lf 1 row mWr mWid mOv mPl mTh mSp mPile mNext mSh mShs mRea mWg mEn mDp mAt mTb mSt) H := hP
                      have hD : va_D A (Wm am gm sLen sKind sExt sMust rTab rFil mNum rLen rItm made pItm held dByt dLen ver fAdr fTab adr tab lf 1 row mWr mWid mOv mPl mTh mSp mPile mNext mSh mShs mRea mWg mEn mDp mAt mTb mSt) := hD
                      refine W.eq (g2 := F0 m 110 ls [.int (nI 0)]) rfl ?_
                      exact k_iret hx hb hr hlocks hK hP hD hS (trivial) (by rw [hcd]; first | done | rfl) (by rw [hcd]; first | done | rfl) d_M_field_110
        · skip
          have c_35 := (nI_eq (by omega) (by omega)).mp c_35
          refine lv_iload_n hx hb d_M_field_38 rfl (lv_at hl 3 rfl) ?_
          refine lv_iconst (v := nI 3) hx hb d_M_field_39 (by decide) ?_
          refine k_callS (m_out l D am gm tw sLen sKind sExt sMust rTab rFil mNum rLen rItm made pItm held dByt dLen ver fAdr fTab adr tab lf 0 row mWr mWid mOv mPl mTh mSp mPile mNext mSh mShs mRea mWg mEn mDp mAt mTb mSt x (nI 3)  ) m_M_out wd_0c68f9ea kT hx hb hml hown hts ⟨Nat.le_of_ble_eq_true rfl, Nat.le_of_ble_eq_true rfl⟩ ⟨Nat.le_of_ble_eq_true rfl, Nat.le_of_ble_eq_true rfl⟩ hK hP hD hS hA hZ hl.1 rfl rfl (Nat.le_of_ble_eq_true rfl) d_M_field_40 (fun H locs hP hD hS => ?_)
          have hP : va_P D vwCl (Wm am gm sLen sKind sExt sMust rTab rFil mNum rLen rItm made pItm held dByt dLen ver fAdr fTab adr tab lf 0 row mWr mWid mOv mPl mTh mSp mPile mNext mSh mShs mRea mWg mEn mDp mAt mTb mSt) H := hP
          have hD : va_D A (Wm am gm sLen sKind sExt sMust rTab rFil mNum rLen rItm made pItm held dByt dLen ver fAdr fTab adr tab lf 0 row mWr mWid mOv mPl mTh mSp mPile mNext mSh mShs mRea mWg mEn mDp mAt mTb mSt) := hD
          refine W.eq (g2 := F0 m 43 ls [.int (bI (outB x (nI 3)))]) rfl ?_
          refine lv_if_eq (tgt := 50) hx hb d_M_field_43 (by decide) (fun c_43 => ?_) (fun c_43 => ?_)
          · skip
            have c_43 := (bI_0).mp c_43
            refine lv_iconst (v := nI 0) hx hb d_M_field_50 (by decide) ?_
            refine lv_istore (lv' := [(5, .int (nI 0)), (0, .ref (am 0)), (1, .int t), (2, .int (nI (cN k))), (3, .int x), (4, .int (bI b))]) hx hb d_M_field_51 hl (by decide) rfl (fun ls hl => ?_)
            refine lv_iload hx hb d_M_field_53 (lv_at hl 0 rfl) ?_
            refine lv_if_ne (tgt := 93) hx hb d_M_field_55 (by decide) (fun c_55 => absurd (by decide) c_55) (fun _ => ?_)
            refine lv_iload_n hx hb d_M_field_58 rfl (lv_at hl 3 rfl) ?_
            refine lv_if_ne (tgt := 74) hx hb d_M_field_59 (by decide) (fun c_59 => ?_) (fun c_59 => ?_)
            · skip
              have c_59 := mt (z_eq (by omega)).mpr c_59
              refine lv_iload_n hx hb d_M_field_74 rfl (lv_at hl 3 rfl) ?_
              refine lv_iconst (v := nI 1) hx hb d_M_field_75 (by decide) ?_
              refine lv_icmp_ne (tgt := 97) hx hb d_M_field_76 (by decide) (fun c_76 => ?_) (fun c_76 => ?_)
              · skip
                have c_76 := mt (nI_eq (by omega) (by omega)).mpr c_76
                refine lv_iconst (v := nI 0) hx hb d_M_field_97 (by decide) ?_
                refine lv_istore (lv' := [(5, .int (nI 0)), (0, .ref (am 0)), (1, .int t), (2, .int (nI (cN k))), (3, .int x), (4, .int (bI b))]) hx hb d_M_field_98 hl (by decide) rfl (fun ls hl => ?_)
                refine lv_iload hx hb d_M_field_100 (lv_at hl 0 rfl) ?_
                refine lv_if_eq (tgt := 111) hx hb d_M_field_102 (by decide) (fun _ => ?_) (fun c_102 => absurd (by decide) c_102)
                have hcd0 : cdField sLen t k x b = if sLen (cN t) < 6 then 0 else 2 := cdF_2 (t_y c_10) (o_y c_19) (by rw [show cN k = 6 by omega, suT_6]; exact t_y c_43) (fun z => absurd z.2 (by omega))
                obtain ⟨n_t, b_t⟩ := okT_spec (t_y c_10)
                have hl : lv_has ls 7 [(5, .int (nI 0)), (0, .ref (am 0)), (1, .int (nI (cN t))), (2, .int (nI (cN k))), (3, .int x), (4, .int (bI b))] := by rw [← n_t]; exact hl
                have hL1 := hL (cN t)
                refine lv_aload_n hx hb d_M_field_111 rfl (lv_at hl 1 rfl) ?_
                refine va_get (D := D) (ci := 8) (C := R_M) (T := T_M) (N := 39) hx hb hts (fun w h => kT w (i_M w h)) hown hK hP 0 rfl rfl 1 (by decide) (hts _ (kT _ wd_4d2260e1)) (fun _ h9 => h9) rfl d_M_field_112 ?_
                refine lv_iload_n hx hb d_M_field_115 rfl (lv_at hl 2 rfl) ?_
                refine n_iald hx hb hK hP 1 0 rfl rfl (i := (cN t)) (by omega) (by decide) d_M_field_116 ?_
                refine lv_bipush (v := nI 6) hx hb d_M_field_117 (by decide) ?_
                refine lv_icmp_ne (tgt := 128) hx hb d_M_field_119 (by decide) (fun c_119 => ?_) (fun c_119 => ?_)
                · skip
                  have c_119 := mt (nI_eq (by omega) (by omega)).mpr c_119
                  have hcd : cdField sLen t k x b = 0 := by rw [hcd0, if_pos (by omega)]
                  refine lv_bipush (v := nI 6) hx hb d_M_field_128 (by decide) ?_
                  refine lv_iload_n hx hb d_M_field_130 rfl (lv_at hl 2 rfl) ?_
                  refine lv_imul hx hb d_M_field_131 ?_
                  refine lv_eqi ((pk_mul _ _).trans (nI_congr (Nat.mul_comm _ _))) ?_
                  refine lv_aload_n hx hb d_M_field_132 rfl (lv_at hl 1 rfl) ?_
                  refine va_get (D := D) (ci := 8) (C := R_M) (T := T_M) (N := 39) hx hb hts (fun w h => kT w (i_M w h)) hown hK hP 0 rfl rfl 1 (by decide) (hts _ (kT _ wd_4d2260e1)) (fun _ h9 => h9) rfl d_M_field_133 ?_
                  refine lv_iload_n hx hb d_M_field_136 rfl (lv_at hl 2 rfl) ?_
                  refine n_iald hx hb hK hP 1 0 rfl rfl (i := (cN t)) (by omega) (by decide) d_M_field_137 ?_
                  refine lv_iadd hx hb d_M_field_138 ?_
                  refine lv_eqi (nI_add _ _) ?_
                  refine lv_istore (lv' := [(6, .int (nI (((cN t) * 6) + (sLen (cN t))))), (5, .int (nI 0)), (0, .ref (am 0)), (1, .int (nI (cN t))), (2, .int (nI (cN k))), (3, .int x), (4, .int (bI b))]) hx hb d_M_field_139 hl (by decide) rfl (fun ls hl => ?_)
                  refine lv_aload_n hx hb d_M_field_141 rfl (lv_at hl 2 rfl) ?_
                  refine va_get (D := D) (ci := 8) (C := R_M) (T := T_M) (N := 39) hx hb hts (fun w h => kT w (i_M w h)) hown hK hP 0 rfl rfl 2 (by decide) (hts _ (kT _ wd_91f4763a)) (fun _ h9 => h9) rfl d_M_field_142 ?_
                  refine lv_iload hx hb d_M_field_145 (lv_at hl 0 rfl) ?_
                  refine lv_iload_n hx hb d_M_field_147 rfl (lv_at hl 4 rfl) ?_
                  refine n_iast hx hb hK hP hD hS 2 1 rfl rfl (i := (((cN t) * 6) + (sLen (cN t)))) (by omega) (by decide) d_M_field_148 (fun H locs hP hD hS => ?_)
                  have hP : va_P D vwCl (Wm am gm sLen (va_up sKind (((cN t) * 6) + (sLen (cN t))) (cN k)) sExt sMust rTab rFil mNum rLen rItm made pItm held dByt dLen ver fAdr fTab adr tab lf 0 row mWr mWid mOv mPl mTh mSp mPile mNext mSh mShs mRea mWg mEn mDp mAt mTb mSt) H := hP
                  have hD : va_D A (Wm am gm sLen (va_up sKind (((cN t) * 6) + (sLen (cN t))) (cN k)) sExt sMust rTab rFil mNum rLen rItm made pItm held dByt dLen ver fAdr fTab adr tab lf 0 row mWr mWid mOv mPl mTh mSp mPile mNext mSh mShs mRea mWg mEn mDp mAt mTb mSt) := hD
                  refine lv_aload_n hx hb d_M_field_149 rfl (lv_at hl 2 rfl) ?_
                  refine va_get (D := D) (ci := 8) (C := R_M) (T := T_M) (N := 39) hx hb hts (fun w h => kT w (i_M w h)) hown hK hP 0 rfl rfl 3 (by decide) (hts _ (kT _ wd_74a62eb0)) (fun _ h9 => h9) rfl d_M_field_150 ?_
                  refine lv_iload hx hb d_M_field_153 (lv_at hl 0 rfl) ?_
                  refine lv_iload_n hx hb d_M_field_155 rfl (lv_at hl 5 rfl) ?_
                  refine r_iast hx hb hK hP hD hS 3 2 rfl rfl (i := (((cN t) * 6) + (sLen (cN t)))) (by omega) (by decide) d_M_field_156 (fun H locs hP hD hS => ?_)
                  have hP : va_P D vwCl (Wm am gm sLen (va_up sKind (((cN t) * 6) + (sLen (cN t))) (cN k)) (upd sExt (((cN t) * 6) + (sLen (cN t))) x) sMust rTab rFil mNum rLen rItm made pItm held dByt dLen ver fAdr fTab adr tab lf 0 row mWr mWid mOv mPl mTh mSp mPile mNext mSh mShs mRea mWg mEn mDp mAt mTb mSt) H := hP
                  have hD : va_D A (Wm am gm sLen (va_up sKind (((cN t) * 6) + (sLen (cN t))) (cN k)) (upd sExt (((cN t) * 6) + (sLen (cN t))) x) sMust rTab rFil mNum rLen rItm made pItm held dByt dLen ver fAdr fTab adr tab lf 0 row mWr mWid mOv mPl mTh mSp mPile mNext mSh mShs mRea mWg mEn mDp mAt mTb mSt) := hD
                  refine lv_aload_n hx hb d_M_field_157 rfl (lv_at hl 2 rfl) ?_
                  refine va_get (D := D) (ci := 8) (C := R_M) (T := T_M) (N := 39) hx hb hts (fun w h => kT w (i_M w h)) hown hK hP 0 rfl rfl 4 (by decide) (hts _ (kT _ wd_de26f6e3)) (fun _ h9 => h9) rfl d_M_field_158 ?_
                  refine lv_iload hx hb d_M_field_161 (lv_at hl 0 rfl) ?_
                  refine lv_iload hx hb d_M_field_163 (lv_at hl 6 rfl) ?_
                  refine z_zast hx hb hK hP hD hS 4 3 rfl rfl (i := (((cN t) * 6) + (sLen (cN t)))) (by omega) (by decide) d_M_field_165 (fun H locs hP hD hS => ?_)
                  have hP : va_P D vwCl (Wm am gm sLen (va_up sKind (((cN t) * 6) + (sLen (cN t))) (cN k)) (upd sExt (((cN t) * 6) + (sLen (cN t))) x) (va_up sMust (((cN t) * 6) + (sLen (cN t))) b) rTab rFil mNum rLen rItm made pItm held dByt dLen ver fAdr fTab adr tab lf 0 row mWr mWid mOv mPl mTh mSp mPile mNext mSh mShs mRea mWg mEn mDp mAt mTb mSt) H := hP
                  have hD : va_D A (Wm am gm sLen (va_up sKind (((cN t) * 6) + (sLen (cN t))) (cN k)) (upd sExt (((cN t) * 6) + (sLen (cN t))) x) (va_up sMust (((cN t) * 6) + (sLen (cN t))) b) rTab rFil mNum rLen rItm made pItm held dByt dLen ver fAdr fTab adr tab lf 0 row mWr mWid mOv mPl mTh mSp mPile mNext mSh mShs mRea mWg mEn mDp mAt mTb mSt) := hD
                  refine lv_aload_n hx hb d_M_field_166 rfl (lv_at hl 2 rfl) ?_
                  refine va_get (D := D) (ci := 8) (C := R_M) (T := T_M) (N := 39) hx hb hts (fun w h => kT w (i_M w h)) hown hK hP 0 rfl rfl 1 (by decide) (hts _ (kT _ wd_4d2260e1)) (fun _ h9 => h9) rfl d_M_field_167 ?_
                  refine lv_iload_n hx hb d_M_field_170 rfl (lv_at hl 3 rfl) ?_
                  refine lv_dup2_11 hx hb d_M_field_171 rfl rfl ?_
                  refine n_iald hx hb hK hP 1 0 rfl rfl (i := (cN t)) (by omega) (by decide) d_M_field_172 ?_
                  refine lv_iconst (v := nI 1) hx hb d_M_field_173 (by decide) ?_
                  refine lv_iadd hx hb d_M_field_174 ?_
                  refine lv_eqi (nI_add _ _) ?_
                  refine n_iast hx hb hK hP hD hS 1 0 rfl rfl (i := (cN t)) (by omega) (by decide) d_M_field_175 (fun H locs hP hD hS => ?_)
                  have hP : va_P D vwCl (Wm am gm (va_up sLen (cN t) ((sLen (cN t)) + 1)) (va_up sKind (((cN t) * 6) + (sLen (cN t))) (cN k)) (upd sExt (((cN t) * 6) + (sLen (cN t))) x) (va_up sMust (((cN t) * 6) + (sLen (cN t))) b) rTab rFil mNum rLen rItm made pItm held dByt dLen ver fAdr fTab adr tab lf 0 row mWr mWid mOv mPl mTh mSp mPile mNext mSh mShs mRea mWg mEn mDp mAt mTb mSt) H := hP
                  have hD : va_D A (Wm am gm (va_up sLen (cN t) ((sLen (cN t)) + 1)) (va_up sKind (((cN t) * 6) + (sLen (cN t))) (cN k)) (upd sExt (((cN t) * 6) + (sLen (cN t))) x) (va_up sMust (((cN t) * 6) + (sLen (cN t))) b) rTab rFil mNum rLen rItm made pItm held dByt dLen ver fAdr fTab adr tab lf 0 row mWr mWid mOv mPl mTh mSp mPile mNext mSh mShs mRea mWg mEn mDp mAt mTb mSt) := hD
                  refine lv_aload_n hx hb d_M_field_176 rfl (lv_at hl 2 rfl) ?_
                  refine lv_iconst (v := nI 0) hx hb d_M_field_177 (by decide) ?_
                  refine lv_eqi (show nI 0 = bI false by decide) ?_
                  refine va_put (D := D) (ci := 8) (ty := .boolean) (C := R_M) (T := T_M) (N := 39) hx hb hts (fun w h => kT w (i_M w h)) ty_M tyk_M nm_M hown hK hP hD hS 0 rfl rfl 27 (by decide) (hts _ (kT _ wd_a47358da)) (fun _ h9 => h9) rfl (by decide +kernel) (bI_nar _) (bI_fits _) (Nat.le_of_ble_eq_true rfl) d_M_field_178 (fun H locs hP hD hS => ?_)
                  have hP : va_P D vwCl (Wm am gm (va_up sLen (cN t) ((sLen (cN t)) + 1)) (va_up sKind (((cN t) * 6) + (sLen (cN t))) (cN k)) (upd sExt (((cN t) * 6) + (sLen (cN t))) x) (va_up sMust (((cN t) * 6) + (sLen (cN t))) b) rTab rFil mNum rLen rItm made pItm held dByt dLen false fAdr fTab adr tab lf 0 row mWr mWid mOv mPl mTh mSp mPile mNext mSh mShs mRea mWg mEn mDp mAt mTb mSt) H := hP
                  have hD : va_D A (Wm am gm (va_up sLen (cN t) ((sLen (cN t)) + 1)) (va_up sKind (((cN t) * 6) + (sLen (cN t))) (cN k)) (upd sExt (((cN t) * 6) + (sLen (cN t))) x) (va_up sMust (((cN t) * 6) + (sLen (cN t))) b) rTab rFil mNum rLen rItm made pItm held dByt dLen false fAdr fTab adr tab lf 0 row mWr mWid mOv mPl mTh mSp mPile mNext mSh mShs mRea mWg mEn mDp mAt mTb mSt) := hD
                  have hup : (va_up sLen (cN t) ((sLen (cN t)) + 1)) (cN t) = sLen (cN t) + 1 := va_up_self _ _ _
                  refine lv_aload_n hx hb d_M_field_181 rfl (lv_at hl 2 rfl) ?_
                  refine va_get (D := D) (ci := 8) (C := R_M) (T := T_M) (N := 39) hx hb hts (fun w h => kT w (i_M w h)) hown hK hP 0 rfl rfl 1 (by decide) (hts _ (kT _ wd_4d2260e1)) (fun _ h9 => h9) rfl d_M_field_182 ?_
                  refine lv_iload_n hx hb d_M_field_185 rfl (lv_at hl 3 rfl) ?_
                  refine n_iald hx hb hK hP 1 0 rfl rfl (i := (cN t)) (by omega) (by decide) d_M_field_186 ?_
                  refine lv_iconst (v := nI 1) hx hb d_M_field_187 (by decide) ?_
                  refine lv_isub hx hb d_M_field_188 ?_
                  refine lv_eqi (pk_sub (by omega)) ?_
                  exact k_iret hx hb hr hlocks hK hP hD hS (trivial) (by rw [hcd, hup]; rfl) (by rw [hcd]; first | done | rfl) d_M_field_189
                · skip
                  have c_119 := (nI_eq (by omega) (by omega)).mp c_119
                  have hcd : cdField sLen t k x b = 2 := by rw [hcd0, if_neg (by omega)]
                  refine lv_aload_n hx hb d_M_field_122 rfl (lv_at hl 1 rfl) ?_
                  refine lv_iconst (v := nI 2) hx hb d_M_field_123 (by decide) ?_
                  refine k_callV (m_raise l D am gm tw sLen sKind sExt sMust rTab rFil mNum rLen rItm made pItm held dByt dLen ver fAdr fTab adr tab lf 0 row mWr mWid mOv mPl mTh mSp mPile mNext mSh mShs mRea mWg mEn mDp mAt mTb mSt 2  ) m_M_raise wd_4b1468e4 0 8 rfl rfl rfl kT hx hb hml hown hts ⟨Nat.le_of_ble_eq_true rfl, Nat.le_of_ble_eq_true rfl⟩ ⟨Nat.le_of_ble_eq_true rfl, Nat.le_of_ble_eq_true rfl⟩ hK hP hD hS hA hZ hl.1 rfl rfl (Nat.le_of_ble_eq_true rfl) d_M_field_124 (fun H locs hP hD hS => ?_)
                  have hP : va_P D vwCl (Wm am gm sLen sKind sExt sMust rTab rFil mNum rLen rItm made pItm held dByt dLen ver fAdr fTab adr tab lf 2 row mWr mWid mOv mPl mTh mSp mPile mNext mSh mShs mRea mWg mEn mDp mAt mTb mSt) H := hP
                  have hD : va_D A (Wm am gm sLen sKind sExt sMust rTab rFil mNum rLen rItm made pItm held dByt dLen ver fAdr fTab adr tab lf 2 row mWr mWid mOv mPl mTh mSp mPile mNext mSh mShs mRea mWg mEn mDp mAt mTb mSt) := hD
                  refine W.eq (g2 := F0 m 127 ls [.int (nI 0)]) rfl ?_
                  exact k_iret hx hb hr hlocks hK hP hD hS (trivial) (by rw [hcd]; first | done | rfl) (by rw [hcd]; first | done | rfl) d_M_field_127
              · skip
                have c_76 := (nI_eq (by omega) (by omega)).mp c_76
                refine lv_iload_n hx hb d_M_field_79 rfl (lv_at hl 4 rfl) ?_
                refine lv_sipush (v := -32768) hx hb d_M_field_80 (by decide) ?_
                refine lv_icmp_lt (tgt := 93) hx hb d_M_field_83 (by decide) (fun c_83 => ?_) (fun c_83 => ?_)
                · skip
                  refine lv_iconst (v := nI 1) hx hb d_M_field_93 (by decide) ?_
                  refine lv_goto (tgt := 98) hx hb d_M_field_94 (by decide) ?_
                  refine lv_istore (lv' := [(5, .int (nI 1)), (0, .ref (am 0)), (1, .int t), (2, .int (nI (cN k))), (3, .int x), (4, .int (bI b))]) hx hb d_M_field_98 hl (by decide) rfl (fun ls hl => ?_)
                  refine lv_iload hx hb d_M_field_100 (lv_at hl 0 rfl) ?_
                  refine lv_if_eq (tgt := 111) hx hb d_M_field_102 (by decide) (fun c_102 => absurd c_102 (by decide)) (fun _ => ?_)
                  have hcd : cdField sLen t k x b = 1 := cdF_1c (by rw [show cN k = 1 by omega]; exact suT_1n (Or.inl c_83))
                  refine lv_aload_n hx hb d_M_field_105 rfl (lv_at hl 1 rfl) ?_
                  refine lv_iconst (v := nI 1) hx hb d_M_field_106 (by decide) ?_
                  refine k_callV (m_raise l D am gm tw sLen sKind sExt sMust rTab rFil mNum rLen rItm made pItm held dByt dLen ver fAdr fTab adr tab lf 0 row mWr mWid mOv mPl mTh mSp mPile mNext mSh mShs mRea mWg mEn mDp mAt mTb mSt 1  ) m_M_raise wd_4b1468e4 0 8 rfl rfl rfl kT hx hb hml hown hts ⟨Nat.le_of_ble_eq_true rfl, Nat.le_of_ble_eq_true rfl⟩ ⟨Nat.le_of_ble_eq_true rfl, Nat.le_of_ble_eq_true rfl⟩ hK hP hD hS hA hZ hl.1 rfl rfl (Nat.le_of_ble_eq_true rfl) d_M_field_107 (fun H locs hP hD hS => ?_)
                  have hP : va_P D vwCl (Wm am gm sLen sKind sExt sMust rTab rFil mNum rLen rItm made pItm held dByt dLen ver fAdr fTab adr tab lf 1 row mWr mWid mOv mPl mTh mSp mPile mNext mSh mShs mRea mWg mEn mDp mAt mTb mSt) H := hP
                  have hD : va_D A (Wm am gm sLen sKind sExt sMust rTab rFil mNum rLen rItm made pItm held dByt dLen ver fAdr fTab adr tab lf 1 row mWr mWid mOv mPl mTh mSp mPile mNext mSh mShs mRea mWg mEn mDp mAt mTb mSt) := hD
                  refine W.eq (g2 := F0 m 110 ls [.int (nI 0)]) rfl ?_
                  exact k_iret hx hb hr hlocks hK hP hD hS (trivial) (by rw [hcd]; first | done | rfl) (by rw [hcd]; first | done | rfl) d_M_field_110
                · skip
                  refine lv_iload_n hx hb d_M_field_86 rfl (lv_at hl 4 rfl) ?_
                  refine lv_sipush (v := nI 32767) hx hb d_M_field_87 (by decide) ?_
                  refine lv_icmp_le (tgt := 97) hx hb d_M_field_90 (by decide) (fun c_90 => ?_) (fun c_90 => ?_)
                  · skip
                    refine lv_iconst (v := nI 0) hx hb d_M_field_97 (by decide) ?_
                    refine lv_istore (lv' := [(5, .int (nI 0)), (0, .ref (am 0)), (1, .int t), (2, .int (nI (cN k))), (3, .int x), (4, .int (bI b))]) hx hb d_M_field_98 hl (by decide) rfl (fun ls hl => ?_)
                    refine lv_iload hx hb d_M_field_100 (lv_at hl 0 rfl) ?_
                    refine lv_if_eq (tgt := 111) hx hb d_M_field_102 (by decide) (fun _ => ?_) (fun c_102 => absurd (by decide) c_102)
                    have hcd0 : cdField sLen t k x b = if sLen (cN t) < 6 then 0 else 2 := cdF_2 (t_y c_10) (o_y c_19) (by rw [show cN k = 6 by omega, suT_6]; exact t_y c_43) (fun z => absurd z.2 (by omega))
                    obtain ⟨n_t, b_t⟩ := okT_spec (t_y c_10)
                    have hl : lv_has ls 7 [(5, .int (nI 0)), (0, .ref (am 0)), (1, .int (nI (cN t))), (2, .int (nI (cN k))), (3, .int x), (4, .int (bI b))] := by rw [← n_t]; exact hl
                    have hL1 := hL (cN t)
                    refine lv_aload_n hx hb d_M_field_111 rfl (lv_at hl 1 rfl) ?_
                    refine va_get (D := D) (ci := 8) (C := R_M) (T := T_M) (N := 39) hx hb hts (fun w h => kT w (i_M w h)) hown hK hP 0 rfl rfl 1 (by decide) (hts _ (kT _ wd_4d2260e1)) (fun _ h9 => h9) rfl d_M_field_112 ?_
                    refine lv_iload_n hx hb d_M_field_115 rfl (lv_at hl 2 rfl) ?_
                    refine n_iald hx hb hK hP 1 0 rfl rfl (i := (cN t)) (by omega) (by decide) d_M_field_116 ?_
                    refine lv_bipush (v := nI 6) hx hb d_M_field_117 (by decide) ?_
                    refine lv_icmp_ne (tgt := 128) hx hb d_M_field_119 (by decide) (fun c_119 => ?_) (fun c_119 => ?_)
                    · skip
                      have c_119 := mt (nI_eq (by omega) (by omega)).mpr c_119
                      have hcd : cdField sLen t k x b = 0 := by rw [hcd0, if_pos (by omega)]
                      refine lv_bipush (v := nI 6) hx hb d_M_field_128 (by decide) ?_
                      refine lv_iload_n hx hb d_M_field_130 rfl (lv_at hl 2 rfl) ?_
                      refine lv_imul hx hb d_M_field_131 ?_
                      refine lv_eqi ((pk_mul _ _).trans (nI_congr (Nat.mul_comm _ _))) ?_
                      refine lv_aload_n hx hb d_M_field_132 rfl (lv_at hl 1 rfl) ?_
                      refine va_get (D := D) (ci := 8) (C := R_M) (T := T_M) (N := 39) hx hb hts (fun w h => kT w (i_M w h)) hown hK hP 0 rfl rfl 1 (by decide) (hts _ (kT _ wd_4d2260e1)) (fun _ h9 => h9) rfl d_M_field_133 ?_
                      refine lv_iload_n hx hb d_M_field_136 rfl (lv_at hl 2 rfl) ?_
                      refine n_iald hx hb hK hP 1 0 rfl rfl (i := (cN t)) (by omega) (by decide) d_M_field_137 ?_
                      refine lv_iadd hx hb d_M_field_138 ?_
                      refine lv_eqi (nI_add _ _) ?_
                      refine lv_istore (lv' := [(6, .int (nI (((cN t) * 6) + (sLen (cN t))))), (5, .int (nI 0)), (0, .ref (am 0)), (1, .int (nI (cN t))), (2, .int (nI (cN k))), (3, .int x), (4, .int (bI b))]) hx hb d_M_field_139 hl (by decide) rfl (fun ls hl => ?_)
                      refine lv_aload_n hx hb d_M_field_141 rfl (lv_at hl 2 rfl) ?_
                      refine va_get (D := D) (ci := 8) (C := R_M) (T := T_M) (N := 39) hx hb hts (fun w h => kT w (i_M w h)) hown hK hP 0 rfl rfl 2 (by decide) (hts _ (kT _ wd_91f4763a)) (fun _ h9 => h9) rfl d_M_field_142 ?_
                      refine lv_iload hx hb d_M_field_145 (lv_at hl 0 rfl) ?_
                      refine lv_iload_n hx hb d_M_field_147 rfl (lv_at hl 4 rfl) ?_
                      refine n_iast hx hb hK hP hD hS 2 1 rfl rfl (i := (((cN t) * 6) + (sLen (cN t)))) (by omega) (by decide) d_M_field_148 (fun H locs hP hD hS => ?_)
                      have hP : va_P D vwCl (Wm am gm sLen (va_up sKind (((cN t) * 6) + (sLen (cN t))) (cN k)) sExt sMust rTab rFil mNum rLen rItm made pItm held dByt dLen ver fAdr fTab adr tab lf 0 row mWr mWid mOv mPl mTh mSp mPile mNext mSh mShs mRea mWg mEn mDp mAt mTb mSt) H := hP
                      have hD : va_D A (Wm am gm sLen (va_up sKind (((cN t) * 6) + (sLen (cN t))) (cN k)) sExt sMust rTab rFil mNum rLen rItm made pItm held dByt dLen ver fAdr fTab adr tab lf 0 row mWr mWid mOv mPl mTh mSp mPile mNext mSh mShs mRea mWg mEn mDp mAt mTb mSt) := hD
                      refine lv_aload_n hx hb d_M_field_149 rfl (lv_at hl 2 rfl) ?_
                      refine va_get (D := D) (ci := 8) (C := R_M) (T := T_M) (N := 39) hx hb hts (fun w h => kT w (i_M w h)) hown hK hP 0 rfl rfl 3 (by decide) (hts _ (kT _ wd_74a62eb0)) (fun _ h9 => h9) rfl d_M_field_150 ?_
                      refine lv_iload hx hb d_M_field_153 (lv_at hl 0 rfl) ?_
                      refine lv_iload_n hx hb d_M_field_155 rfl (lv_at hl 5 rfl) ?_
                      refine r_iast hx hb hK hP hD hS 3 2 rfl rfl (i := (((cN t) * 6) + (sLen (cN t)))) (by omega) (by decide) d_M_field_156 (fun H locs hP hD hS => ?_)
                      have hP : va_P D vwCl (Wm am gm sLen (va_up sKind (((cN t) * 6) + (sLen (cN t))) (cN k)) (upd sExt (((cN t) * 6) + (sLen (cN t))) x) sMust rTab rFil mNum rLen rItm made pItm held dByt dLen ver fAdr fTab adr tab lf 0 row mWr mWid mOv mPl mTh mSp mPile mNext mSh mShs mRea mWg mEn mDp mAt mTb mSt) H := hP
                      have hD : va_D A (Wm am gm sLen (va_up sKind (((cN t) * 6) + (sLen (cN t))) (cN k)) (upd sExt (((cN t) * 6) + (sLen (cN t))) x) sMust rTab rFil mNum rLen rItm made pItm held dByt dLen ver fAdr fTab adr tab lf 0 row mWr mWid mOv mPl mTh mSp mPile mNext mSh mShs mRea mWg mEn mDp mAt mTb mSt) := hD
                      refine lv_aload_n hx hb d_M_field_157 rfl (lv_at hl 2 rfl) ?_
                      refine va_get (D := D) (ci := 8) (C := R_M) (T := T_M) (N := 39) hx hb hts (fun w h => kT w (i_M w h)) hown hK hP 0 rfl rfl 4 (by decide) (hts _ (kT _ wd_de26f6e3)) (fun _ h9 => h9) rfl d_M_field_158 ?_
                      refine lv_iload hx hb d_M_field_161 (lv_at hl 0 rfl) ?_
                      refine lv_iload hx hb d_M_field_163 (lv_at hl 6 rfl) ?_
                      refine z_zast hx hb hK hP hD hS 4 3 rfl rfl (i := (((cN t) * 6) + (sLen (cN t)))) (by omega) (by decide) d_M_field_165 (fun H locs hP hD hS => ?_)
                      have hP : va_P D vwCl (Wm am gm sLen (va_up sKind (((cN t) * 6) + (sLen (cN t))) (cN k)) (upd sExt (((cN t) * 6) + (sLen (cN t))) x) (va_up sMust (((cN t) * 6) + (sLen (cN t))) b) rTab rFil mNum rLen rItm made pItm held dByt dLen ver fAdr fTab adr tab lf 0 row mWr mWid mOv mPl mTh mSp mPile mNext mSh mShs mRea mWg mEn mDp mAt mTb mSt) H := hP
                      have hD : va_D A (Wm am gm sLen (va_up sKind (((cN t) * 6) + (sLen (cN t))) (cN k)) (upd sExt (((cN t) * 6) + (sLen (cN t))) x) (va_up sMust (((cN t) * 6) + (sLen (cN t))) b) rTab rFil mNum rLen rItm made pItm held dByt dLen ver fAdr fTab adr tab lf 0 row mWr mWid mOv mPl mTh mSp mPile mNext mSh mShs mRea mWg mEn mDp mAt mTb mSt) := hD
                      refine lv_aload_n hx hb d_M_field_166 rfl (lv_at hl 2 rfl) ?_
                      refine va_get (D := D) (ci := 8) (C := R_M) (T := T_M) (N := 39) hx hb hts (fun w h => kT w (i_M w h)) hown hK hP 0 rfl rfl 1 (by decide) (hts _ (kT _ wd_4d2260e1)) (fun _ h9 => h9) rfl d_M_field_167 ?_
                      refine lv_iload_n hx hb d_M_field_170 rfl (lv_at hl 3 rfl) ?_
                      refine lv_dup2_11 hx hb d_M_field_171 rfl rfl ?_
                      refine n_iald hx hb hK hP 1 0 rfl rfl (i := (cN t)) (by omega) (by decide) d_M_field_172 ?_
                      refine lv_iconst (v := nI 1) hx hb d_M_field_173 (by decide) ?_
                      refine lv_iadd hx hb d_M_field_174 ?_
                      refine lv_eqi (nI_add _ _) ?_
                      refine n_iast hx hb hK hP hD hS 1 0 rfl rfl (i := (cN t)) (by omega) (by decide) d_M_field_175 (fun H locs hP hD hS => ?_)
                      have hP : va_P D vwCl (Wm am gm (va_up sLen (cN t) ((sLen (cN t)) + 1)) (va_up sKind (((cN t) * 6) + (sLen (cN t))) (cN k)) (upd sExt (((cN t) * 6) + (sLen (cN t))) x) (va_up sMust (((cN t) * 6) + (sLen (cN t))) b) rTab rFil mNum rLen rItm made pItm held dByt dLen ver fAdr fTab adr tab lf 0 row mWr mWid mOv mPl mTh mSp mPile mNext mSh mShs mRea mWg mEn mDp mAt mTb mSt) H := hP
                      have hD : va_D A (Wm am gm (va_up sLen (cN t) ((sLen (cN t)) + 1)) (va_up sKind (((cN t) * 6) + (sLen (cN t))) (cN k)) (upd sExt (((cN t) * 6) + (sLen (cN t))) x) (va_up sMust (((cN t) * 6) + (sLen (cN t))) b) rTab rFil mNum rLen rItm made pItm held dByt dLen ver fAdr fTab adr tab lf 0 row mWr mWid mOv mPl mTh mSp mPile mNext mSh mShs mRea mWg mEn mDp mAt mTb mSt) := hD
                      refine lv_aload_n hx hb d_M_field_176 rfl (lv_at hl 2 rfl) ?_
                      refine lv_iconst (v := nI 0) hx hb d_M_field_177 (by decide) ?_
                      refine lv_eqi (show nI 0 = bI false by decide) ?_
                      refine va_put (D := D) (ci := 8) (ty := .boolean) (C := R_M) (T := T_M) (N := 39) hx hb hts (fun w h => kT w (i_M w h)) ty_M tyk_M nm_M hown hK hP hD hS 0 rfl rfl 27 (by decide) (hts _ (kT _ wd_a47358da)) (fun _ h9 => h9) rfl (by decide +kernel) (bI_nar _) (bI_fits _) (Nat.le_of_ble_eq_true rfl) d_M_field_178 (fun H locs hP hD hS => ?_)
                      have hP : va_P D vwCl (Wm am gm (va_up sLen (cN t) ((sLen (cN t)) + 1)) (va_up sKind (((cN t) * 6) + (sLen (cN t))) (cN k)) (upd sExt (((cN t) * 6) + (sLen (cN t))) x) (va_up sMust (((cN t) * 6) + (sLen (cN t))) b) rTab rFil mNum rLen rItm made pItm held dByt dLen false fAdr fTab adr tab lf 0 row mWr mWid mOv mPl mTh mSp mPile mNext mSh mShs mRea mWg mEn mDp mAt mTb mSt) H := hP
                      have hD : va_D A (Wm am gm (va_up sLen (cN t) ((sLen (cN t)) + 1)) (va_up sKind (((cN t) * 6) + (sLen (cN t))) (cN k)) (upd sExt (((cN t) * 6) + (sLen (cN t))) x) (va_up sMust (((cN t) * 6) + (sLen (cN t))) b) rTab rFil mNum rLen rItm made pItm held dByt dLen false fAdr fTab adr tab lf 0 row mWr mWid mOv mPl mTh mSp mPile mNext mSh mShs mRea mWg mEn mDp mAt mTb mSt) := hD
                      have hup : (va_up sLen (cN t) ((sLen (cN t)) + 1)) (cN t) = sLen (cN t) + 1 := va_up_self _ _ _
                      refine lv_aload_n hx hb d_M_field_181 rfl (lv_at hl 2 rfl) ?_
                      refine va_get (D := D) (ci := 8) (C := R_M) (T := T_M) (N := 39) hx hb hts (fun w h => kT w (i_M w h)) hown hK hP 0 rfl rfl 1 (by decide) (hts _ (kT _ wd_4d2260e1)) (fun _ h9 => h9) rfl d_M_field_182 ?_
                      refine lv_iload_n hx hb d_M_field_185 rfl (lv_at hl 3 rfl) ?_
                      refine n_iald hx hb hK hP 1 0 rfl rfl (i := (cN t)) (by omega) (by decide) d_M_field_186 ?_
                      refine lv_iconst (v := nI 1) hx hb d_M_field_187 (by decide) ?_
                      refine lv_isub hx hb d_M_field_188 ?_
                      refine lv_eqi (pk_sub (by omega)) ?_
                      exact k_iret hx hb hr hlocks hK hP hD hS (trivial) (by rw [hcd, hup]; rfl) (by rw [hcd]; first | done | rfl) d_M_field_189
                    · skip
                      have c_119 := (nI_eq (by omega) (by omega)).mp c_119
                      have hcd : cdField sLen t k x b = 2 := by rw [hcd0, if_neg (by omega)]
                      refine lv_aload_n hx hb d_M_field_122 rfl (lv_at hl 1 rfl) ?_
                      refine lv_iconst (v := nI 2) hx hb d_M_field_123 (by decide) ?_
                      refine k_callV (m_raise l D am gm tw sLen sKind sExt sMust rTab rFil mNum rLen rItm made pItm held dByt dLen ver fAdr fTab adr tab lf 0 row mWr mWid mOv mPl mTh mSp mPile mNext mSh mShs mRea mWg mEn mDp mAt mTb mSt 2  ) m_M_raise wd_4b1468e4 0 8 rfl rfl rfl kT hx hb hml hown hts ⟨Nat.le_of_ble_eq_true rfl, Nat.le_of_ble_eq_true rfl⟩ ⟨Nat.le_of_ble_eq_true rfl, Nat.le_of_ble_eq_true rfl⟩ hK hP hD hS hA hZ hl.1 rfl rfl (Nat.le_of_ble_eq_true rfl) d_M_field_124 (fun H locs hP hD hS => ?_)
                      have hP : va_P D vwCl (Wm am gm sLen sKind sExt sMust rTab rFil mNum rLen rItm made pItm held dByt dLen ver fAdr fTab adr tab lf 2 row mWr mWid mOv mPl mTh mSp mPile mNext mSh mShs mRea mWg mEn mDp mAt mTb mSt) H := hP
                      have hD : va_D A (Wm am gm sLen sKind sExt sMust rTab rFil mNum rLen rItm made pItm held dByt dLen ver fAdr fTab adr tab lf 2 row mWr mWid mOv mPl mTh mSp mPile mNext mSh mShs mRea mWg mEn mDp mAt mTb mSt) := hD
                      refine W.eq (g2 := F0 m 127 ls [.int (nI 0)]) rfl ?_
                      exact k_iret hx hb hr hlocks hK hP hD hS (trivial) (by rw [hcd]; first | done | rfl) (by rw [hcd]; first | done | rfl) d_M_field_127
                  · skip
                    refine lv_iconst (v := nI 1) hx hb d_M_field_93 (by decide) ?_
                    refine lv_goto (tgt := 98) hx hb d_M_field_94 (by decide) ?_
                    refine lv_istore (lv' := [(5, .int (nI 1)), (0, .ref (am 0)), (1, .int t), (2, .int (nI (cN k))), (3, .int x), (4, .int (bI b))]) hx hb d_M_field_98 hl (by decide) rfl (fun ls hl => ?_)
                    refine lv_iload hx hb d_M_field_100 (lv_at hl 0 rfl) ?_
                    refine lv_if_eq (tgt := 111) hx hb d_M_field_102 (by decide) (fun c_102 => absurd c_102 (by decide)) (fun _ => ?_)
                    have hcd : cdField sLen t k x b = 1 := cdF_1c (by rw [show cN k = 1 by omega]; exact suT_1n (Or.inr (i_lt c_90)))
                    refine lv_aload_n hx hb d_M_field_105 rfl (lv_at hl 1 rfl) ?_
                    refine lv_iconst (v := nI 1) hx hb d_M_field_106 (by decide) ?_
                    refine k_callV (m_raise l D am gm tw sLen sKind sExt sMust rTab rFil mNum rLen rItm made pItm held dByt dLen ver fAdr fTab adr tab lf 0 row mWr mWid mOv mPl mTh mSp mPile mNext mSh mShs mRea mWg mEn mDp mAt mTb mSt 1  ) m_M_raise wd_4b1468e4 0 8 rfl rfl rfl kT hx hb hml hown hts ⟨Nat.le_of_ble_eq_true rfl, Nat.le_of_ble_eq_true rfl⟩ ⟨Nat.le_of_ble_eq_true rfl, Nat.le_of_ble_eq_true rfl⟩ hK hP hD hS hA hZ hl.1 rfl rfl (Nat.le_of_ble_eq_true rfl) d_M_field_107 (fun H locs hP hD hS => ?_)
                    have hP : va_P D vwCl (Wm am gm sLen sKind sExt sMust rTab rFil mNum rLen rItm made pItm held dByt dLen ver fAdr fTab adr tab lf 1 row mWr mWid mOv mPl mTh mSp mPile mNext mSh mShs mRea mWg mEn mDp mAt mTb mSt) H := hP
                    have hD : va_D A (Wm am gm sLen sKind sExt sMust rTab rFil mNum rLen rItm made pItm held dByt dLen ver fAdr fTab adr tab lf 1 row mWr mWid mOv mPl mTh mSp mPile mNext mSh mShs mRea mWg mEn mDp mAt mTb mSt) := hD
                    refine W.eq (g2 := F0 m 110 ls [.int (nI 0)]) rfl ?_
                    exact k_iret hx hb hr hlocks hK hP hD hS (trivial) (by rw [hcd]; first | done | rfl) (by rw [hcd]; first | done | rfl) d_M_field_110
            · skip
              have c_59 := (z_eq (by omega)).mp c_59
              refine lv_iload_n hx hb d_M_field_62 rfl (lv_at hl 4 rfl) ?_
              refine lv_bipush (v := -128) hx hb d_M_field_63 (by decide) ?_
              refine lv_icmp_lt (tgt := 93) hx hb d_M_field_65 (by decide) (fun c_65 => ?_) (fun c_65 => ?_)
              · skip
                refine lv_iconst (v := nI 1) hx hb d_M_field_93 (by decide) ?_
                refine lv_goto (tgt := 98) hx hb d_M_field_94 (by decide) ?_
                refine lv_istore (lv' := [(5, .int (nI 1)), (0, .ref (am 0)), (1, .int t), (2, .int (nI (cN k))), (3, .int x), (4, .int (bI b))]) hx hb d_M_field_98 hl (by decide) rfl (fun ls hl => ?_)
                refine lv_iload hx hb d_M_field_100 (lv_at hl 0 rfl) ?_
                refine lv_if_eq (tgt := 111) hx hb d_M_field_102 (by decide) (fun c_102 => absurd c_102 (by decide)) (fun _ => ?_)
                have hcd : cdField sLen t k x b = 1 := cdF_1c (by rw [show cN k = 0 by omega]; exact suT_0n (Or.inl c_65))
                refine lv_aload_n hx hb d_M_field_105 rfl (lv_at hl 1 rfl) ?_
                refine lv_iconst (v := nI 1) hx hb d_M_field_106 (by decide) ?_
                refine k_callV (m_raise l D am gm tw sLen sKind sExt sMust rTab rFil mNum rLen rItm made pItm held dByt dLen ver fAdr fTab adr tab lf 0 row mWr mWid mOv mPl mTh mSp mPile mNext mSh mShs mRea mWg mEn mDp mAt mTb mSt 1  ) m_M_raise wd_4b1468e4 0 8 rfl rfl rfl kT hx hb hml hown hts ⟨Nat.le_of_ble_eq_true rfl, Nat.le_of_ble_eq_true rfl⟩ ⟨Nat.le_of_ble_eq_true rfl, Nat.le_of_ble_eq_true rfl⟩ hK hP hD hS hA hZ hl.1 rfl rfl (Nat.le_of_ble_eq_true rfl) d_M_field_107 (fun H locs hP hD hS => ?_)
                have hP : va_P D vwCl (Wm am gm sLen sKind sExt sMust rTab rFil mNum rLen rItm made pItm held dByt dLen ver fAdr fTab adr tab lf 1 row mWr mWid mOv mPl mTh mSp mPile mNext mSh mShs mRea mWg mEn mDp mAt mTb mSt) H := hP
                have hD : va_D A (Wm am gm sLen sKind sExt sMust rTab rFil mNum rLen rItm made pItm held dByt dLen ver fAdr fTab adr tab lf 1 row mWr mWid mOv mPl mTh mSp mPile mNext mSh mShs mRea mWg mEn mDp mAt mTb mSt) := hD
                refine W.eq (g2 := F0 m 110 ls [.int (nI 0)]) rfl ?_
                exact k_iret hx hb hr hlocks hK hP hD hS (trivial) (by rw [hcd]; first | done | rfl) (by rw [hcd]; first | done | rfl) d_M_field_110
              · skip
                refine lv_iload_n hx hb d_M_field_68 rfl (lv_at hl 4 rfl) ?_
                refine lv_bipush (v := nI 127) hx hb d_M_field_69 (by decide) ?_
                refine lv_icmp_gt (tgt := 93) hx hb d_M_field_71 (by decide) (fun c_71 => ?_) (fun c_71 => ?_)
                · skip
                  refine lv_iconst (v := nI 1) hx hb d_M_field_93 (by decide) ?_
                  refine lv_goto (tgt := 98) hx hb d_M_field_94 (by decide) ?_
                  refine lv_istore (lv' := [(5, .int (nI 1)), (0, .ref (am 0)), (1, .int t), (2, .int (nI (cN k))), (3, .int x), (4, .int (bI b))]) hx hb d_M_field_98 hl (by decide) rfl (fun ls hl => ?_)
                  refine lv_iload hx hb d_M_field_100 (lv_at hl 0 rfl) ?_
                  refine lv_if_eq (tgt := 111) hx hb d_M_field_102 (by decide) (fun c_102 => absurd c_102 (by decide)) (fun _ => ?_)
                  have hcd : cdField sLen t k x b = 1 := cdF_1c (by rw [show cN k = 0 by omega]; exact suT_0n (Or.inr c_71))
                  refine lv_aload_n hx hb d_M_field_105 rfl (lv_at hl 1 rfl) ?_
                  refine lv_iconst (v := nI 1) hx hb d_M_field_106 (by decide) ?_
                  refine k_callV (m_raise l D am gm tw sLen sKind sExt sMust rTab rFil mNum rLen rItm made pItm held dByt dLen ver fAdr fTab adr tab lf 0 row mWr mWid mOv mPl mTh mSp mPile mNext mSh mShs mRea mWg mEn mDp mAt mTb mSt 1  ) m_M_raise wd_4b1468e4 0 8 rfl rfl rfl kT hx hb hml hown hts ⟨Nat.le_of_ble_eq_true rfl, Nat.le_of_ble_eq_true rfl⟩ ⟨Nat.le_of_ble_eq_true rfl, Nat.le_of_ble_eq_true rfl⟩ hK hP hD hS hA hZ hl.1 rfl rfl (Nat.le_of_ble_eq_true rfl) d_M_field_107 (fun H locs hP hD hS => ?_)
                  have hP : va_P D vwCl (Wm am gm sLen sKind sExt sMust rTab rFil mNum rLen rItm made pItm held dByt dLen ver fAdr fTab adr tab lf 1 row mWr mWid mOv mPl mTh mSp mPile mNext mSh mShs mRea mWg mEn mDp mAt mTb mSt) H := hP
                  have hD : va_D A (Wm am gm sLen sKind sExt sMust rTab rFil mNum rLen rItm made pItm held dByt dLen ver fAdr fTab adr tab lf 1 row mWr mWid mOv mPl mTh mSp mPile mNext mSh mShs mRea mWg mEn mDp mAt mTb mSt) := hD
                  refine W.eq (g2 := F0 m 110 ls [.int (nI 0)]) rfl ?_
                  exact k_iret hx hb hr hlocks hK hP hD hS (trivial) (by rw [hcd]; first | done | rfl) (by rw [hcd]; first | done | rfl) d_M_field_110
                · skip
                  refine lv_iload_n hx hb d_M_field_74 rfl (lv_at hl 3 rfl) ?_
                  refine lv_iconst (v := nI 1) hx hb d_M_field_75 (by decide) ?_
                  refine lv_icmp_ne (tgt := 97) hx hb d_M_field_76 (by decide) (fun c_76 => ?_) (fun c_76 => ?_)
                  · skip
                    have c_76 := mt (nI_eq (by omega) (by omega)).mpr c_76
                    refine lv_iconst (v := nI 0) hx hb d_M_field_97 (by decide) ?_
                    refine lv_istore (lv' := [(5, .int (nI 0)), (0, .ref (am 0)), (1, .int t), (2, .int (nI (cN k))), (3, .int x), (4, .int (bI b))]) hx hb d_M_field_98 hl (by decide) rfl (fun ls hl => ?_)
                    refine lv_iload hx hb d_M_field_100 (lv_at hl 0 rfl) ?_
                    refine lv_if_eq (tgt := 111) hx hb d_M_field_102 (by decide) (fun _ => ?_) (fun c_102 => absurd (by decide) c_102)
                    have hcd0 : cdField sLen t k x b = if sLen (cN t) < 6 then 0 else 2 := cdF_2 (t_y c_10) (o_y c_19) (by rw [show cN k = 6 by omega, suT_6]; exact t_y c_43) (fun z => absurd z.2 (by omega))
                    obtain ⟨n_t, b_t⟩ := okT_spec (t_y c_10)
                    have hl : lv_has ls 7 [(5, .int (nI 0)), (0, .ref (am 0)), (1, .int (nI (cN t))), (2, .int (nI (cN k))), (3, .int x), (4, .int (bI b))] := by rw [← n_t]; exact hl
                    have hL1 := hL (cN t)
                    refine lv_aload_n hx hb d_M_field_111 rfl (lv_at hl 1 rfl) ?_
                    refine va_get (D := D) (ci := 8) (C := R_M) (T := T_M) (N := 39) hx hb hts (fun w h => kT w (i_M w h)) hown hK hP 0 rfl rfl 1 (by decide) (hts _ (kT _ wd_4d2260e1)) (fun _ h9 => h9) rfl d_M_field_112 ?_
                    refine lv_iload_n hx hb d_M_field_115 rfl (lv_at hl 2 rfl) ?_
                    refine n_iald hx hb hK hP 1 0 rfl rfl (i := (cN t)) (by omega) (by decide) d_M_field_116 ?_
                    refine lv_bipush (v := nI 6) hx hb d_M_field_117 (by decide) ?_
                    refine lv_icmp_ne (tgt := 128) hx hb d_M_field_119 (by decide) (fun c_119 => ?_) (fun c_119 => ?_)
                    · skip
                      have c_119 := mt (nI_eq (by omega) (by omega)).mpr c_119
                      have hcd : cdField sLen t k x b = 0 := by rw [hcd0, if_pos (by omega)]
                      refine lv_bipush (v := nI 6) hx hb d_M_field_128 (by decide) ?_
                      refine lv_iload_n hx hb d_M_field_130 rfl (lv_at hl 2 rfl) ?_
                      refine lv_imul hx hb d_M_field_131 ?_
                      refine lv_eqi ((pk_mul _ _).trans (nI_congr (Nat.mul_comm _ _))) ?_
                      refine lv_aload_n hx hb d_M_field_132 rfl (lv_at hl 1 rfl) ?_
                      refine va_get (D := D) (ci := 8) (C := R_M) (T := T_M) (N := 39) hx hb hts (fun w h => kT w (i_M w h)) hown hK hP 0 rfl rfl 1 (by decide) (hts _ (kT _ wd_4d2260e1)) (fun _ h9 => h9) rfl d_M_field_133 ?_
                      refine lv_iload_n hx hb d_M_field_136 rfl (lv_at hl 2 rfl) ?_
                      refine n_iald hx hb hK hP 1 0 rfl rfl (i := (cN t)) (by omega) (by decide) d_M_field_137 ?_
                      refine lv_iadd hx hb d_M_field_138 ?_
                      refine lv_eqi (nI_add _ _) ?_
                      refine lv_istore (lv' := [(6, .int (nI (((cN t) * 6) + (sLen (cN t))))), (5, .int (nI 0)), (0, .ref (am 0)), (1, .int (nI (cN t))), (2, .int (nI (cN k))), (3, .int x), (4, .int (bI b))]) hx hb d_M_field_139 hl (by decide) rfl (fun ls hl => ?_)
                      refine lv_aload_n hx hb d_M_field_141 rfl (lv_at hl 2 rfl) ?_
                      refine va_get (D := D) (ci := 8) (C := R_M) (T := T_M) (N := 39) hx hb hts (fun w h => kT w (i_M w h)) hown hK hP 0 rfl rfl 2 (by decide) (hts _ (kT _ wd_91f4763a)) (fun _ h9 => h9) rfl d_M_field_142 ?_
                      refine lv_iload hx hb d_M_field_145 (lv_at hl 0 rfl) ?_
                      refine lv_iload_n hx hb d_M_field_147 rfl (lv_at hl 4 rfl) ?_
                      refine n_iast hx hb hK hP hD hS 2 1 rfl rfl (i := (((cN t) * 6) + (sLen (cN t)))) (by omega) (by decide) d_M_field_148 (fun H locs hP hD hS => ?_)
                      have hP : va_P D vwCl (Wm am gm sLen (va_up sKind (((cN t) * 6) + (sLen (cN t))) (cN k)) sExt sMust rTab rFil mNum rLen rItm made pItm held dByt dLen ver fAdr fTab adr tab lf 0 row mWr mWid mOv mPl mTh mSp mPile mNext mSh mShs mRea mWg mEn mDp mAt mTb mSt) H := hP
                      have hD : va_D A (Wm am gm sLen (va_up sKind (((cN t) * 6) + (sLen (cN t))) (cN k)) sExt sMust rTab rFil mNum rLen rItm made pItm held dByt dLen ver fAdr fTab adr tab lf 0 row mWr mWid mOv mPl mTh mSp mPile mNext mSh mShs mRea mWg mEn mDp mAt mTb mSt) := hD
                      refine lv_aload_n hx hb d_M_field_149 rfl (lv_at hl 2 rfl) ?_
                      refine va_get (D := D) (ci := 8) (C := R_M) (T := T_M) (N := 39) hx hb hts (fun w h => kT w (i_M w h)) hown hK hP 0 rfl rfl 3 (by decide) (hts _ (kT _ wd_74a62eb0)) (fun _ h9 => h9) rfl d_M_field_150 ?_
                      refine lv_iload hx hb d_M_field_153 (lv_at hl 0 rfl) ?_
                      refine lv_iload_n hx hb d_M_field_155 rfl (lv_at hl 5 rfl) ?_
                      refine r_iast hx hb hK hP hD hS 3 2 rfl rfl (i := (((cN t) * 6) + (sLen (cN t)))) (by omega) (by decide) d_M_field_156 (fun H locs hP hD hS => ?_)
                      have hP : va_P D vwCl (Wm am gm sLen (va_up sKind (((cN t) * 6) + (sLen (cN t))) (cN k)) (upd sExt (((cN t) * 6) + (sLen (cN t))) x) sMust rTab rFil mNum rLen rItm made pItm held dByt dLen ver fAdr fTab adr tab lf 0 row mWr mWid mOv mPl mTh mSp mPile mNext mSh mShs mRea mWg mEn mDp mAt mTb mSt) H := hP
                      have hD : va_D A (Wm am gm sLen (va_up sKind (((cN t) * 6) + (sLen (cN t))) (cN k)) (upd sExt (((cN t) * 6) + (sLen (cN t))) x) sMust rTab rFil mNum rLen rItm made pItm held dByt dLen ver fAdr fTab adr tab lf 0 row mWr mWid mOv mPl mTh mSp mPile mNext mSh mShs mRea mWg mEn mDp mAt mTb mSt) := hD
                      refine lv_aload_n hx hb d_M_field_157 rfl (lv_at hl 2 rfl) ?_
                      refine va_get (D := D) (ci := 8) (C := R_M) (T := T_M) (N := 39) hx hb hts (fun w h => kT w (i_M w h)) hown hK hP 0 rfl rfl 4 (by decide) (hts _ (kT _ wd_de26f6e3)) (fun _ h9 => h9) rfl d_M_field_158 ?_
                      refine lv_iload hx hb d_M_field_161 (lv_at hl 0 rfl) ?_
                      refine lv_iload hx hb d_M_field_163 (lv_at hl 6 rfl) ?_
                      refine z_zast hx hb hK hP hD hS 4 3 rfl rfl (i := (((cN t) * 6) + (sLen (cN t)))) (by omega) (by decide) d_M_field_165 (fun H locs hP hD hS => ?_)
                      have hP : va_P D vwCl (Wm am gm sLen (va_up sKind (((cN t) * 6) + (sLen (cN t))) (cN k)) (upd sExt (((cN t) * 6) + (sLen (cN t))) x) (va_up sMust (((cN t) * 6) + (sLen (cN t))) b) rTab rFil mNum rLen rItm made pItm held dByt dLen ver fAdr fTab adr tab lf 0 row mWr mWid mOv mPl mTh mSp mPile mNext mSh mShs mRea mWg mEn mDp mAt mTb mSt) H := hP
                      have hD : va_D A (Wm am gm sLen (va_up sKind (((cN t) * 6) + (sLen (cN t))) (cN k)) (upd sExt (((cN t) * 6) + (sLen (cN t))) x) (va_up sMust (((cN t) * 6) + (sLen (cN t))) b) rTab rFil mNum rLen rItm made pItm held dByt dLen ver fAdr fTab adr tab lf 0 row mWr mWid mOv mPl mTh mSp mPile mNext mSh mShs mRea mWg mEn mDp mAt mTb mSt) := hD
                      refine lv_aload_n hx hb d_M_field_166 rfl (lv_at hl 2 rfl) ?_
                      refine va_get (D := D) (ci := 8) (C := R_M) (T := T_M) (N := 39) hx hb hts (fun w h => kT w (i_M w h)) hown hK hP 0 rfl rfl 1 (by decide) (hts _ (kT _ wd_4d2260e1)) (fun _ h9 => h9) rfl d_M_field_167 ?_
                      refine lv_iload_n hx hb d_M_field_170 rfl (lv_at hl 3 rfl) ?_
                      refine lv_dup2_11 hx hb d_M_field_171 rfl rfl ?_
                      refine n_iald hx hb hK hP 1 0 rfl rfl (i := (cN t)) (by omega) (by decide) d_M_field_172 ?_
                      refine lv_iconst (v := nI 1) hx hb d_M_field_173 (by decide) ?_
                      refine lv_iadd hx hb d_M_field_174 ?_
                      refine lv_eqi (nI_add _ _) ?_
                      refine n_iast hx hb hK hP hD hS 1 0 rfl rfl (i := (cN t)) (by omega) (by decide) d_M_field_175 (fun H locs hP hD hS => ?_)
                      have hP : va_P D vwCl (Wm am gm (va_up sLen (cN t) ((sLen (cN t)) + 1)) (va_up sKind (((cN t) * 6) + (sLen (cN t))) (cN k)) (upd sExt (((cN t) * 6) + (sLen (cN t))) x) (va_up sMust (((cN t) * 6) + (sLen (cN t))) b) rTab rFil mNum rLen rItm made pItm held dByt dLen ver fAdr fTab adr tab lf 0 row mWr mWid mOv mPl mTh mSp mPile mNext mSh mShs mRea mWg mEn mDp mAt mTb mSt) H := hP
                      have hD : va_D A (Wm am gm (va_up sLen (cN t) ((sLen (cN t)) + 1)) (va_up sKind (((cN t) * 6) + (sLen (cN t))) (cN k)) (upd sExt (((cN t) * 6) + (sLen (cN t))) x) (va_up sMust (((cN t) * 6) + (sLen (cN t))) b) rTab rFil mNum rLen rItm made pItm held dByt dLen ver fAdr fTab adr tab lf 0 row mWr mWid mOv mPl mTh mSp mPile mNext mSh mShs mRea mWg mEn mDp mAt mTb mSt) := hD
                      refine lv_aload_n hx hb d_M_field_176 rfl (lv_at hl 2 rfl) ?_
                      refine lv_iconst (v := nI 0) hx hb d_M_field_177 (by decide) ?_
                      refine lv_eqi (show nI 0 = bI false by decide) ?_
                      refine va_put (D := D) (ci := 8) (ty := .boolean) (C := R_M) (T := T_M) (N := 39) hx hb hts (fun w h => kT w (i_M w h)) ty_M tyk_M nm_M hown hK hP hD hS 0 rfl rfl 27 (by decide) (hts _ (kT _ wd_a47358da)) (fun _ h9 => h9) rfl (by decide +kernel) (bI_nar _) (bI_fits _) (Nat.le_of_ble_eq_true rfl) d_M_field_178 (fun H locs hP hD hS => ?_)
                      have hP : va_P D vwCl (Wm am gm (va_up sLen (cN t) ((sLen (cN t)) + 1)) (va_up sKind (((cN t) * 6) + (sLen (cN t))) (cN k)) (upd sExt (((cN t) * 6) + (sLen (cN t))) x) (va_up sMust (((cN t) * 6) + (sLen (cN t))) b) rTab rFil mNum rLen rItm made pItm held dByt dLen false fAdr fTab adr tab lf 0 row mWr mWid mOv mPl mTh mSp mPile mNext mSh mShs mRea mWg mEn mDp mAt mTb mSt) H := hP
                      have hD : va_D A (Wm am gm (va_up sLen (cN t) ((sLen (cN t)) + 1)) (va_up sKind (((cN t) * 6) + (sLen (cN t))) (cN k)) (upd sExt (((cN t) * 6) + (sLen (cN t))) x) (va_up sMust (((cN t) * 6) + (sLen (cN t))) b) rTab rFil mNum rLen rItm made pItm held dByt dLen false fAdr fTab adr tab lf 0 row mWr mWid mOv mPl mTh mSp mPile mNext mSh mShs mRea mWg mEn mDp mAt mTb mSt) := hD
                      have hup : (va_up sLen (cN t) ((sLen (cN t)) + 1)) (cN t) = sLen (cN t) + 1 := va_up_self _ _ _
                      refine lv_aload_n hx hb d_M_field_181 rfl (lv_at hl 2 rfl) ?_
                      refine va_get (D := D) (ci := 8) (C := R_M) (T := T_M) (N := 39) hx hb hts (fun w h => kT w (i_M w h)) hown hK hP 0 rfl rfl 1 (by decide) (hts _ (kT _ wd_4d2260e1)) (fun _ h9 => h9) rfl d_M_field_182 ?_
                      refine lv_iload_n hx hb d_M_field_185 rfl (lv_at hl 3 rfl) ?_
                      refine n_iald hx hb hK hP 1 0 rfl rfl (i := (cN t)) (by omega) (by decide) d_M_field_186 ?_
                      refine lv_iconst (v := nI 1) hx hb d_M_field_187 (by decide) ?_
                      refine lv_isub hx hb d_M_field_188 ?_
                      refine lv_eqi (pk_sub (by omega)) ?_
                      exact k_iret hx hb hr hlocks hK hP hD hS (trivial) (by rw [hcd, hup]; rfl) (by rw [hcd]; first | done | rfl) d_M_field_189
                    · skip
                      have c_119 := (nI_eq (by omega) (by omega)).mp c_119
                      have hcd : cdField sLen t k x b = 2 := by rw [hcd0, if_neg (by omega)]
                      refine lv_aload_n hx hb d_M_field_122 rfl (lv_at hl 1 rfl) ?_
                      refine lv_iconst (v := nI 2) hx hb d_M_field_123 (by decide) ?_
                      refine k_callV (m_raise l D am gm tw sLen sKind sExt sMust rTab rFil mNum rLen rItm made pItm held dByt dLen ver fAdr fTab adr tab lf 0 row mWr mWid mOv mPl mTh mSp mPile mNext mSh mShs mRea mWg mEn mDp mAt mTb mSt 2  ) m_M_raise wd_4b1468e4 0 8 rfl rfl rfl kT hx hb hml hown hts ⟨Nat.le_of_ble_eq_true rfl, Nat.le_of_ble_eq_true rfl⟩ ⟨Nat.le_of_ble_eq_true rfl, Nat.le_of_ble_eq_true rfl⟩ hK hP hD hS hA hZ hl.1 rfl rfl (Nat.le_of_ble_eq_true rfl) d_M_field_124 (fun H locs hP hD hS => ?_)
                      have hP : va_P D vwCl (Wm am gm sLen sKind sExt sMust rTab rFil mNum rLen rItm made pItm held dByt dLen ver fAdr fTab adr tab lf 2 row mWr mWid mOv mPl mTh mSp mPile mNext mSh mShs mRea mWg mEn mDp mAt mTb mSt) H := hP
                      have hD : va_D A (Wm am gm sLen sKind sExt sMust rTab rFil mNum rLen rItm made pItm held dByt dLen ver fAdr fTab adr tab lf 2 row mWr mWid mOv mPl mTh mSp mPile mNext mSh mShs mRea mWg mEn mDp mAt mTb mSt) := hD
                      refine W.eq (g2 := F0 m 127 ls [.int (nI 0)]) rfl ?_
                      exact k_iret hx hb hr hlocks hK hP hD hS (trivial) (by rw [hcd]; first | done | rfl) (by rw [hcd]; first | done | rfl) d_M_field_127
                  · skip
                    have c_76 := (nI_eq (by omega) (by omega)).mp c_76
                    refine lv_iload_n hx hb d_M_field_79 rfl (lv_at hl 4 rfl) ?_
                    refine lv_sipush (v := -32768) hx hb d_M_field_80 (by decide) ?_
                    refine lv_icmp_lt (tgt := 93) hx hb d_M_field_83 (by decide) (fun c_83 => ?_) (fun c_83 => ?_)
                    · skip
                      refine lv_iconst (v := nI 1) hx hb d_M_field_93 (by decide) ?_
                      refine lv_goto (tgt := 98) hx hb d_M_field_94 (by decide) ?_
                      refine lv_istore (lv' := [(5, .int (nI 1)), (0, .ref (am 0)), (1, .int t), (2, .int (nI (cN k))), (3, .int x), (4, .int (bI b))]) hx hb d_M_field_98 hl (by decide) rfl (fun ls hl => ?_)
                      refine lv_iload hx hb d_M_field_100 (lv_at hl 0 rfl) ?_
                      refine lv_if_eq (tgt := 111) hx hb d_M_field_102 (by decide) (fun c_102 => absurd c_102 (by decide)) (fun _ => ?_)
                      have hcd : cdField sLen t k x b = 1 := cdF_1c (by rw [show cN k = 1 by omega]; exact suT_1n (Or.inl c_83))
                      refine lv_aload_n hx hb d_M_field_105 rfl (lv_at hl 1 rfl) ?_
                      refine lv_iconst (v := nI 1) hx hb d_M_field_106 (by decide) ?_
                      refine k_callV (m_raise l D am gm tw sLen sKind sExt sMust rTab rFil mNum rLen rItm made pItm held dByt dLen ver fAdr fTab adr tab lf 0 row mWr mWid mOv mPl mTh mSp mPile mNext mSh mShs mRea mWg mEn mDp mAt mTb mSt 1  ) m_M_raise wd_4b1468e4 0 8 rfl rfl rfl kT hx hb hml hown hts ⟨Nat.le_of_ble_eq_true rfl, Nat.le_of_ble_eq_true rfl⟩ ⟨Nat.le_of_ble_eq_true rfl, Nat.le_of_ble_eq_true rfl⟩ hK hP hD hS hA hZ hl.1 rfl rfl (Nat.le_of_ble_eq_true rfl) d_M_field_107 (fun H locs hP hD hS => ?_)
                      have hP : va_P D vwCl (Wm am gm sLen sKind sExt sMust rTab rFil mNum rLen rItm made pItm held dByt dLen ver fAdr fTab adr tab lf 1 row mWr mWid mOv mPl mTh mSp mPile mNext mSh mShs mRea mWg mEn mDp mAt mTb mSt) H := hP
                      have hD : va_D A (Wm am gm sLen sKind sExt sMust rTab rFil mNum rLen rItm made pItm held dByt dLen ver fAdr fTab adr tab lf 1 row mWr mWid mOv mPl mTh mSp mPile mNext mSh mShs mRea mWg mEn mDp mAt mTb mSt) := hD
                      refine W.eq (g2 := F0 m 110 ls [.int (nI 0)]) rfl ?_
                      exact k_iret hx hb hr hlocks hK hP hD hS (trivial) (by rw [hcd]; first | done | rfl) (by rw [hcd]; first | done | rfl) d_M_field_110
                    · skip
                      refine lv_iload_n hx hb d_M_field_86 rfl (lv_at hl 4 rfl) ?_
                      refine lv_sipush (v := nI 32767) hx hb d_M_field_87 (by decide) ?_
                      refine lv_icmp_le (tgt := 97) hx hb d_M_field_90 (by decide) (fun c_90 => ?_) (fun c_90 => ?_)
                      · skip
                        refine lv_iconst (v := nI 0) hx hb d_M_field_97 (by decide) ?_
                        refine lv_istore (lv' := [(5, .int (nI 0)), (0, .ref (am 0)), (1, .int t), (2, .int (nI (cN k))), (3, .int x), (4, .int (bI b))]) hx hb d_M_field_98 hl (by decide) rfl (fun ls hl => ?_)
                        refine lv_iload hx hb d_M_field_100 (lv_at hl 0 rfl) ?_
                        refine lv_if_eq (tgt := 111) hx hb d_M_field_102 (by decide) (fun _ => ?_) (fun c_102 => absurd (by decide) c_102)
                        have hcd0 : cdField sLen t k x b = if sLen (cN t) < 6 then 0 else 2 := cdF_2 (t_y c_10) (o_y c_19) (by rw [show cN k = 6 by omega, suT_6]; exact t_y c_43) (fun z => absurd z.2 (by omega))
                        obtain ⟨n_t, b_t⟩ := okT_spec (t_y c_10)
                        have hl : lv_has ls 7 [(5, .int (nI 0)), (0, .ref (am 0)), (1, .int (nI (cN t))), (2, .int (nI (cN k))), (3, .int x), (4, .int (bI b))] := by rw [← n_t]; exact hl
                        have hL1 := hL (cN t)
                        refine lv_aload_n hx hb d_M_field_111 rfl (lv_at hl 1 rfl) ?_
                        refine va_get (D := D) (ci := 8) (C := R_M) (T := T_M) (N := 39) hx hb hts (fun w h => kT w (i_M w h)) hown hK hP 0 rfl rfl 1 (by decide) (hts _ (kT _ wd_4d2260e1)) (fun _ h9 => h9) rfl d_M_field_112 ?_
                        refine lv_iload_n hx hb d_M_field_115 rfl (lv_at hl 2 rfl) ?_
                        refine n_iald hx hb hK hP 1 0 rfl rfl (i := (cN t)) (by omega) (by decide) d_M_field_116 ?_
                        refine lv_bipush (v := nI 6) hx hb d_M_field_117 (by decide) ?_
                        refine lv_icmp_ne (tgt := 128) hx hb d_M_field_119 (by decide) (fun c_119 => ?_) (fun c_119 => ?_)
                        · skip
                          have c_119 := mt (nI_eq (by omega) (by omega)).mpr c_119
                          have hcd : cdField sLen t k x b = 0 := by rw [hcd0, if_pos (by omega)]
                          refine lv_bipush (v := nI 6) hx hb d_M_field_128 (by decide) ?_
                          refine lv_iload_n hx hb d_M_field_130 rfl (lv_at hl 2 rfl) ?_
                          refine lv_imul hx hb d_M_field_131 ?_
                          refine lv_eqi ((pk_mul _ _).trans (nI_congr (Nat.mul_comm _ _))) ?_
                          refine lv_aload_n hx hb d_M_field_132 rfl (lv_at hl 1 rfl) ?_
                          refine va_get (D := D) (ci := 8) (C := R_M) (T := T_M) (N := 39) hx hb hts (fun w h => kT w (i_M w h)) hown hK hP 0 rfl rfl 1 (by decide) (hts _ (kT _ wd_4d2260e1)) (fun _ h9 => h9) rfl d_M_field_133 ?_
                          refine lv_iload_n hx hb d_M_field_136 rfl (lv_at hl 2 rfl) ?_
                          refine n_iald hx hb hK hP 1 0 rfl rfl (i := (cN t)) (by omega) (by decide) d_M_field_137 ?_
                          refine lv_iadd hx hb d_M_field_138 ?_
                          refine lv_eqi (nI_add _ _) ?_
                          refine lv_istore (lv' := [(6, .int (nI (((cN t) * 6) + (sLen (cN t))))), (5, .int (nI 0)), (0, .ref (am 0)), (1, .int (nI (cN t))), (2, .int (nI (cN k))), (3, .int x), (4, .int (bI b))]) hx hb d_M_field_139 hl (by decide) rfl (fun ls hl => ?_)
                          refine lv_aload_n hx hb d_M_field_141 rfl (lv_at hl 2 rfl) ?_
                          refine va_get (D := D) (ci := 8) (C := R_M) (T := T_M) (N := 39) hx hb hts (fun w h => kT w (i_M w h)) hown hK hP 0 rfl rfl 2 (by decide) (hts _ (kT _ wd_91f4763a)) (fun _ h9 => h9) rfl d_M_field_142 ?_
                          refine lv_iload hx hb d_M_field_145 (lv_at hl 0 rfl) ?_
                          refine lv_iload_n hx hb d_M_field_147 rfl (lv_at hl 4 rfl) ?_
                          refine n_iast hx hb hK hP hD hS 2 1 rfl rfl (i := (((cN t) * 6) + (sLen (cN t)))) (by omega) (by decide) d_M_field_148 (fun H locs hP hD hS => ?_)
                          have hP : va_P D vwCl (Wm am gm sLen (va_up sKind (((cN t) * 6) + (sLen (cN t))) (cN k)) sExt sMust rTab rFil mNum rLen rItm made pItm held dByt dLen ver fAdr fTab adr tab lf 0 row mWr mWid mOv mPl mTh mSp mPile mNext mSh mShs mRea mWg mEn mDp mAt mTb mSt) H := hP
                          have hD : va_D A (Wm am gm sLen (va_up sKind (((cN t) * 6) + (sLen (cN t))) (cN k)) sExt sMust rTab rFil mNum rLen rItm made pItm held dByt dLen ver fAdr fTab adr tab lf 0 row mWr mWid mOv mPl mTh mSp mPile mNext mSh mShs mRea mWg mEn mDp mAt mTb mSt) := hD
                          refine lv_aload_n hx hb d_M_field_149 rfl (lv_at hl 2 rfl) ?_
                          refine va_get (D := D) (ci := 8) (C := R_M) (T := T_M) (N := 39) hx hb hts (fun w h => kT w (i_M w h)) hown hK hP 0 rfl rfl 3 (by decide) (hts _ (kT _ wd_74a62eb0)) (fun _ h9 => h9) rfl d_M_field_150 ?_
                          refine lv_iload hx hb d_M_field_153 (lv_at hl 0 rfl) ?_
                          refine lv_iload_n hx hb d_M_field_155 rfl (lv_at hl 5 rfl) ?_
                          refine r_iast hx hb hK hP hD hS 3 2 rfl rfl (i := (((cN t) * 6) + (sLen (cN t)))) (by omega) (by decide) d_M_field_156 (fun H locs hP hD hS => ?_)
                          have hP : va_P D vwCl (Wm am gm sLen (va_up sKind (((cN t) * 6) + (sLen (cN t))) (cN k)) (upd sExt (((cN t) * 6) + (sLen (cN t))) x) sMust rTab rFil mNum rLen rItm made pItm held dByt dLen ver fAdr fTab adr tab lf 0 row mWr mWid mOv mPl mTh mSp mPile mNext mSh mShs mRea mWg mEn mDp mAt mTb mSt) H := hP
                          have hD : va_D A (Wm am gm sLen (va_up sKind (((cN t) * 6) + (sLen (cN t))) (cN k)) (upd sExt (((cN t) * 6) + (sLen (cN t))) x) sMust rTab rFil mNum rLen rItm made pItm held dByt dLen ver fAdr fTab adr tab lf 0 row mWr mWid mOv mPl mTh mSp mPile mNext mSh mShs mRea mWg mEn mDp mAt mTb mSt) := hD
                          refine lv_aload_n hx hb d_M_field_157 rfl (lv_at hl 2 rfl) ?_
                          refine va_get (D := D) (ci := 8) (C := R_M) (T := T_M) (N := 39) hx hb hts (fun w h => kT w (i_M w h)) hown hK hP 0 rfl rfl 4 (by decide) (hts _ (kT _ wd_de26f6e3)) (fun _ h9 => h9) rfl d_M_field_158 ?_
                          refine lv_iload hx hb d_M_field_161 (lv_at hl 0 rfl) ?_
                          refine lv_iload hx hb d_M_field_163 (lv_at hl 6 rfl) ?_
                          refine z_zast hx hb hK hP hD hS 4 3 rfl rfl (i := (((cN t) * 6) + (sLen (cN t)))) (by omega) (by decide) d_M_field_165 (fun H locs hP hD hS => ?_)
                          have hP : va_P D vwCl (Wm am gm sLen (va_up sKind (((cN t) * 6) + (sLen (cN t))) (cN k)) (upd sExt (((cN t) * 6) + (sLen (cN t))) x) (va_up sMust (((cN t) * 6) + (sLen (cN t))) b) rTab rFil mNum rLen rItm made pItm held dByt dLen ver fAdr fTab adr tab lf 0 row mWr mWid mOv mPl mTh mSp mPile mNext mSh mShs mRea mWg mEn mDp mAt mTb mSt) H := hP
                          have hD : va_D A (Wm am gm sLen (va_up sKind (((cN t) * 6) + (sLen (cN t))) (cN k)) (upd sExt (((cN t) * 6) + (sLen (cN t))) x) (va_up sMust (((cN t) * 6) + (sLen (cN t))) b) rTab rFil mNum rLen rItm made pItm held dByt dLen ver fAdr fTab adr tab lf 0 row mWr mWid mOv mPl mTh mSp mPile mNext mSh mShs mRea mWg mEn mDp mAt mTb mSt) := hD
                          refine lv_aload_n hx hb d_M_field_166 rfl (lv_at hl 2 rfl) ?_
                          refine va_get (D := D) (ci := 8) (C := R_M) (T := T_M) (N := 39) hx hb hts (fun w h => kT w (i_M w h)) hown hK hP 0 rfl rfl 1 (by decide) (hts _ (kT _ wd_4d2260e1)) (fun _ h9 => h9) rfl d_M_field_167 ?_
                          refine lv_iload_n hx hb d_M_field_170 rfl (lv_at hl 3 rfl) ?_
                          refine lv_dup2_11 hx hb d_M_field_171 rfl rfl ?_
                          refine n_iald hx hb hK hP 1 0 rfl rfl (i := (cN t)) (by omega) (by decide) d_M_field_172 ?_
                          refine lv_iconst (v := nI 1) hx hb d_M_field_173 (by decide) ?_
                          refine lv_iadd hx hb d_M_field_174 ?_
                          refine lv_eqi (nI_add _ _) ?_
                          refine n_iast hx hb hK hP hD hS 1 0 rfl rfl (i := (cN t)) (by omega) (by decide) d_M_field_175 (fun H locs hP hD hS => ?_)
                          have hP : va_P D vwCl (Wm am gm (va_up sLen (cN t) ((sLen (cN t)) + 1)) (va_up sKind (((cN t) * 6) + (sLen (cN t))) (cN k)) (upd sExt (((cN t) * 6) + (sLen (cN t))) x) (va_up sMust (((cN t) * 6) + (sLen (cN t))) b) rTab rFil mNum rLen rItm made pItm held dByt dLen ver fAdr fTab adr tab lf 0 row mWr mWid mOv mPl mTh mSp mPile mNext mSh mShs mRea mWg mEn mDp mAt mTb mSt) H := hP
                          have hD : va_D A (Wm am gm (va_up sLen (cN t) ((sLen (cN t)) + 1)) (va_up sKind (((cN t) * 6) + (sLen (cN t))) (cN k)) (upd sExt (((cN t) * 6) + (sLen (cN t))) x) (va_up sMust (((cN t) * 6) + (sLen (cN t))) b) rTab rFil mNum rLen rItm made pItm held dByt dLen ver fAdr fTab adr tab lf 0 row mWr mWid mOv mPl mTh mSp mPile mNext mSh mShs mRea mWg mEn mDp mAt mTb mSt) := hD
                          refine lv_aload_n hx hb d_M_field_176 rfl (lv_at hl 2 rfl) ?_
                          refine lv_iconst (v := nI 0) hx hb d_M_field_177 (by decide) ?_
                          refine lv_eqi (show nI 0 = bI false by decide) ?_
                          refine va_put (D := D) (ci := 8) (ty := .boolean) (C := R_M) (T := T_M) (N := 39) hx hb hts (fun w h => kT w (i_M w h)) ty_M tyk_M nm_M hown hK hP hD hS 0 rfl rfl 27 (by decide) (hts _ (kT _ wd_a47358da)) (fun _ h9 => h9) rfl (by decide +kernel) (bI_nar _) (bI_fits _) (Nat.le_of_ble_eq_true rfl) d_M_field_178 (fun H locs hP hD hS => ?_)
                          have hP : va_P D vwCl (Wm am gm (va_up sLen (cN t) ((sLen (cN t)) + 1)) (va_up sKind (((cN t) * 6) + (sLen (cN t))) (cN k)) (upd sExt (((cN t) * 6) + (sLen (cN t))) x) (va_up sMust (((cN t) * 6) + (sLen (cN t))) b) rTab rFil mNum rLen rItm made pItm held dByt dLen false fAdr fTab adr tab lf 0 row mWr mWid mOv mPl mTh mSp mPile mNext mSh mShs mRea mWg mEn mDp mAt mTb mSt) H := hP
                          have hD : va_D A (Wm am gm (va_up sLen (cN t) ((sLen (cN t)) + 1)) (va_up sKind (((cN t) * 6) + (sLen (cN t))) (cN k)) (upd sExt (((cN t) * 6) + (sLen (cN t))) x) (va_up sMust (((cN t) * 6) + (sLen (cN t))) b) rTab rFil mNum rLen rItm made pItm held dByt dLen false fAdr fTab adr tab lf 0 row mWr mWid mOv mPl mTh mSp mPile mNext mSh mShs mRea mWg mEn mDp mAt mTb mSt) := hD
                          have hup : (va_up sLen (cN t) ((sLen (cN t)) + 1)) (cN t) = sLen (cN t) + 1 := va_up_self _ _ _
                          refine lv_aload_n hx hb d_M_field_181 rfl (lv_at hl 2 rfl) ?_
                          refine va_get (D := D) (ci := 8) (C := R_M) (T := T_M) (N := 39) hx hb hts (fun w h => kT w (i_M w h)) hown hK hP 0 rfl rfl 1 (by decide) (hts _ (kT _ wd_4d2260e1)) (fun _ h9 => h9) rfl d_M_field_182 ?_
                          refine lv_iload_n hx hb d_M_field_185 rfl (lv_at hl 3 rfl) ?_
                          refine n_iald hx hb hK hP 1 0 rfl rfl (i := (cN t)) (by omega) (by decide) d_M_field_186 ?_
                          refine lv_iconst (v := nI 1) hx hb d_M_field_187 (by decide) ?_
                          refine lv_isub hx hb d_M_field_188 ?_
                          refine lv_eqi (pk_sub (by omega)) ?_
                          exact k_iret hx hb hr hlocks hK hP hD hS (trivial) (by rw [hcd, hup]; rfl) (by rw [hcd]; first | done | rfl) d_M_field_189
                        · skip
                          have c_119 := (nI_eq (by omega) (by omega)).mp c_119
                          have hcd : cdField sLen t k x b = 2 := by rw [hcd0, if_neg (by omega)]
                          refine lv_aload_n hx hb d_M_field_122 rfl (lv_at hl 1 rfl) ?_
                          refine lv_iconst (v := nI 2) hx hb d_M_field_123 (by decide) ?_
                          refine k_callV (m_raise l D am gm tw sLen sKind sExt sMust rTab rFil mNum rLen rItm made pItm held dByt dLen ver fAdr fTab adr tab lf 0 row mWr mWid mOv mPl mTh mSp mPile mNext mSh mShs mRea mWg mEn mDp mAt mTb mSt 2  ) m_M_raise wd_4b1468e4 0 8 rfl rfl rfl kT hx hb hml hown hts ⟨Nat.le_of_ble_eq_true rfl, Nat.le_of_ble_eq_true rfl⟩ ⟨Nat.le_of_ble_eq_true rfl, Nat.le_of_ble_eq_true rfl⟩ hK hP hD hS hA hZ hl.1 rfl rfl (Nat.le_of_ble_eq_true rfl) d_M_field_124 (fun H locs hP hD hS => ?_)
                          have hP : va_P D vwCl (Wm am gm sLen sKind sExt sMust rTab rFil mNum rLen rItm made pItm held dByt dLen ver fAdr fTab adr tab lf 2 row mWr mWid mOv mPl mTh mSp mPile mNext mSh mShs mRea mWg mEn mDp mAt mTb mSt) H := hP
                          have hD : va_D A (Wm am gm sLen sKind sExt sMust rTab rFil mNum rLen rItm made pItm held dByt dLen ver fAdr fTab adr tab lf 2 row mWr mWid mOv mPl mTh mSp mPile mNext mSh mShs mRea mWg mEn mDp mAt mTb mSt) := hD
                          refine W.eq (g2 := F0 m 127 ls [.int (nI 0)]) rfl ?_
                          exact k_iret hx hb hr hlocks hK hP hD hS (trivial) (by rw [hcd]; first | done | rfl) (by rw [hcd]; first | done | rfl) d_M_field_127
                      · skip
                        refine lv_iconst (v := nI 1) hx hb d_M_field_93 (by decide) ?_
                        refine lv_goto (tgt := 98) hx hb d_M_field_94 (by decide) ?_
                        refine lv_istore (lv' := [(5, .int (nI 1)), (0, .ref (am 0)), (1, .int t), (2, .int (nI (cN k))), (3, .int x), (4, .int (bI b))]) hx hb d_M_field_98 hl (by decide) rfl (fun ls hl => ?_)
                        refine lv_iload hx hb d_M_field_100 (lv_at hl 0 rfl) ?_
                        refine lv_if_eq (tgt := 111) hx hb d_M_field_102 (by decide) (fun c_102 => absurd c_102 (by decide)) (fun _ => ?_)
                        have hcd : cdField sLen t k x b = 1 := cdF_1c (by rw [show cN k = 1 by omega]; exact suT_1n (Or.inr (i_lt c_90)))
                        refine lv_aload_n hx hb d_M_field_105 rfl (lv_at hl 1 rfl) ?_
                        refine lv_iconst (v := nI 1) hx hb d_M_field_106 (by decide) ?_
                        refine k_callV (m_raise l D am gm tw sLen sKind sExt sMust rTab rFil mNum rLen rItm made pItm held dByt dLen ver fAdr fTab adr tab lf 0 row mWr mWid mOv mPl mTh mSp mPile mNext mSh mShs mRea mWg mEn mDp mAt mTb mSt 1  ) m_M_raise wd_4b1468e4 0 8 rfl rfl rfl kT hx hb hml hown hts ⟨Nat.le_of_ble_eq_true rfl, Nat.le_of_ble_eq_true rfl⟩ ⟨Nat.le_of_ble_eq_true rfl, Nat.le_of_ble_eq_true rfl⟩ hK hP hD hS hA hZ hl.1 rfl rfl (Nat.le_of_ble_eq_true rfl) d_M_field_107 (fun H locs hP hD hS => ?_)
                        have hP : va_P D vwCl (Wm am gm sLen sKind sExt sMust rTab rFil mNum rLen rItm made pItm held dByt dLen ver fAdr fTab adr tab lf 1 row mWr mWid mOv mPl mTh mSp mPile mNext mSh mShs mRea mWg mEn mDp mAt mTb mSt) H := hP
                        have hD : va_D A (Wm am gm sLen sKind sExt sMust rTab rFil mNum rLen rItm made pItm held dByt dLen ver fAdr fTab adr tab lf 1 row mWr mWid mOv mPl mTh mSp mPile mNext mSh mShs mRea mWg mEn mDp mAt mTb mSt) := hD
                        refine W.eq (g2 := F0 m 110 ls [.int (nI 0)]) rfl ?_
                        exact k_iret hx hb hr hlocks hK hP hD hS (trivial) (by rw [hcd]; first | done | rfl) (by rw [hcd]; first | done | rfl) d_M_field_110
          · skip
            have c_43 := mt (bI_0).mpr c_43
            have c_43 := eq_true_of_ne_false c_43
            refine lv_iconst (v := nI 1) hx hb d_M_field_46 (by decide) ?_
            refine lv_goto (tgt := 51) hx hb d_M_field_47 (by decide) ?_
            refine lv_istore (lv' := [(5, .int (nI 1)), (0, .ref (am 0)), (1, .int t), (2, .int (nI (cN k))), (3, .int x), (4, .int (bI b))]) hx hb d_M_field_51 hl (by decide) rfl (fun ls hl => ?_)
            refine lv_iload hx hb d_M_field_53 (lv_at hl 0 rfl) ?_
            refine lv_if_ne (tgt := 93) hx hb d_M_field_55 (by decide) (fun _ => ?_) (fun c_55 => absurd c_55 (by decide))
            refine lv_iconst (v := nI 1) hx hb d_M_field_93 (by decide) ?_
            refine lv_goto (tgt := 98) hx hb d_M_field_94 (by decide) ?_
            refine lv_istore (lv' := [(5, .int (nI 1)), (0, .ref (am 0)), (1, .int t), (2, .int (nI (cN k))), (3, .int x), (4, .int (bI b))]) hx hb d_M_field_98 hl (by decide) rfl (fun ls hl => ?_)
            refine lv_iload hx hb d_M_field_100 (lv_at hl 0 rfl) ?_
            refine lv_if_eq (tgt := 111) hx hb d_M_field_102 (by decide) (fun c_102 => absurd c_102 (by decide)) (fun _ => ?_)
            have hcd : cdField sLen t k x b = 1 := cdF_1c (by rw [show cN k = 6 by omega, suT_6]; exact t_n c_43)
            refine lv_aload_n hx hb d_M_field_105 rfl (lv_at hl 1 rfl) ?_
            refine lv_iconst (v := nI 1) hx hb d_M_field_106 (by decide) ?_
            refine k_callV (m_raise l D am gm tw sLen sKind sExt sMust rTab rFil mNum rLen rItm made pItm held dByt dLen ver fAdr fTab adr tab lf 0 row mWr mWid mOv mPl mTh mSp mPile mNext mSh mShs mRea mWg mEn mDp mAt mTb mSt 1  ) m_M_raise wd_4b1468e4 0 8 rfl rfl rfl kT hx hb hml hown hts ⟨Nat.le_of_ble_eq_true rfl, Nat.le_of_ble_eq_true rfl⟩ ⟨Nat.le_of_ble_eq_true rfl, Nat.le_of_ble_eq_true rfl⟩ hK hP hD hS hA hZ hl.1 rfl rfl (Nat.le_of_ble_eq_true rfl) d_M_field_107 (fun H locs hP hD hS => ?_)
            have hP : va_P D vwCl (Wm am gm sLen sKind sExt sMust rTab rFil mNum rLen rItm made pItm held dByt dLen ver fAdr fTab adr tab lf 1 row mWr mWid mOv mPl mTh mSp mPile mNext mSh mShs mRea mWg mEn mDp mAt mTb mSt) H := hP
            have hD : va_D A (Wm am gm sLen sKind sExt sMust rTab rFil mNum rLen rItm made pItm held dByt dLen ver fAdr fTab adr tab lf 1 row mWr mWid mOv mPl mTh mSp mPile mNext mSh mShs mRea mWg mEn mDp mAt mTb mSt) := hD
            refine W.eq (g2 := F0 m 110 ls [.int (nI 0)]) rfl ?_
            exact k_iret hx hb hr hlocks hK hP hD hS (trivial) (by rw [hcd]; first | done | rfl) (by rw [hcd]; first | done | rfl) d_M_field_110
      · skip
        have c_24 := mt (nI_leI (by omega) (by omega)).mpr c_24
        refine lv_iload hx hb d_M_field_27 (lv_at hl 4 rfl) ?_
        refine lv_if_ne (tgt := 46) hx hb d_M_field_29 (by decide) (fun c_29 => ?_) (fun c_29 => ?_)
        · skip
          have c_29 := mt (bI_0).mpr c_29
          have c_29 := eq_true_of_ne_false c_29
          refine lv_iconst (v := nI 1) hx hb d_M_field_46 (by decide) ?_
          refine lv_goto (tgt := 51) hx hb d_M_field_47 (by decide) ?_
          refine lv_istore (lv' := [(5, .int (nI 1)), (0, .ref (am 0)), (1, .int t), (2, .int (nI (cN k))), (3, .int x), (4, .int (bI b))]) hx hb d_M_field_51 hl (by decide) rfl (fun ls hl => ?_)
          refine lv_iload hx hb d_M_field_53 (lv_at hl 0 rfl) ?_
          refine lv_if_ne (tgt := 93) hx hb d_M_field_55 (by decide) (fun _ => ?_) (fun c_55 => absurd c_55 (by decide))
          refine lv_iconst (v := nI 1) hx hb d_M_field_93 (by decide) ?_
          refine lv_goto (tgt := 98) hx hb d_M_field_94 (by decide) ?_
          refine lv_istore (lv' := [(5, .int (nI 1)), (0, .ref (am 0)), (1, .int t), (2, .int (nI (cN k))), (3, .int x), (4, .int (bI b))]) hx hb d_M_field_98 hl (by decide) rfl (fun ls hl => ?_)
          refine lv_iload hx hb d_M_field_100 (lv_at hl 0 rfl) ?_
          refine lv_if_eq (tgt := 111) hx hb d_M_field_102 (by decide) (fun c_102 => absurd c_102 (by decide)) (fun _ => ?_)
          have hcd : cdField sLen t k x b = 1 := cdF_1d ⟨c_29, by omega⟩
          refine lv_aload_n hx hb d_M_field_105 rfl (lv_at hl 1 rfl) ?_
          refine lv_iconst (v := nI 1) hx hb d_M_field_106 (by decide) ?_
          refine k_callV (m_raise l D am gm tw sLen sKind sExt sMust rTab rFil mNum rLen rItm made pItm held dByt dLen ver fAdr fTab adr tab lf 0 row mWr mWid mOv mPl mTh mSp mPile mNext mSh mShs mRea mWg mEn mDp mAt mTb mSt 1  ) m_M_raise wd_4b1468e4 0 8 rfl rfl rfl kT hx hb hml hown hts ⟨Nat.le_of_ble_eq_true rfl, Nat.le_of_ble_eq_true rfl⟩ ⟨Nat.le_of_ble_eq_true rfl, Nat.le_of_ble_eq_true rfl⟩ hK hP hD hS hA hZ hl.1 rfl rfl (Nat.le_of_ble_eq_true rfl) d_M_field_107 (fun H locs hP hD hS => ?_)
          have hP : va_P D vwCl (Wm am gm sLen sKind sExt sMust rTab rFil mNum rLen rItm made pItm held dByt dLen ver fAdr fTab adr tab lf 1 row mWr mWid mOv mPl mTh mSp mPile mNext mSh mShs mRea mWg mEn mDp mAt mTb mSt) H := hP
          have hD : va_D A (Wm am gm sLen sKind sExt sMust rTab rFil mNum rLen rItm made pItm held dByt dLen ver fAdr fTab adr tab lf 1 row mWr mWid mOv mPl mTh mSp mPile mNext mSh mShs mRea mWg mEn mDp mAt mTb mSt) := hD
          refine W.eq (g2 := F0 m 110 ls [.int (nI 0)]) rfl ?_
          exact k_iret hx hb hr hlocks hK hP hD hS (trivial) (by rw [hcd]; first | done | rfl) (by rw [hcd]; first | done | rfl) d_M_field_110
        · skip
          have c_29 := (bI_0).mp c_29
          refine lv_iload_n hx hb d_M_field_32 rfl (lv_at hl 2 rfl) ?_
          refine lv_bipush (v := nI 6) hx hb d_M_field_33 (by decide) ?_
          refine lv_icmp_ne (tgt := 50) hx hb d_M_field_35 (by decide) (fun c_35 => ?_) (fun c_35 => ?_)
          · skip
            have c_35 := mt (nI_eq (by omega) (by omega)).mpr c_35
            refine lv_iconst (v := nI 0) hx hb d_M_field_50 (by decide) ?_
            refine lv_istore (lv' := [(5, .int (nI 0)), (0, .ref (am 0)), (1, .int t), (2, .int (nI (cN k))), (3, .int x), (4, .int (bI b))]) hx hb d_M_field_51 hl (by decide) rfl (fun ls hl => ?_)
            refine lv_iload hx hb d_M_field_53 (lv_at hl 0 rfl) ?_
            refine lv_if_ne (tgt := 93) hx hb d_M_field_55 (by decide) (fun c_55 => absurd (by decide) c_55) (fun _ => ?_)
            refine lv_iload_n hx hb d_M_field_58 rfl (lv_at hl 3 rfl) ?_
            refine lv_if_ne (tgt := 74) hx hb d_M_field_59 (by decide) (fun c_59 => ?_) (fun c_59 => ?_)
            · skip
              have c_59 := mt (z_eq (by omega)).mpr c_59
              refine lv_iload_n hx hb d_M_field_74 rfl (lv_at hl 3 rfl) ?_
              refine lv_iconst (v := nI 1) hx hb d_M_field_75 (by decide) ?_
              refine lv_icmp_ne (tgt := 97) hx hb d_M_field_76 (by decide) (fun c_76 => ?_) (fun c_76 => ?_)
              · skip
                have c_76 := mt (nI_eq (by omega) (by omega)).mpr c_76
                refine lv_iconst (v := nI 0) hx hb d_M_field_97 (by decide) ?_
                refine lv_istore (lv' := [(5, .int (nI 0)), (0, .ref (am 0)), (1, .int t), (2, .int (nI (cN k))), (3, .int x), (4, .int (bI b))]) hx hb d_M_field_98 hl (by decide) rfl (fun ls hl => ?_)
                refine lv_iload hx hb d_M_field_100 (lv_at hl 0 rfl) ?_
                refine lv_if_eq (tgt := 111) hx hb d_M_field_102 (by decide) (fun _ => ?_) (fun c_102 => absurd (by decide) c_102)
                have hcd0 : cdField sLen t k x b = if sLen (cN t) < 6 then 0 else 2 := cdF_2 (t_y c_10) (o_y c_19) (suT_r (by omega) (by omega) (by omega)) (fun z => by rw [c_29] at z; exact absurd z.1 (by decide))
                obtain ⟨n_t, b_t⟩ := okT_spec (t_y c_10)
                have hl : lv_has ls 7 [(5, .int (nI 0)), (0, .ref (am 0)), (1, .int (nI (cN t))), (2, .int (nI (cN k))), (3, .int x), (4, .int (bI b))] := by rw [← n_t]; exact hl
                have hL1 := hL (cN t)
                refine lv_aload_n hx hb d_M_field_111 rfl (lv_at hl 1 rfl) ?_
                refine va_get (D := D) (ci := 8) (C := R_M) (T := T_M) (N := 39) hx hb hts (fun w h => kT w (i_M w h)) hown hK hP 0 rfl rfl 1 (by decide) (hts _ (kT _ wd_4d2260e1)) (fun _ h9 => h9) rfl d_M_field_112 ?_
                refine lv_iload_n hx hb d_M_field_115 rfl (lv_at hl 2 rfl) ?_
                refine n_iald hx hb hK hP 1 0 rfl rfl (i := (cN t)) (by omega) (by decide) d_M_field_116 ?_
                refine lv_bipush (v := nI 6) hx hb d_M_field_117 (by decide) ?_
                refine lv_icmp_ne (tgt := 128) hx hb d_M_field_119 (by decide) (fun c_119 => ?_) (fun c_119 => ?_)
                · skip
                  have c_119 := mt (nI_eq (by omega) (by omega)).mpr c_119
                  have hcd : cdField sLen t k x b = 0 := by rw [hcd0, if_pos (by omega)]
                  refine lv_bipush (v := nI 6) hx hb d_M_field_128 (by decide) ?_
                  refine lv_iload_n hx hb d_M_field_130 rfl (lv_at hl 2 rfl) ?_
                  refine lv_imul hx hb d_M_field_131 ?_
                  refine lv_eqi ((pk_mul _ _).trans (nI_congr (Nat.mul_comm _ _))) ?_
                  refine lv_aload_n hx hb d_M_field_132 rfl (lv_at hl 1 rfl) ?_
                  refine va_get (D := D) (ci := 8) (C := R_M) (T := T_M) (N := 39) hx hb hts (fun w h => kT w (i_M w h)) hown hK hP 0 rfl rfl 1 (by decide) (hts _ (kT _ wd_4d2260e1)) (fun _ h9 => h9) rfl d_M_field_133 ?_
                  refine lv_iload_n hx hb d_M_field_136 rfl (lv_at hl 2 rfl) ?_
                  refine n_iald hx hb hK hP 1 0 rfl rfl (i := (cN t)) (by omega) (by decide) d_M_field_137 ?_
                  refine lv_iadd hx hb d_M_field_138 ?_
                  refine lv_eqi (nI_add _ _) ?_
                  refine lv_istore (lv' := [(6, .int (nI (((cN t) * 6) + (sLen (cN t))))), (5, .int (nI 0)), (0, .ref (am 0)), (1, .int (nI (cN t))), (2, .int (nI (cN k))), (3, .int x), (4, .int (bI b))]) hx hb d_M_field_139 hl (by decide) rfl (fun ls hl => ?_)
                  refine lv_aload_n hx hb d_M_field_141 rfl (lv_at hl 2 rfl) ?_
                  refine va_get (D := D) (ci := 8) (C := R_M) (T := T_M) (N := 39) hx hb hts (fun w h => kT w (i_M w h)) hown hK hP 0 rfl rfl 2 (by decide) (hts _ (kT _ wd_91f4763a)) (fun _ h9 => h9) rfl d_M_field_142 ?_
                  refine lv_iload hx hb d_M_field_145 (lv_at hl 0 rfl) ?_
                  refine lv_iload_n hx hb d_M_field_147 rfl (lv_at hl 4 rfl) ?_
                  refine n_iast hx hb hK hP hD hS 2 1 rfl rfl (i := (((cN t) * 6) + (sLen (cN t)))) (by omega) (by decide) d_M_field_148 (fun H locs hP hD hS => ?_)
                  have hP : va_P D vwCl (Wm am gm sLen (va_up sKind (((cN t) * 6) + (sLen (cN t))) (cN k)) sExt sMust rTab rFil mNum rLen rItm made pItm held dByt dLen ver fAdr fTab adr tab lf 0 row mWr mWid mOv mPl mTh mSp mPile mNext mSh mShs mRea mWg mEn mDp mAt mTb mSt) H := hP
                  have hD : va_D A (Wm am gm sLen (va_up sKind (((cN t) * 6) + (sLen (cN t))) (cN k)) sExt sMust rTab rFil mNum rLen rItm made pItm held dByt dLen ver fAdr fTab adr tab lf 0 row mWr mWid mOv mPl mTh mSp mPile mNext mSh mShs mRea mWg mEn mDp mAt mTb mSt) := hD
                  refine lv_aload_n hx hb d_M_field_149 rfl (lv_at hl 2 rfl) ?_
                  refine va_get (D := D) (ci := 8) (C := R_M) (T := T_M) (N := 39) hx hb hts (fun w h => kT w (i_M w h)) hown hK hP 0 rfl rfl 3 (by decide) (hts _ (kT _ wd_74a62eb0)) (fun _ h9 => h9) rfl d_M_field_150 ?_
                  refine lv_iload hx hb d_M_field_153 (lv_at hl 0 rfl) ?_
                  refine lv_iload_n hx hb d_M_field_155 rfl (lv_at hl 5 rfl) ?_
                  refine r_iast hx hb hK hP hD hS 3 2 rfl rfl (i := (((cN t) * 6) + (sLen (cN t)))) (by omega) (by decide) d_M_field_156 (fun H locs hP hD hS => ?_)
                  have hP : va_P D vwCl (Wm am gm sLen (va_up sKind (((cN t) * 6) + (sLen (cN t))) (cN k)) (upd sExt (((cN t) * 6) + (sLen (cN t))) x) sMust rTab rFil mNum rLen rItm made pItm held dByt dLen ver fAdr fTab adr tab lf 0 row mWr mWid mOv mPl mTh mSp mPile mNext mSh mShs mRea mWg mEn mDp mAt mTb mSt) H := hP
                  have hD : va_D A (Wm am gm sLen (va_up sKind (((cN t) * 6) + (sLen (cN t))) (cN k)) (upd sExt (((cN t) * 6) + (sLen (cN t))) x) sMust rTab rFil mNum rLen rItm made pItm held dByt dLen ver fAdr fTab adr tab lf 0 row mWr mWid mOv mPl mTh mSp mPile mNext mSh mShs mRea mWg mEn mDp mAt mTb mSt) := hD
                  refine lv_aload_n hx hb d_M_field_157 rfl (lv_at hl 2 rfl) ?_
                  refine va_get (D := D) (ci := 8) (C := R_M) (T := T_M) (N := 39) hx hb hts (fun w h => kT w (i_M w h)) hown hK hP 0 rfl rfl 4 (by decide) (hts _ (kT _ wd_de26f6e3)) (fun _ h9 => h9) rfl d_M_field_158 ?_
                  refine lv_iload hx hb d_M_field_161 (lv_at hl 0 rfl) ?_
                  refine lv_iload hx hb d_M_field_163 (lv_at hl 6 rfl) ?_
                  refine z_zast hx hb hK hP hD hS 4 3 rfl rfl (i := (((cN t) * 6) + (sLen (cN t)))) (by omega) (by decide) d_M_field_165 (fun H locs hP hD hS => ?_)
                  have hP : va_P D vwCl (Wm am gm sLen (va_up sKind (((cN t) * 6) + (sLen (cN t))) (cN k)) (upd sExt (((cN t) * 6) + (sLen (cN t))) x) (va_up sMust (((cN t) * 6) + (sLen (cN t))) b) rTab rFil mNum rLen rItm made pItm held dByt dLen ver fAdr fTab adr tab lf 0 row mWr mWid mOv mPl mTh mSp mPile mNext mSh mShs mRea mWg mEn mDp mAt mTb mSt) H := hP
                  have hD : va_D A (Wm am gm sLen (va_up sKind (((cN t) * 6) + (sLen (cN t))) (cN k)) (upd sExt (((cN t) * 6) + (sLen (cN t))) x) (va_up sMust (((cN t) * 6) + (sLen (cN t))) b) rTab rFil mNum rLen rItm made pItm held dByt dLen ver fAdr fTab adr tab lf 0 row mWr mWid mOv mPl mTh mSp mPile mNext mSh mShs mRea mWg mEn mDp mAt mTb mSt) := hD
                  refine lv_aload_n hx hb d_M_field_166 rfl (lv_at hl 2 rfl) ?_
                  refine va_get (D := D) (ci := 8) (C := R_M) (T := T_M) (N := 39) hx hb hts (fun w h => kT w (i_M w h)) hown hK hP 0 rfl rfl 1 (by decide) (hts _ (kT _ wd_4d2260e1)) (fun _ h9 => h9) rfl d_M_field_167 ?_
                  refine lv_iload_n hx hb d_M_field_170 rfl (lv_at hl 3 rfl) ?_
                  refine lv_dup2_11 hx hb d_M_field_171 rfl rfl ?_
                  refine n_iald hx hb hK hP 1 0 rfl rfl (i := (cN t)) (by omega) (by decide) d_M_field_172 ?_
                  refine lv_iconst (v := nI 1) hx hb d_M_field_173 (by decide) ?_
                  refine lv_iadd hx hb d_M_field_174 ?_
                  refine lv_eqi (nI_add _ _) ?_
                  refine n_iast hx hb hK hP hD hS 1 0 rfl rfl (i := (cN t)) (by omega) (by decide) d_M_field_175 (fun H locs hP hD hS => ?_)
                  have hP : va_P D vwCl (Wm am gm (va_up sLen (cN t) ((sLen (cN t)) + 1)) (va_up sKind (((cN t) * 6) + (sLen (cN t))) (cN k)) (upd sExt (((cN t) * 6) + (sLen (cN t))) x) (va_up sMust (((cN t) * 6) + (sLen (cN t))) b) rTab rFil mNum rLen rItm made pItm held dByt dLen ver fAdr fTab adr tab lf 0 row mWr mWid mOv mPl mTh mSp mPile mNext mSh mShs mRea mWg mEn mDp mAt mTb mSt) H := hP
                  have hD : va_D A (Wm am gm (va_up sLen (cN t) ((sLen (cN t)) + 1)) (va_up sKind (((cN t) * 6) + (sLen (cN t))) (cN k)) (upd sExt (((cN t) * 6) + (sLen (cN t))) x) (va_up sMust (((cN t) * 6) + (sLen (cN t))) b) rTab rFil mNum rLen rItm made pItm held dByt dLen ver fAdr fTab adr tab lf 0 row mWr mWid mOv mPl mTh mSp mPile mNext mSh mShs mRea mWg mEn mDp mAt mTb mSt) := hD
                  refine lv_aload_n hx hb d_M_field_176 rfl (lv_at hl 2 rfl) ?_
                  refine lv_iconst (v := nI 0) hx hb d_M_field_177 (by decide) ?_
                  refine lv_eqi (show nI 0 = bI false by decide) ?_
                  refine va_put (D := D) (ci := 8) (ty := .boolean) (C := R_M) (T := T_M) (N := 39) hx hb hts (fun w h => kT w (i_M w h)) ty_M tyk_M nm_M hown hK hP hD hS 0 rfl rfl 27 (by decide) (hts _ (kT _ wd_a47358da)) (fun _ h9 => h9) rfl (by decide +kernel) (bI_nar _) (bI_fits _) (Nat.le_of_ble_eq_true rfl) d_M_field_178 (fun H locs hP hD hS => ?_)
                  have hP : va_P D vwCl (Wm am gm (va_up sLen (cN t) ((sLen (cN t)) + 1)) (va_up sKind (((cN t) * 6) + (sLen (cN t))) (cN k)) (upd sExt (((cN t) * 6) + (sLen (cN t))) x) (va_up sMust (((cN t) * 6) + (sLen (cN t))) b) rTab rFil mNum rLen rItm made pItm held dByt dLen false fAdr fTab adr tab lf 0 row mWr mWid mOv mPl mTh mSp mPile mNext mSh mShs mRea mWg mEn mDp mAt mTb mSt) H := hP
                  have hD : va_D A (Wm am gm (va_up sLen (cN t) ((sLen (cN t)) + 1)) (va_up sKind (((cN t) * 6) + (sLen (cN t))) (cN k)) (upd sExt (((cN t) * 6) + (sLen (cN t))) x) (va_up sMust (((cN t) * 6) + (sLen (cN t))) b) rTab rFil mNum rLen rItm made pItm held dByt dLen false fAdr fTab adr tab lf 0 row mWr mWid mOv mPl mTh mSp mPile mNext mSh mShs mRea mWg mEn mDp mAt mTb mSt) := hD
                  have hup : (va_up sLen (cN t) ((sLen (cN t)) + 1)) (cN t) = sLen (cN t) + 1 := va_up_self _ _ _
                  refine lv_aload_n hx hb d_M_field_181 rfl (lv_at hl 2 rfl) ?_
                  refine va_get (D := D) (ci := 8) (C := R_M) (T := T_M) (N := 39) hx hb hts (fun w h => kT w (i_M w h)) hown hK hP 0 rfl rfl 1 (by decide) (hts _ (kT _ wd_4d2260e1)) (fun _ h9 => h9) rfl d_M_field_182 ?_
                  refine lv_iload_n hx hb d_M_field_185 rfl (lv_at hl 3 rfl) ?_
                  refine n_iald hx hb hK hP 1 0 rfl rfl (i := (cN t)) (by omega) (by decide) d_M_field_186 ?_
                  refine lv_iconst (v := nI 1) hx hb d_M_field_187 (by decide) ?_
                  refine lv_isub hx hb d_M_field_188 ?_
                  refine lv_eqi (pk_sub (by omega)) ?_
                  exact k_iret hx hb hr hlocks hK hP hD hS (trivial) (by rw [hcd, hup]; rfl) (by rw [hcd]; first | done | rfl) d_M_field_189
                · skip
                  have c_119 := (nI_eq (by omega) (by omega)).mp c_119
                  have hcd : cdField sLen t k x b = 2 := by rw [hcd0, if_neg (by omega)]
                  refine lv_aload_n hx hb d_M_field_122 rfl (lv_at hl 1 rfl) ?_
                  refine lv_iconst (v := nI 2) hx hb d_M_field_123 (by decide) ?_
                  refine k_callV (m_raise l D am gm tw sLen sKind sExt sMust rTab rFil mNum rLen rItm made pItm held dByt dLen ver fAdr fTab adr tab lf 0 row mWr mWid mOv mPl mTh mSp mPile mNext mSh mShs mRea mWg mEn mDp mAt mTb mSt 2  ) m_M_raise wd_4b1468e4 0 8 rfl rfl rfl kT hx hb hml hown hts ⟨Nat.le_of_ble_eq_true rfl, Nat.le_of_ble_eq_true rfl⟩ ⟨Nat.le_of_ble_eq_true rfl, Nat.le_of_ble_eq_true rfl⟩ hK hP hD hS hA hZ hl.1 rfl rfl (Nat.le_of_ble_eq_true rfl) d_M_field_124 (fun H locs hP hD hS => ?_)
                  have hP : va_P D vwCl (Wm am gm sLen sKind sExt sMust rTab rFil mNum rLen rItm made pItm held dByt dLen ver fAdr fTab adr tab lf 2 row mWr mWid mOv mPl mTh mSp mPile mNext mSh mShs mRea mWg mEn mDp mAt mTb mSt) H := hP
                  have hD : va_D A (Wm am gm sLen sKind sExt sMust rTab rFil mNum rLen rItm made pItm held dByt dLen ver fAdr fTab adr tab lf 2 row mWr mWid mOv mPl mTh mSp mPile mNext mSh mShs mRea mWg mEn mDp mAt mTb mSt) := hD
                  refine W.eq (g2 := F0 m 127 ls [.int (nI 0)]) rfl ?_
                  exact k_iret hx hb hr hlocks hK hP hD hS (trivial) (by rw [hcd]; first | done | rfl) (by rw [hcd]; first | done | rfl) d_M_field_127
              · skip
                have c_76 := (nI_eq (by omega) (by omega)).mp c_76
                refine lv_iload_n hx hb d_M_field_79 rfl (lv_at hl 4 rfl) ?_
                refine lv_sipush (v := -32768) hx hb d_M_field_80 (by decide) ?_
                refine lv_icmp_lt (tgt := 93) hx hb d_M_field_83 (by decide) (fun c_83 => ?_) (fun c_83 => ?_)
                · skip
                  refine lv_iconst (v := nI 1) hx hb d_M_field_93 (by decide) ?_
                  refine lv_goto (tgt := 98) hx hb d_M_field_94 (by decide) ?_
                  refine lv_istore (lv' := [(5, .int (nI 1)), (0, .ref (am 0)), (1, .int t), (2, .int (nI (cN k))), (3, .int x), (4, .int (bI b))]) hx hb d_M_field_98 hl (by decide) rfl (fun ls hl => ?_)
                  refine lv_iload hx hb d_M_field_100 (lv_at hl 0 rfl) ?_
                  refine lv_if_eq (tgt := 111) hx hb d_M_field_102 (by decide) (fun c_102 => absurd c_102 (by decide)) (fun _ => ?_)
                  have hcd : cdField sLen t k x b = 1 := cdF_1c (by rw [show cN k = 1 by omega]; exact suT_1n (Or.inl c_83))
                  refine lv_aload_n hx hb d_M_field_105 rfl (lv_at hl 1 rfl) ?_
                  refine lv_iconst (v := nI 1) hx hb d_M_field_106 (by decide) ?_
                  refine k_callV (m_raise l D am gm tw sLen sKind sExt sMust rTab rFil mNum rLen rItm made pItm held dByt dLen ver fAdr fTab adr tab lf 0 row mWr mWid mOv mPl mTh mSp mPile mNext mSh mShs mRea mWg mEn mDp mAt mTb mSt 1  ) m_M_raise wd_4b1468e4 0 8 rfl rfl rfl kT hx hb hml hown hts ⟨Nat.le_of_ble_eq_true rfl, Nat.le_of_ble_eq_true rfl⟩ ⟨Nat.le_of_ble_eq_true rfl, Nat.le_of_ble_eq_true rfl⟩ hK hP hD hS hA hZ hl.1 rfl rfl (Nat.le_of_ble_eq_true rfl) d_M_field_107 (fun H locs hP hD hS => ?_)
                  have hP : va_P D vwCl (Wm am gm sLen sKind sExt sMust rTab rFil mNum rLen rItm made pItm held dByt dLen ver fAdr fTab adr tab lf 1 row mWr mWid mOv mPl mTh mSp mPile mNext mSh mShs mRea mWg mEn mDp mAt mTb mSt) H := hP
                  have hD : va_D A (Wm am gm sLen sKind sExt sMust rTab rFil mNum rLen rItm made pItm held dByt dLen ver fAdr fTab adr tab lf 1 row mWr mWid mOv mPl mTh mSp mPile mNext mSh mShs mRea mWg mEn mDp mAt mTb mSt) := hD
                  refine W.eq (g2 := F0 m 110 ls [.int (nI 0)]) rfl ?_
                  exact k_iret hx hb hr hlocks hK hP hD hS (trivial) (by rw [hcd]; first | done | rfl) (by rw [hcd]; first | done | rfl) d_M_field_110
                · skip
                  refine lv_iload_n hx hb d_M_field_86 rfl (lv_at hl 4 rfl) ?_
                  refine lv_sipush (v := nI 32767) hx hb d_M_field_87 (by decide) ?_
                  refine lv_icmp_le (tgt := 97) hx hb d_M_field_90 (by decide) (fun c_90 => ?_) (fun c_90 => ?_)
                  · skip
                    refine lv_iconst (v := nI 0) hx hb d_M_field_97 (by decide) ?_
                    refine lv_istore (lv' := [(5, .int (nI 0)), (0, .ref (am 0)), (1, .int t), (2, .int (nI (cN k))), (3, .int x), (4, .int (bI b))]) hx hb d_M_field_98 hl (by decide) rfl (fun ls hl => ?_)
                    refine lv_iload hx hb d_M_field_100 (lv_at hl 0 rfl) ?_
                    refine lv_if_eq (tgt := 111) hx hb d_M_field_102 (by decide) (fun _ => ?_) (fun c_102 => absurd (by decide) c_102)
                    have hcd0 : cdField sLen t k x b = if sLen (cN t) < 6 then 0 else 2 := cdF_2 (t_y c_10) (o_y c_19) (by rw [show cN k = 1 by omega]; exact suT_1 c_83 c_90) (fun z => by rw [c_29] at z; exact absurd z.1 (by decide))
                    obtain ⟨n_t, b_t⟩ := okT_spec (t_y c_10)
                    have hl : lv_has ls 7 [(5, .int (nI 0)), (0, .ref (am 0)), (1, .int (nI (cN t))), (2, .int (nI (cN k))), (3, .int x), (4, .int (bI b))] := by rw [← n_t]; exact hl
                    have hL1 := hL (cN t)
                    refine lv_aload_n hx hb d_M_field_111 rfl (lv_at hl 1 rfl) ?_
                    refine va_get (D := D) (ci := 8) (C := R_M) (T := T_M) (N := 39) hx hb hts (fun w h => kT w (i_M w h)) hown hK hP 0 rfl rfl 1 (by decide) (hts _ (kT _ wd_4d2260e1)) (fun _ h9 => h9) rfl d_M_field_112 ?_
                    refine lv_iload_n hx hb d_M_field_115 rfl (lv_at hl 2 rfl) ?_
                    refine n_iald hx hb hK hP 1 0 rfl rfl (i := (cN t)) (by omega) (by decide) d_M_field_116 ?_
                    refine lv_bipush (v := nI 6) hx hb d_M_field_117 (by decide) ?_
                    refine lv_icmp_ne (tgt := 128) hx hb d_M_field_119 (by decide) (fun c_119 => ?_) (fun c_119 => ?_)
                    · skip
                      have c_119 := mt (nI_eq (by omega) (by omega)).mpr c_119
                      have hcd : cdField sLen t k x b = 0 := by rw [hcd0, if_pos (by omega)]
                      refine lv_bipush (v := nI 6) hx hb d_M_field_128 (by decide) ?_
                      refine lv_iload_n hx hb d_M_field_130 rfl (lv_at hl 2 rfl) ?_
                      refine lv_imul hx hb d_M_field_131 ?_
                      refine lv_eqi ((pk_mul _ _).trans (nI_congr (Nat.mul_comm _ _))) ?_
                      refine lv_aload_n hx hb d_M_field_132 rfl (lv_at hl 1 rfl) ?_
                      refine va_get (D := D) (ci := 8) (C := R_M) (T := T_M) (N := 39) hx hb hts (fun w h => kT w (i_M w h)) hown hK hP 0 rfl rfl 1 (by decide) (hts _ (kT _ wd_4d2260e1)) (fun _ h9 => h9) rfl d_M_field_133 ?_
                      refine lv_iload_n hx hb d_M_field_136 rfl (lv_at hl 2 rfl) ?_
                      refine n_iald hx hb hK hP 1 0 rfl rfl (i := (cN t)) (by omega) (by decide) d_M_field_137 ?_
                      refine lv_iadd hx hb d_M_field_138 ?_
                      refine lv_eqi (nI_add _ _) ?_
                      refine lv_istore (lv' := [(6, .int (nI (((cN t) * 6) + (sLen (cN t))))), (5, .int (nI 0)), (0, .ref (am 0)), (1, .int (nI (cN t))), (2, .int (nI (cN k))), (3, .int x), (4, .int (bI b))]) hx hb d_M_field_139 hl (by decide) rfl (fun ls hl => ?_)
                      refine lv_aload_n hx hb d_M_field_141 rfl (lv_at hl 2 rfl) ?_
                      refine va_get (D := D) (ci := 8) (C := R_M) (T := T_M) (N := 39) hx hb hts (fun w h => kT w (i_M w h)) hown hK hP 0 rfl rfl 2 (by decide) (hts _ (kT _ wd_91f4763a)) (fun _ h9 => h9) rfl d_M_field_142 ?_
                      refine lv_iload hx hb d_M_field_145 (lv_at hl 0 rfl) ?_
                      refine lv_iload_n hx hb d_M_field_147 rfl (lv_at hl 4 rfl) ?_
                      refine n_iast hx hb hK hP hD hS 2 1 rfl rfl (i := (((cN t) * 6) + (sLen (cN t)))) (by omega) (by decide) d_M_field_148 (fun H locs hP hD hS => ?_)
                      have hP : va_P D vwCl (Wm am gm sLen (va_up sKind (((cN t) * 6) + (sLen (cN t))) (cN k)) sExt sMust rTab rFil mNum rLen rItm made pItm held dByt dLen ver fAdr fTab adr tab lf 0 row mWr mWid mOv mPl mTh mSp mPile mNext mSh mShs mRea mWg mEn mDp mAt mTb mSt) H := hP
                      have hD : va_D A (Wm am gm sLen (va_up sKind (((cN t) * 6) + (sLen (cN t))) (cN k)) sExt sMust rTab rFil mNum rLen rItm made pItm held dByt dLen ver fAdr fTab adr tab lf 0 row mWr mWid mOv mPl mTh mSp mPile mNext mSh mShs mRea mWg mEn mDp mAt mTb mSt) := hD
                      refine lv_aload_n hx hb d_M_field_149 rfl (lv_at hl 2 rfl) ?_
                      refine va_get (D := D) (ci := 8) (C := R_M) (T := T_M) (N := 39) hx hb hts (fun w h => kT w (i_M w h)) hown hK hP 0 rfl rfl 3 (by decide) (hts _ (kT _ wd_74a62eb0)) (fun _ h9 => h9) rfl d_M_field_150 ?_
                      refine lv_iload hx hb d_M_field_153 (lv_at hl 0 rfl) ?_
                      refine lv_iload_n hx hb d_M_field_155 rfl (lv_at hl 5 rfl) ?_
                      refine r_iast hx hb hK hP hD hS 3 2 rfl rfl (i := (((cN t) * 6) + (sLen (cN t)))) (by omega) (by decide) d_M_field_156 (fun H locs hP hD hS => ?_)
                      have hP : va_P D vwCl (Wm am gm sLen (va_up sKind (((cN t) * 6) + (sLen (cN t))) (cN k)) (upd sExt (((cN t) * 6) + (sLen (cN t))) x) sMust rTab rFil mNum rLen rItm made pItm held dByt dLen ver fAdr fTab adr tab lf 0 row mWr mWid mOv mPl mTh mSp mPile mNext mSh mShs mRea mWg mEn mDp mAt mTb mSt) H := hP
                      have hD : va_D A (Wm am gm sLen (va_up sKind (((cN t) * 6) + (sLen (cN t))) (cN k)) (upd sExt (((cN t) * 6) + (sLen (cN t))) x) sMust rTab rFil mNum rLen rItm made pItm held dByt dLen ver fAdr fTab adr tab lf 0 row mWr mWid mOv mPl mTh mSp mPile mNext mSh mShs mRea mWg mEn mDp mAt mTb mSt) := hD
                      refine lv_aload_n hx hb d_M_field_157 rfl (lv_at hl 2 rfl) ?_
                      refine va_get (D := D) (ci := 8) (C := R_M) (T := T_M) (N := 39) hx hb hts (fun w h => kT w (i_M w h)) hown hK hP 0 rfl rfl 4 (by decide) (hts _ (kT _ wd_de26f6e3)) (fun _ h9 => h9) rfl d_M_field_158 ?_
                      refine lv_iload hx hb d_M_field_161 (lv_at hl 0 rfl) ?_
                      refine lv_iload hx hb d_M_field_163 (lv_at hl 6 rfl) ?_
                      refine z_zast hx hb hK hP hD hS 4 3 rfl rfl (i := (((cN t) * 6) + (sLen (cN t)))) (by omega) (by decide) d_M_field_165 (fun H locs hP hD hS => ?_)
                      have hP : va_P D vwCl (Wm am gm sLen (va_up sKind (((cN t) * 6) + (sLen (cN t))) (cN k)) (upd sExt (((cN t) * 6) + (sLen (cN t))) x) (va_up sMust (((cN t) * 6) + (sLen (cN t))) b) rTab rFil mNum rLen rItm made pItm held dByt dLen ver fAdr fTab adr tab lf 0 row mWr mWid mOv mPl mTh mSp mPile mNext mSh mShs mRea mWg mEn mDp mAt mTb mSt) H := hP
                      have hD : va_D A (Wm am gm sLen (va_up sKind (((cN t) * 6) + (sLen (cN t))) (cN k)) (upd sExt (((cN t) * 6) + (sLen (cN t))) x) (va_up sMust (((cN t) * 6) + (sLen (cN t))) b) rTab rFil mNum rLen rItm made pItm held dByt dLen ver fAdr fTab adr tab lf 0 row mWr mWid mOv mPl mTh mSp mPile mNext mSh mShs mRea mWg mEn mDp mAt mTb mSt) := hD
                      refine lv_aload_n hx hb d_M_field_166 rfl (lv_at hl 2 rfl) ?_
                      refine va_get (D := D) (ci := 8) (C := R_M) (T := T_M) (N := 39) hx hb hts (fun w h => kT w (i_M w h)) hown hK hP 0 rfl rfl 1 (by decide) (hts _ (kT _ wd_4d2260e1)) (fun _ h9 => h9) rfl d_M_field_167 ?_
                      refine lv_iload_n hx hb d_M_field_170 rfl (lv_at hl 3 rfl) ?_
                      refine lv_dup2_11 hx hb d_M_field_171 rfl rfl ?_
                      refine n_iald hx hb hK hP 1 0 rfl rfl (i := (cN t)) (by omega) (by decide) d_M_field_172 ?_
                      refine lv_iconst (v := nI 1) hx hb d_M_field_173 (by decide) ?_
                      refine lv_iadd hx hb d_M_field_174 ?_
                      refine lv_eqi (nI_add _ _) ?_
                      refine n_iast hx hb hK hP hD hS 1 0 rfl rfl (i := (cN t)) (by omega) (by decide) d_M_field_175 (fun H locs hP hD hS => ?_)
                      have hP : va_P D vwCl (Wm am gm (va_up sLen (cN t) ((sLen (cN t)) + 1)) (va_up sKind (((cN t) * 6) + (sLen (cN t))) (cN k)) (upd sExt (((cN t) * 6) + (sLen (cN t))) x) (va_up sMust (((cN t) * 6) + (sLen (cN t))) b) rTab rFil mNum rLen rItm made pItm held dByt dLen ver fAdr fTab adr tab lf 0 row mWr mWid mOv mPl mTh mSp mPile mNext mSh mShs mRea mWg mEn mDp mAt mTb mSt) H := hP
                      have hD : va_D A (Wm am gm (va_up sLen (cN t) ((sLen (cN t)) + 1)) (va_up sKind (((cN t) * 6) + (sLen (cN t))) (cN k)) (upd sExt (((cN t) * 6) + (sLen (cN t))) x) (va_up sMust (((cN t) * 6) + (sLen (cN t))) b) rTab rFil mNum rLen rItm made pItm held dByt dLen ver fAdr fTab adr tab lf 0 row mWr mWid mOv mPl mTh mSp mPile mNext mSh mShs mRea mWg mEn mDp mAt mTb mSt) := hD
                      refine lv_aload_n hx hb d_M_field_176 rfl (lv_at hl 2 rfl) ?_
                      refine lv_iconst (v := nI 0) hx hb d_M_field_177 (by decide) ?_
                      refine lv_eqi (show nI 0 = bI false by decide) ?_
                      refine va_put (D := D) (ci := 8) (ty := .boolean) (C := R_M) (T := T_M) (N := 39) hx hb hts (fun w h => kT w (i_M w h)) ty_M tyk_M nm_M hown hK hP hD hS 0 rfl rfl 27 (by decide) (hts _ (kT _ wd_a47358da)) (fun _ h9 => h9) rfl (by decide +kernel) (bI_nar _) (bI_fits _) (Nat.le_of_ble_eq_true rfl) d_M_field_178 (fun H locs hP hD hS => ?_)
                      have hP : va_P D vwCl (Wm am gm (va_up sLen (cN t) ((sLen (cN t)) + 1)) (va_up sKind (((cN t) * 6) + (sLen (cN t))) (cN k)) (upd sExt (((cN t) * 6) + (sLen (cN t))) x) (va_up sMust (((cN t) * 6) + (sLen (cN t))) b) rTab rFil mNum rLen rItm made pItm held dByt dLen false fAdr fTab adr tab lf 0 row mWr mWid mOv mPl mTh mSp mPile mNext mSh mShs mRea mWg mEn mDp mAt mTb mSt) H := hP
                      have hD : va_D A (Wm am gm (va_up sLen (cN t) ((sLen (cN t)) + 1)) (va_up sKind (((cN t) * 6) + (sLen (cN t))) (cN k)) (upd sExt (((cN t) * 6) + (sLen (cN t))) x) (va_up sMust (((cN t) * 6) + (sLen (cN t))) b) rTab rFil mNum rLen rItm made pItm held dByt dLen false fAdr fTab adr tab lf 0 row mWr mWid mOv mPl mTh mSp mPile mNext mSh mShs mRea mWg mEn mDp mAt mTb mSt) := hD
                      have hup : (va_up sLen (cN t) ((sLen (cN t)) + 1)) (cN t) = sLen (cN t) + 1 := va_up_self _ _ _
                      refine lv_aload_n hx hb d_M_field_181 rfl (lv_at hl 2 rfl) ?_
                      refine va_get (D := D) (ci := 8) (C := R_M) (T := T_M) (N := 39) hx hb hts (fun w h => kT w (i_M w h)) hown hK hP 0 rfl rfl 1 (by decide) (hts _ (kT _ wd_4d2260e1)) (fun _ h9 => h9) rfl d_M_field_182 ?_
                      refine lv_iload_n hx hb d_M_field_185 rfl (lv_at hl 3 rfl) ?_
                      refine n_iald hx hb hK hP 1 0 rfl rfl (i := (cN t)) (by omega) (by decide) d_M_field_186 ?_
                      refine lv_iconst (v := nI 1) hx hb d_M_field_187 (by decide) ?_
                      refine lv_isub hx hb d_M_field_188 ?_
                      refine lv_eqi (pk_sub (by omega)) ?_
                      exact k_iret hx hb hr hlocks hK hP hD hS (trivial) (by rw [hcd, hup]; rfl) (by rw [hcd]; first | done | rfl) d_M_field_189
                    · skip
                      have c_119 := (nI_eq (by omega) (by omega)).mp c_119
                      have hcd : cdField sLen t k x b = 2 := by rw [hcd0, if_neg (by omega)]
                      refine lv_aload_n hx hb d_M_field_122 rfl (lv_at hl 1 rfl) ?_
                      refine lv_iconst (v := nI 2) hx hb d_M_field_123 (by decide) ?_
                      refine k_callV (m_raise l D am gm tw sLen sKind sExt sMust rTab rFil mNum rLen rItm made pItm held dByt dLen ver fAdr fTab adr tab lf 0 row mWr mWid mOv mPl mTh mSp mPile mNext mSh mShs mRea mWg mEn mDp mAt mTb mSt 2  ) m_M_raise wd_4b1468e4 0 8 rfl rfl rfl kT hx hb hml hown hts ⟨Nat.le_of_ble_eq_true rfl, Nat.le_of_ble_eq_true rfl⟩ ⟨Nat.le_of_ble_eq_true rfl, Nat.le_of_ble_eq_true rfl⟩ hK hP hD hS hA hZ hl.1 rfl rfl (Nat.le_of_ble_eq_true rfl) d_M_field_124 (fun H locs hP hD hS => ?_)
                      have hP : va_P D vwCl (Wm am gm sLen sKind sExt sMust rTab rFil mNum rLen rItm made pItm held dByt dLen ver fAdr fTab adr tab lf 2 row mWr mWid mOv mPl mTh mSp mPile mNext mSh mShs mRea mWg mEn mDp mAt mTb mSt) H := hP
                      have hD : va_D A (Wm am gm sLen sKind sExt sMust rTab rFil mNum rLen rItm made pItm held dByt dLen ver fAdr fTab adr tab lf 2 row mWr mWid mOv mPl mTh mSp mPile mNext mSh mShs mRea mWg mEn mDp mAt mTb mSt) := hD
                      refine W.eq (g2 := F0 m 127 ls [.int (nI 0)]) rfl ?_
                      exact k_iret hx hb hr hlocks hK hP hD hS (trivial) (by rw [hcd]; first | done | rfl) (by rw [hcd]; first | done | rfl) d_M_field_127
                  · skip
                    refine lv_iconst (v := nI 1) hx hb d_M_field_93 (by decide) ?_
                    refine lv_goto (tgt := 98) hx hb d_M_field_94 (by decide) ?_
                    refine lv_istore (lv' := [(5, .int (nI 1)), (0, .ref (am 0)), (1, .int t), (2, .int (nI (cN k))), (3, .int x), (4, .int (bI b))]) hx hb d_M_field_98 hl (by decide) rfl (fun ls hl => ?_)
                    refine lv_iload hx hb d_M_field_100 (lv_at hl 0 rfl) ?_
                    refine lv_if_eq (tgt := 111) hx hb d_M_field_102 (by decide) (fun c_102 => absurd c_102 (by decide)) (fun _ => ?_)
                    have hcd : cdField sLen t k x b = 1 := cdF_1c (by rw [show cN k = 1 by omega]; exact suT_1n (Or.inr (i_lt c_90)))
                    refine lv_aload_n hx hb d_M_field_105 rfl (lv_at hl 1 rfl) ?_
                    refine lv_iconst (v := nI 1) hx hb d_M_field_106 (by decide) ?_
                    refine k_callV (m_raise l D am gm tw sLen sKind sExt sMust rTab rFil mNum rLen rItm made pItm held dByt dLen ver fAdr fTab adr tab lf 0 row mWr mWid mOv mPl mTh mSp mPile mNext mSh mShs mRea mWg mEn mDp mAt mTb mSt 1  ) m_M_raise wd_4b1468e4 0 8 rfl rfl rfl kT hx hb hml hown hts ⟨Nat.le_of_ble_eq_true rfl, Nat.le_of_ble_eq_true rfl⟩ ⟨Nat.le_of_ble_eq_true rfl, Nat.le_of_ble_eq_true rfl⟩ hK hP hD hS hA hZ hl.1 rfl rfl (Nat.le_of_ble_eq_true rfl) d_M_field_107 (fun H locs hP hD hS => ?_)
                    have hP : va_P D vwCl (Wm am gm sLen sKind sExt sMust rTab rFil mNum rLen rItm made pItm held dByt dLen ver fAdr fTab adr tab lf 1 row mWr mWid mOv mPl mTh mSp mPile mNext mSh mShs mRea mWg mEn mDp mAt mTb mSt) H := hP
                    have hD : va_D A (Wm am gm sLen sKind sExt sMust rTab rFil mNum rLen rItm made pItm held dByt dLen ver fAdr fTab adr tab lf 1 row mWr mWid mOv mPl mTh mSp mPile mNext mSh mShs mRea mWg mEn mDp mAt mTb mSt) := hD
                    refine W.eq (g2 := F0 m 110 ls [.int (nI 0)]) rfl ?_
                    exact k_iret hx hb hr hlocks hK hP hD hS (trivial) (by rw [hcd]; first | done | rfl) (by rw [hcd]; first | done | rfl) d_M_field_110
            · skip
              have c_59 := (z_eq (by omega)).mp c_59
              refine lv_iload_n hx hb d_M_field_62 rfl (lv_at hl 4 rfl) ?_
              refine lv_bipush (v := -128) hx hb d_M_field_63 (by decide) ?_
              refine lv_icmp_lt (tgt := 93) hx hb d_M_field_65 (by decide) (fun c_65 => ?_) (fun c_65 => ?_)
              · skip
                refine lv_iconst (v := nI 1) hx hb d_M_field_93 (by decide) ?_
                refine lv_goto (tgt := 98) hx hb d_M_field_94 (by decide) ?_
                refine lv_istore (lv' := [(5, .int (nI 1)), (0, .ref (am 0)), (1, .int t), (2, .int (nI (cN k))), (3, .int x), (4, .int (bI b))]) hx hb d_M_field_98 hl (by decide) rfl (fun ls hl => ?_)
                refine lv_iload hx hb d_M_field_100 (lv_at hl 0 rfl) ?_
                refine lv_if_eq (tgt := 111) hx hb d_M_field_102 (by decide) (fun c_102 => absurd c_102 (by decide)) (fun _ => ?_)
                have hcd : cdField sLen t k x b = 1 := cdF_1c (by rw [show cN k = 0 by omega]; exact suT_0n (Or.inl c_65))
                refine lv_aload_n hx hb d_M_field_105 rfl (lv_at hl 1 rfl) ?_
                refine lv_iconst (v := nI 1) hx hb d_M_field_106 (by decide) ?_
                refine k_callV (m_raise l D am gm tw sLen sKind sExt sMust rTab rFil mNum rLen rItm made pItm held dByt dLen ver fAdr fTab adr tab lf 0 row mWr mWid mOv mPl mTh mSp mPile mNext mSh mShs mRea mWg mEn mDp mAt mTb mSt 1  ) m_M_raise wd_4b1468e4 0 8 rfl rfl rfl kT hx hb hml hown hts ⟨Nat.le_of_ble_eq_true rfl, Nat.le_of_ble_eq_true rfl⟩ ⟨Nat.le_of_ble_eq_true rfl, Nat.le_of_ble_eq_true rfl⟩ hK hP hD hS hA hZ hl.1 rfl rfl (Nat.le_of_ble_eq_true rfl) d_M_field_107 (fun H locs hP hD hS => ?_)
                have hP : va_P D vwCl (Wm am gm sLen sKind sExt sMust rTab rFil mNum rLen rItm made pItm held dByt dLen ver fAdr fTab adr tab lf 1 row mWr mWid mOv mPl mTh mSp mPile mNext mSh mShs mRea mWg mEn mDp mAt mTb mSt) H := hP
                have hD : va_D A (Wm am gm sLen sKind sExt sMust rTab rFil mNum rLen rItm made pItm held dByt dLen ver fAdr fTab adr tab lf 1 row mWr mWid mOv mPl mTh mSp mPile mNext mSh mShs mRea mWg mEn mDp mAt mTb mSt) := hD
                refine W.eq (g2 := F0 m 110 ls [.int (nI 0)]) rfl ?_
                exact k_iret hx hb hr hlocks hK hP hD hS (trivial) (by rw [hcd]; first | done | rfl) (by rw [hcd]; first | done | rfl) d_M_field_110
              · skip
                refine lv_iload_n hx hb d_M_field_68 rfl (lv_at hl 4 rfl) ?_
                refine lv_bipush (v := nI 127) hx hb d_M_field_69 (by decide) ?_
                refine lv_icmp_gt (tgt := 93) hx hb d_M_field_71 (by decide) (fun c_71 => ?_) (fun c_71 => ?_)
                · skip
                  refine lv_iconst (v := nI 1) hx hb d_M_field_93 (by decide) ?_
                  refine lv_goto (tgt := 98) hx hb d_M_field_94 (by decide) ?_
                  refine lv_istore (lv' := [(5, .int (nI 1)), (0, .ref (am 0)), (1, .int t), (2, .int (nI (cN k))), (3, .int x), (4, .int (bI b))]) hx hb d_M_field_98 hl (by decide) rfl (fun ls hl => ?_)
                  refine lv_iload hx hb d_M_field_100 (lv_at hl 0 rfl) ?_
                  refine lv_if_eq (tgt := 111) hx hb d_M_field_102 (by decide) (fun c_102 => absurd c_102 (by decide)) (fun _ => ?_)
                  have hcd : cdField sLen t k x b = 1 := cdF_1c (by rw [show cN k = 0 by omega]; exact suT_0n (Or.inr c_71))
                  refine lv_aload_n hx hb d_M_field_105 rfl (lv_at hl 1 rfl) ?_
                  refine lv_iconst (v := nI 1) hx hb d_M_field_106 (by decide) ?_
                  refine k_callV (m_raise l D am gm tw sLen sKind sExt sMust rTab rFil mNum rLen rItm made pItm held dByt dLen ver fAdr fTab adr tab lf 0 row mWr mWid mOv mPl mTh mSp mPile mNext mSh mShs mRea mWg mEn mDp mAt mTb mSt 1  ) m_M_raise wd_4b1468e4 0 8 rfl rfl rfl kT hx hb hml hown hts ⟨Nat.le_of_ble_eq_true rfl, Nat.le_of_ble_eq_true rfl⟩ ⟨Nat.le_of_ble_eq_true rfl, Nat.le_of_ble_eq_true rfl⟩ hK hP hD hS hA hZ hl.1 rfl rfl (Nat.le_of_ble_eq_true rfl) d_M_field_107 (fun H locs hP hD hS => ?_)
                  have hP : va_P D vwCl (Wm am gm sLen sKind sExt sMust rTab rFil mNum rLen rItm made pItm held dByt dLen ver fAdr fTab adr tab lf 1 row mWr mWid mOv mPl mTh mSp mPile mNext mSh mShs mRea mWg mEn mDp mAt mTb mSt) H := hP
                  have hD : va_D A (Wm am gm sLen sKind sExt sMust rTab rFil mNum rLen rItm made pItm held dByt dLen ver fAdr fTab adr tab lf 1 row mWr mWid mOv mPl mTh mSp mPile mNext mSh mShs mRea mWg mEn mDp mAt mTb mSt) := hD
                  refine W.eq (g2 := F0 m 110 ls [.int (nI 0)]) rfl ?_
                  exact k_iret hx hb hr hlocks hK hP hD hS (trivial) (by rw [hcd]; first | done | rfl) (by rw [hcd]; first | done | rfl) d_M_field_110
                · skip
                  refine lv_iload_n hx hb d_M_field_74 rfl (lv_at hl 3 rfl) ?_
                  refine lv_iconst (v := nI 1) hx hb d_M_field_75 (by decide) ?_
                  refine lv_icmp_ne (tgt := 97) hx hb d_M_field_76 (by decide) (fun c_76 => ?_) (fun c_76 => ?_)
                  · skip
                    have c_76 := mt (nI_eq (by omega) (by omega)).mpr c_76
                    refine lv_iconst (v := nI 0) hx hb d_M_field_97 (by decide) ?_
                    refine lv_istore (lv' := [(5, .int (nI 0)), (0, .ref (am 0)), (1, .int t), (2, .int (nI (cN k))), (3, .int x), (4, .int (bI b))]) hx hb d_M_field_98 hl (by decide) rfl (fun ls hl => ?_)
                    refine lv_iload hx hb d_M_field_100 (lv_at hl 0 rfl) ?_
                    refine lv_if_eq (tgt := 111) hx hb d_M_field_102 (by decide) (fun _ => ?_) (fun c_102 => absurd (by decide) c_102)
                    have hcd0 : cdField sLen t k x b = if sLen (cN t) < 6 then 0 else 2 := cdF_2 (t_y c_10) (o_y c_19) (by rw [show cN k = 0 by omega]; exact suT_0 c_65 (i_le c_71)) (fun z => by rw [c_29] at z; exact absurd z.1 (by decide))
                    obtain ⟨n_t, b_t⟩ := okT_spec (t_y c_10)
                    have hl : lv_has ls 7 [(5, .int (nI 0)), (0, .ref (am 0)), (1, .int (nI (cN t))), (2, .int (nI (cN k))), (3, .int x), (4, .int (bI b))] := by rw [← n_t]; exact hl
                    have hL1 := hL (cN t)
                    refine lv_aload_n hx hb d_M_field_111 rfl (lv_at hl 1 rfl) ?_
                    refine va_get (D := D) (ci := 8) (C := R_M) (T := T_M) (N := 39) hx hb hts (fun w h => kT w (i_M w h)) hown hK hP 0 rfl rfl 1 (by decide) (hts _ (kT _ wd_4d2260e1)) (fun _ h9 => h9) rfl d_M_field_112 ?_
                    refine lv_iload_n hx hb d_M_field_115 rfl (lv_at hl 2 rfl) ?_
                    refine n_iald hx hb hK hP 1 0 rfl rfl (i := (cN t)) (by omega) (by decide) d_M_field_116 ?_
                    refine lv_bipush (v := nI 6) hx hb d_M_field_117 (by decide) ?_
                    refine lv_icmp_ne (tgt := 128) hx hb d_M_field_119 (by decide) (fun c_119 => ?_) (fun c_119 => ?_)
                    · skip
                      have c_119 := mt (nI_eq (by omega) (by omega)).mpr c_119
                      have hcd : cdField sLen t k x b = 0 := by rw [hcd0, if_pos (by omega)]
                      refine lv_bipush (v := nI 6) hx hb d_M_field_128 (by decide) ?_
                      refine lv_iload_n hx hb d_M_field_130 rfl (lv_at hl 2 rfl) ?_
                      refine lv_imul hx hb d_M_field_131 ?_
                      refine lv_eqi ((pk_mul _ _).trans (nI_congr (Nat.mul_comm _ _))) ?_
                      refine lv_aload_n hx hb d_M_field_132 rfl (lv_at hl 1 rfl) ?_
                      refine va_get (D := D) (ci := 8) (C := R_M) (T := T_M) (N := 39) hx hb hts (fun w h => kT w (i_M w h)) hown hK hP 0 rfl rfl 1 (by decide) (hts _ (kT _ wd_4d2260e1)) (fun _ h9 => h9) rfl d_M_field_133 ?_
                      refine lv_iload_n hx hb d_M_field_136 rfl (lv_at hl 2 rfl) ?_
                      refine n_iald hx hb hK hP 1 0 rfl rfl (i := (cN t)) (by omega) (by decide) d_M_field_137 ?_
                      refine lv_iadd hx hb d_M_field_138 ?_
                      refine lv_eqi (nI_add _ _) ?_
                      refine lv_istore (lv' := [(6, .int (nI (((cN t) * 6) + (sLen (cN t))))), (5, .int (nI 0)), (0, .ref (am 0)), (1, .int (nI (cN t))), (2, .int (nI (cN k))), (3, .int x), (4, .int (bI b))]) hx hb d_M_field_139 hl (by decide) rfl (fun ls hl => ?_)
                      refine lv_aload_n hx hb d_M_field_141 rfl (lv_at hl 2 rfl) ?_
                      refine va_get (D := D) (ci := 8) (C := R_M) (T := T_M) (N := 39) hx hb hts (fun w h => kT w (i_M w h)) hown hK hP 0 rfl rfl 2 (by decide) (hts _ (kT _ wd_91f4763a)) (fun _ h9 => h9) rfl d_M_field_142 ?_
                      refine lv_iload hx hb d_M_field_145 (lv_at hl 0 rfl) ?_
                      refine lv_iload_n hx hb d_M_field_147 rfl (lv_at hl 4 rfl) ?_
                      refine n_iast hx hb hK hP hD hS 2 1 rfl rfl (i := (((cN t) * 6) + (sLen (cN t)))) (by omega) (by decide) d_M_field_148 (fun H locs hP hD hS => ?_)
                      have hP : va_P D vwCl (Wm am gm sLen (va_up sKind (((cN t) * 6) + (sLen (cN t))) (cN k)) sExt sMust rTab rFil mNum rLen rItm made pItm held dByt dLen ver fAdr fTab adr tab lf 0 row mWr mWid mOv mPl mTh mSp mPile mNext mSh mShs mRea mWg mEn mDp mAt mTb mSt) H := hP
                      have hD : va_D A (Wm am gm sLen (va_up sKind (((cN t) * 6) + (sLen (cN t))) (cN k)) sExt sMust rTab rFil mNum rLen rItm made pItm held dByt dLen ver fAdr fTab adr tab lf 0 row mWr mWid mOv mPl mTh mSp mPile mNext mSh mShs mRea mWg mEn mDp mAt mTb mSt) := hD
                      refine lv_aload_n hx hb d_M_field_149 rfl (lv_at hl 2 rfl) ?_
                      refine va_get (D := D) (ci := 8) (C := R_M) (T := T_M) (N := 39) hx hb hts (fun w h => kT w (i_M w h)) hown hK hP 0 rfl rfl 3 (by decide) (hts _ (kT _ wd_74a62eb0)) (fun _ h9 => h9) rfl d_M_field_150 ?_
                      refine lv_iload hx hb d_M_field_153 (lv_at hl 0 rfl) ?_
                      refine lv_iload_n hx hb d_M_field_155 rfl (lv_at hl 5 rfl) ?_
                      refine r_iast hx hb hK hP hD hS 3 2 rfl rfl (i := (((cN t) * 6) + (sLen (cN t)))) (by omega) (by decide) d_M_field_156 (fun H locs hP hD hS => ?_)
                      have hP : va_P D vwCl (Wm am gm sLen (va_up sKind (((cN t) * 6) + (sLen (cN t))) (cN k)) (upd sExt (((cN t) * 6) + (sLen (cN t))) x) sMust rTab rFil mNum rLen rItm made pItm held dByt dLen ver fAdr fTab adr tab lf 0 row mWr mWid mOv mPl mTh mSp mPile mNext mSh mShs mRea mWg mEn mDp mAt mTb mSt) H := hP
                      have hD : va_D A (Wm am gm sLen (va_up sKind (((cN t) * 6) + (sLen (cN t))) (cN k)) (upd sExt (((cN t) * 6) + (sLen (cN t))) x) sMust rTab rFil mNum rLen rItm made pItm held dByt dLen ver fAdr fTab adr tab lf 0 row mWr mWid mOv mPl mTh mSp mPile mNext mSh mShs mRea mWg mEn mDp mAt mTb mSt) := hD
                      refine lv_aload_n hx hb d_M_field_157 rfl (lv_at hl 2 rfl) ?_
                      refine va_get (D := D) (ci := 8) (C := R_M) (T := T_M) (N := 39) hx hb hts (fun w h => kT w (i_M w h)) hown hK hP 0 rfl rfl 4 (by decide) (hts _ (kT _ wd_de26f6e3)) (fun _ h9 => h9) rfl d_M_field_158 ?_
                      refine lv_iload hx hb d_M_field_161 (lv_at hl 0 rfl) ?_
                      refine lv_iload hx hb d_M_field_163 (lv_at hl 6 rfl) ?_
                      refine z_zast hx hb hK hP hD hS 4 3 rfl rfl (i := (((cN t) * 6) + (sLen (cN t)))) (by omega) (by decide) d_M_field_165 (fun H locs hP hD hS => ?_)
                      have hP : va_P D vwCl (Wm am gm sLen (va_up sKind (((cN t) * 6) + (sLen (cN t))) (cN k)) (upd sExt (((cN t) * 6) + (sLen (cN t))) x) (va_up sMust (((cN t) * 6) + (sLen (cN t))) b) rTab rFil mNum rLen rItm made pItm held dByt dLen ver fAdr fTab adr tab lf 0 row mWr mWid mOv mPl mTh mSp mPile mNext mSh mShs mRea mWg mEn mDp mAt mTb mSt) H := hP
                      have hD : va_D A (Wm am gm sLen (va_up sKind (((cN t) * 6) + (sLen (cN t))) (cN k)) (upd sExt (((cN t) * 6) + (sLen (cN t))) x) (va_up sMust (((cN t) * 6) + (sLen (cN t))) b) rTab rFil mNum rLen rItm made pItm held dByt dLen ver fAdr fTab adr tab lf 0 row mWr mWid mOv mPl mTh mSp mPile mNext mSh mShs mRea mWg mEn mDp mAt mTb mSt) := hD
                      refine lv_aload_n hx hb d_M_field_166 rfl (lv_at hl 2 rfl) ?_
                      refine va_get (D := D) (ci := 8) (C := R_M) (T := T_M) (N := 39) hx hb hts (fun w h => kT w (i_M w h)) hown hK hP 0 rfl rfl 1 (by decide) (hts _ (kT _ wd_4d2260e1)) (fun _ h9 => h9) rfl d_M_field_167 ?_
                      refine lv_iload_n hx hb d_M_field_170 rfl (lv_at hl 3 rfl) ?_
                      refine lv_dup2_11 hx hb d_M_field_171 rfl rfl ?_
                      refine n_iald hx hb hK hP 1 0 rfl rfl (i := (cN t)) (by omega) (by decide) d_M_field_172 ?_
                      refine lv_iconst (v := nI 1) hx hb d_M_field_173 (by decide) ?_
                      refine lv_iadd hx hb d_M_field_174 ?_
                      refine lv_eqi (nI_add _ _) ?_
                      refine n_iast hx hb hK hP hD hS 1 0 rfl rfl (i := (cN t)) (by omega) (by decide) d_M_field_175 (fun H locs hP hD hS => ?_)
                      have hP : va_P D vwCl (Wm am gm (va_up sLen (cN t) ((sLen (cN t)) + 1)) (va_up sKind (((cN t) * 6) + (sLen (cN t))) (cN k)) (upd sExt (((cN t) * 6) + (sLen (cN t))) x) (va_up sMust (((cN t) * 6) + (sLen (cN t))) b) rTab rFil mNum rLen rItm made pItm held dByt dLen ver fAdr fTab adr tab lf 0 row mWr mWid mOv mPl mTh mSp mPile mNext mSh mShs mRea mWg mEn mDp mAt mTb mSt) H := hP
                      have hD : va_D A (Wm am gm (va_up sLen (cN t) ((sLen (cN t)) + 1)) (va_up sKind (((cN t) * 6) + (sLen (cN t))) (cN k)) (upd sExt (((cN t) * 6) + (sLen (cN t))) x) (va_up sMust (((cN t) * 6) + (sLen (cN t))) b) rTab rFil mNum rLen rItm made pItm held dByt dLen ver fAdr fTab adr tab lf 0 row mWr mWid mOv mPl mTh mSp mPile mNext mSh mShs mRea mWg mEn mDp mAt mTb mSt) := hD
                      refine lv_aload_n hx hb d_M_field_176 rfl (lv_at hl 2 rfl) ?_
                      refine lv_iconst (v := nI 0) hx hb d_M_field_177 (by decide) ?_
                      refine lv_eqi (show nI 0 = bI false by decide) ?_
                      refine va_put (D := D) (ci := 8) (ty := .boolean) (C := R_M) (T := T_M) (N := 39) hx hb hts (fun w h => kT w (i_M w h)) ty_M tyk_M nm_M hown hK hP hD hS 0 rfl rfl 27 (by decide) (hts _ (kT _ wd_a47358da)) (fun _ h9 => h9) rfl (by decide +kernel) (bI_nar _) (bI_fits _) (Nat.le_of_ble_eq_true rfl) d_M_field_178 (fun H locs hP hD hS => ?_)
                      have hP : va_P D vwCl (Wm am gm (va_up sLen (cN t) ((sLen (cN t)) + 1)) (va_up sKind (((cN t) * 6) + (sLen (cN t))) (cN k)) (upd sExt (((cN t) * 6) + (sLen (cN t))) x) (va_up sMust (((cN t) * 6) + (sLen (cN t))) b) rTab rFil mNum rLen rItm made pItm held dByt dLen false fAdr fTab adr tab lf 0 row mWr mWid mOv mPl mTh mSp mPile mNext mSh mShs mRea mWg mEn mDp mAt mTb mSt) H := hP
                      have hD : va_D A (Wm am gm (va_up sLen (cN t) ((sLen (cN t)) + 1)) (va_up sKind (((cN t) * 6) + (sLen (cN t))) (cN k)) (upd sExt (((cN t) * 6) + (sLen (cN t))) x) (va_up sMust (((cN t) * 6) + (sLen (cN t))) b) rTab rFil mNum rLen rItm made pItm held dByt dLen false fAdr fTab adr tab lf 0 row mWr mWid mOv mPl mTh mSp mPile mNext mSh mShs mRea mWg mEn mDp mAt mTb mSt) := hD
                      have hup : (va_up sLen (cN t) ((sLen (cN t)) + 1)) (cN t) = sLen (cN t) + 1 := va_up_self _ _ _
                      refine lv_aload_n hx hb d_M_field_181 rfl (lv_at hl 2 rfl) ?_
                      refine va_get (D := D) (ci := 8) (C := R_M) (T := T_M) (N := 39) hx hb hts (fun w h => kT w (i_M w h)) hown hK hP 0 rfl rfl 1 (by decide) (hts _ (kT _ wd_4d2260e1)) (fun _ h9 => h9) rfl d_M_field_182 ?_
                      refine lv_iload_n hx hb d_M_field_185 rfl (lv_at hl 3 rfl) ?_
                      refine n_iald hx hb hK hP 1 0 rfl rfl (i := (cN t)) (by omega) (by decide) d_M_field_186 ?_
                      refine lv_iconst (v := nI 1) hx hb d_M_field_187 (by decide) ?_
                      refine lv_isub hx hb d_M_field_188 ?_
                      refine lv_eqi (pk_sub (by omega)) ?_
                      exact k_iret hx hb hr hlocks hK hP hD hS (trivial) (by rw [hcd, hup]; rfl) (by rw [hcd]; first | done | rfl) d_M_field_189
                    · skip
                      have c_119 := (nI_eq (by omega) (by omega)).mp c_119
                      have hcd : cdField sLen t k x b = 2 := by rw [hcd0, if_neg (by omega)]
                      refine lv_aload_n hx hb d_M_field_122 rfl (lv_at hl 1 rfl) ?_
                      refine lv_iconst (v := nI 2) hx hb d_M_field_123 (by decide) ?_
                      refine k_callV (m_raise l D am gm tw sLen sKind sExt sMust rTab rFil mNum rLen rItm made pItm held dByt dLen ver fAdr fTab adr tab lf 0 row mWr mWid mOv mPl mTh mSp mPile mNext mSh mShs mRea mWg mEn mDp mAt mTb mSt 2  ) m_M_raise wd_4b1468e4 0 8 rfl rfl rfl kT hx hb hml hown hts ⟨Nat.le_of_ble_eq_true rfl, Nat.le_of_ble_eq_true rfl⟩ ⟨Nat.le_of_ble_eq_true rfl, Nat.le_of_ble_eq_true rfl⟩ hK hP hD hS hA hZ hl.1 rfl rfl (Nat.le_of_ble_eq_true rfl) d_M_field_124 (fun H locs hP hD hS => ?_)
                      have hP : va_P D vwCl (Wm am gm sLen sKind sExt sMust rTab rFil mNum rLen rItm made pItm held dByt dLen ver fAdr fTab adr tab lf 2 row mWr mWid mOv mPl mTh mSp mPile mNext mSh mShs mRea mWg mEn mDp mAt mTb mSt) H := hP
                      have hD : va_D A (Wm am gm sLen sKind sExt sMust rTab rFil mNum rLen rItm made pItm held dByt dLen ver fAdr fTab adr tab lf 2 row mWr mWid mOv mPl mTh mSp mPile mNext mSh mShs mRea mWg mEn mDp mAt mTb mSt) := hD
                      refine W.eq (g2 := F0 m 127 ls [.int (nI 0)]) rfl ?_
                      exact k_iret hx hb hr hlocks hK hP hD hS (trivial) (by rw [hcd]; first | done | rfl) (by rw [hcd]; first | done | rfl) d_M_field_127
                  · skip
                    have c_76 := (nI_eq (by omega) (by omega)).mp c_76
                    refine lv_iload_n hx hb d_M_field_79 rfl (lv_at hl 4 rfl) ?_
                    refine lv_sipush (v := -32768) hx hb d_M_field_80 (by decide) ?_
                    refine lv_icmp_lt (tgt := 93) hx hb d_M_field_83 (by decide) (fun c_83 => ?_) (fun c_83 => ?_)
                    · skip
                      refine lv_iconst (v := nI 1) hx hb d_M_field_93 (by decide) ?_
                      refine lv_goto (tgt := 98) hx hb d_M_field_94 (by decide) ?_
                      refine lv_istore (lv' := [(5, .int (nI 1)), (0, .ref (am 0)), (1, .int t), (2, .int (nI (cN k))), (3, .int x), (4, .int (bI b))]) hx hb d_M_field_98 hl (by decide) rfl (fun ls hl => ?_)
                      refine lv_iload hx hb d_M_field_100 (lv_at hl 0 rfl) ?_
                      refine lv_if_eq (tgt := 111) hx hb d_M_field_102 (by decide) (fun c_102 => absurd c_102 (by decide)) (fun _ => ?_)
                      have hcd : cdField sLen t k x b = 1 := cdF_1c (by rw [show cN k = 1 by omega]; exact suT_1n (Or.inl c_83))
                      refine lv_aload_n hx hb d_M_field_105 rfl (lv_at hl 1 rfl) ?_
                      refine lv_iconst (v := nI 1) hx hb d_M_field_106 (by decide) ?_
                      refine k_callV (m_raise l D am gm tw sLen sKind sExt sMust rTab rFil mNum rLen rItm made pItm held dByt dLen ver fAdr fTab adr tab lf 0 row mWr mWid mOv mPl mTh mSp mPile mNext mSh mShs mRea mWg mEn mDp mAt mTb mSt 1  ) m_M_raise wd_4b1468e4 0 8 rfl rfl rfl kT hx hb hml hown hts ⟨Nat.le_of_ble_eq_true rfl, Nat.le_of_ble_eq_true rfl⟩ ⟨Nat.le_of_ble_eq_true rfl, Nat.le_of_ble_eq_true rfl⟩ hK hP hD hS hA hZ hl.1 rfl rfl (Nat.le_of_ble_eq_true rfl) d_M_field_107 (fun H locs hP hD hS => ?_)
                      have hP : va_P D vwCl (Wm am gm sLen sKind sExt sMust rTab rFil mNum rLen rItm made pItm held dByt dLen ver fAdr fTab adr tab lf 1 row mWr mWid mOv mPl mTh mSp mPile mNext mSh mShs mRea mWg mEn mDp mAt mTb mSt) H := hP
                      have hD : va_D A (Wm am gm sLen sKind sExt sMust rTab rFil mNum rLen rItm made pItm held dByt dLen ver fAdr fTab adr tab lf 1 row mWr mWid mOv mPl mTh mSp mPile mNext mSh mShs mRea mWg mEn mDp mAt mTb mSt) := hD
                      refine W.eq (g2 := F0 m 110 ls [.int (nI 0)]) rfl ?_
                      exact k_iret hx hb hr hlocks hK hP hD hS (trivial) (by rw [hcd]; first | done | rfl) (by rw [hcd]; first | done | rfl) d_M_field_110
                    · skip
                      refine lv_iload_n hx hb d_M_field_86 rfl (lv_at hl 4 rfl) ?_
                      refine lv_sipush (v := nI 32767) hx hb d_M_field_87 (by decide) ?_
                      refine lv_icmp_le (tgt := 97) hx hb d_M_field_90 (by decide) (fun c_90 => ?_) (fun c_90 => ?_)
                      · skip
                        refine lv_iconst (v := nI 0) hx hb d_M_field_97 (by decide) ?_
                        refine lv_istore (lv' := [(5, .int (nI 0)), (0, .ref (am 0)), (1, .int t), (2, .int (nI (cN k))), (3, .int x), (4, .int (bI b))]) hx hb d_M_field_98 hl (by decide) rfl (fun ls hl => ?_)
                        refine lv_iload hx hb d_M_field_100 (lv_at hl 0 rfl) ?_
                        refine lv_if_eq (tgt := 111) hx hb d_M_field_102 (by decide) (fun _ => ?_) (fun c_102 => absurd (by decide) c_102)
                        have hcd0 : cdField sLen t k x b = if sLen (cN t) < 6 then 0 else 2 := cdF_2 (t_y c_10) (o_y c_19) (by rw [show cN k = 0 by omega]; exact suT_0 c_65 (i_le c_71)) (fun z => by rw [c_29] at z; exact absurd z.1 (by decide))
                        obtain ⟨n_t, b_t⟩ := okT_spec (t_y c_10)
                        have hl : lv_has ls 7 [(5, .int (nI 0)), (0, .ref (am 0)), (1, .int (nI (cN t))), (2, .int (nI (cN k))), (3, .int x), (4, .int (bI b))] := by rw [← n_t]; exact hl
                        have hL1 := hL (cN t)
                        refine lv_aload_n hx hb d_M_field_111 rfl (lv_at hl 1 rfl) ?_
                        refine va_get (D := D) (ci := 8) (C := R_M) (T := T_M) (N := 39) hx hb hts (fun w h => kT w (i_M w h)) hown hK hP 0 rfl rfl 1 (by decide) (hts _ (kT _ wd_4d2260e1)) (fun _ h9 => h9) rfl d_M_field_112 ?_
                        refine lv_iload_n hx hb d_M_field_115 rfl (lv_at hl 2 rfl) ?_
                        refine n_iald hx hb hK hP 1 0 rfl rfl (i := (cN t)) (by omega) (by decide) d_M_field_116 ?_
                        refine lv_bipush (v := nI 6) hx hb d_M_field_117 (by decide) ?_
                        refine lv_icmp_ne (tgt := 128) hx hb d_M_field_119 (by decide) (fun c_119 => ?_) (fun c_119 => ?_)
                        · skip
                          have c_119 := mt (nI_eq (by omega) (by omega)).mpr c_119
                          have hcd : cdField sLen t k x b = 0 := by rw [hcd0, if_pos (by omega)]
                          refine lv_bipush (v := nI 6) hx hb d_M_field_128 (by decide) ?_
                          refine lv_iload_n hx hb d_M_field_130 rfl (lv_at hl 2 rfl) ?_
                          refine lv_imul hx hb d_M_field_131 ?_
                          refine lv_eqi ((pk_mul _ _).trans (nI_congr (Nat.mul_comm _ _))) ?_
                          refine lv_aload_n hx hb d_M_field_132 rfl (lv_at hl 1 rfl) ?_
                          refine va_get (D := D) (ci := 8) (C := R_M) (T := T_M) (N := 39) hx hb hts (fun w h => kT w (i_M w h)) hown hK hP 0 rfl rfl 1 (by decide) (hts _ (kT _ wd_4d2260e1)) (fun _ h9 => h9) rfl d_M_field_133 ?_
                          refine lv_iload_n hx hb d_M_field_136 rfl (lv_at hl 2 rfl) ?_
                          refine n_iald hx hb hK hP 1 0 rfl rfl (i := (cN t)) (by omega) (by decide) d_M_field_137 ?_
                          refine lv_iadd hx hb d_M_field_138 ?_
                          refine lv_eqi (nI_add _ _) ?_
                          refine lv_istore (lv' := [(6, .int (nI (((cN t) * 6) + (sLen (cN t))))), (5, .int (nI 0)), (0, .ref (am 0)), (1, .int (nI (cN t))), (2, .int (nI (cN k))), (3, .int x), (4, .int (bI b))]) hx hb d_M_field_139 hl (by decide) rfl (fun ls hl => ?_)
                          refine lv_aload_n hx hb d_M_field_141 rfl (lv_at hl 2 rfl) ?_
                          refine va_get (D := D) (ci := 8) (C := R_M) (T := T_M) (N := 39) hx hb hts (fun w h => kT w (i_M w h)) hown hK hP 0 rfl rfl 2 (by decide) (hts _ (kT _ wd_91f4763a)) (fun _ h9 => h9) rfl d_M_field_142 ?_
                          refine lv_iload hx hb d_M_field_145 (lv_at hl 0 rfl) ?_
                          refine lv_iload_n hx hb d_M_field_147 rfl (lv_at hl 4 rfl) ?_
                          refine n_iast hx hb hK hP hD hS 2 1 rfl rfl (i := (((cN t) * 6) + (sLen (cN t)))) (by omega) (by decide) d_M_field_148 (fun H locs hP hD hS => ?_)
                          have hP : va_P D vwCl (Wm am gm sLen (va_up sKind (((cN t) * 6) + (sLen (cN t))) (cN k)) sExt sMust rTab rFil mNum rLen rItm made pItm held dByt dLen ver fAdr fTab adr tab lf 0 row mWr mWid mOv mPl mTh mSp mPile mNext mSh mShs mRea mWg mEn mDp mAt mTb mSt) H := hP
                          have hD : va_D A (Wm am gm sLen (va_up sKind (((cN t) * 6) + (sLen (cN t))) (cN k)) sExt sMust rTab rFil mNum rLen rItm made pItm held dByt dLen ver fAdr fTab adr tab lf 0 row mWr mWid mOv mPl mTh mSp mPile mNext mSh mShs mRea mWg mEn mDp mAt mTb mSt) := hD
                          refine lv_aload_n hx hb d_M_field_149 rfl (lv_at hl 2 rfl) ?_
                          refine va_get (D := D) (ci := 8) (C := R_M) (T := T_M) (N := 39) hx hb hts (fun w h => kT w (i_M w h)) hown hK hP 0 rfl rfl 3 (by decide) (hts _ (kT _ wd_74a62eb0)) (fun _ h9 => h9) rfl d_M_field_150 ?_
                          refine lv_iload hx hb d_M_field_153 (lv_at hl 0 rfl) ?_
                          refine lv_iload_n hx hb d_M_field_155 rfl (lv_at hl 5 rfl) ?_
                          refine r_iast hx hb hK hP hD hS 3 2 rfl rfl (i := (((cN t) * 6) + (sLen (cN t)))) (by omega) (by decide) d_M_field_156 (fun H locs hP hD hS => ?_)
                          have hP : va_P D vwCl (Wm am gm sLen (va_up sKind (((cN t) * 6) + (sLen (cN t))) (cN k)) (upd sExt (((cN t) * 6) + (sLen (cN t))) x) sMust rTab rFil mNum rLen rItm made pItm held dByt dLen ver fAdr fTab adr tab lf 0 row mWr mWid mOv mPl mTh mSp mPile mNext mSh mShs mRea mWg mEn mDp mAt mTb mSt) H := hP
                          have hD : va_D A (Wm am gm sLen (va_up sKind (((cN t) * 6) + (sLen (cN t))) (cN k)) (upd sExt (((cN t) * 6) + (sLen (cN t))) x) sMust rTab rFil mNum rLen rItm made pItm held dByt dLen ver fAdr fTab adr tab lf 0 row mWr mWid mOv mPl mTh mSp mPile mNext mSh mShs mRea mWg mEn mDp mAt mTb mSt) := hD
                          refine lv_aload_n hx hb d_M_field_157 rfl (lv_at hl 2 rfl) ?_
                          refine va_get (D := D) (ci := 8) (C := R_M) (T := T_M) (N := 39) hx hb hts (fun w h => kT w (i_M w h)) hown hK hP 0 rfl rfl 4 (by decide) (hts _ (kT _ wd_de26f6e3)) (fun _ h9 => h9) rfl d_M_field_158 ?_
                          refine lv_iload hx hb d_M_field_161 (lv_at hl 0 rfl) ?_
                          refine lv_iload hx hb d_M_field_163 (lv_at hl 6 rfl) ?_
                          refine z_zast hx hb hK hP hD hS 4 3 rfl rfl (i := (((cN t) * 6) + (sLen (cN t)))) (by omega) (by decide) d_M_field_165 (fun H locs hP hD hS => ?_)
                          have hP : va_P D vwCl (Wm am gm sLen (va_up sKind (((cN t) * 6) + (sLen (cN t))) (cN k)) (upd sExt (((cN t) * 6) + (sLen (cN t))) x) (va_up sMust (((cN t) * 6) + (sLen (cN t))) b) rTab rFil mNum rLen rItm made pItm held dByt dLen ver fAdr fTab adr tab lf 0 row mWr mWid mOv mPl mTh mSp mPile mNext mSh mShs mRea mWg mEn mDp mAt mTb mSt) H := hP
                          have hD : va_D A (Wm am gm sLen (va_up sKind (((cN t) * 6) + (sLen (cN t))) (cN k)) (upd sExt (((cN t) * 6) + (sLen (cN t))) x) (va_up sMust (((cN t) * 6) + (sLen (cN t))) b) rTab rFil mNum rLen rItm made pItm held dByt dLen ver fAdr fTab adr tab lf 0 row mWr mWid mOv mPl mTh mSp mPile mNext mSh mShs mRea mWg mEn mDp mAt mTb mSt) := hD
                          refine lv_aload_n hx hb d_M_field_166 rfl (lv_at hl 2 rfl) ?_
                          refine va_get (D := D) (ci := 8) (C := R_M) (T := T_M) (N := 39) hx hb hts (fun w h => kT w (i_M w h)) hown hK hP 0 rfl rfl 1 (by decide) (hts _ (kT _ wd_4d2260e1)) (fun _ h9 => h9) rfl d_M_field_167 ?_
                          refine lv_iload_n hx hb d_M_field_170 rfl (lv_at hl 3 rfl) ?_
                          refine lv_dup2_11 hx hb d_M_field_171 rfl rfl ?_
                          refine n_iald hx hb hK hP 1 0 rfl rfl (i := (cN t)) (by omega) (by decide) d_M_field_172 ?_
                          refine lv_iconst (v := nI 1) hx hb d_M_field_173 (by decide) ?_
                          refine lv_iadd hx hb d_M_field_174 ?_
                          refine lv_eqi (nI_add _ _) ?_
                          refine n_iast hx hb hK hP hD hS 1 0 rfl rfl (i := (cN t)) (by omega) (by decide) d_M_field_175 (fun H locs hP hD hS => ?_)
                          have hP : va_P D vwCl (Wm am gm (va_up sLen (cN t) ((sLen (cN t)) + 1)) (va_up sKind (((cN t) * 6) + (sLen (cN t))) (cN k)) (upd sExt (((cN t) * 6) + (sLen (cN t))) x) (va_up sMust (((cN t) * 6) + (sLen (cN t))) b) rTab rFil mNum rLen rItm made pItm held dByt dLen ver fAdr fTab adr tab lf 0 row mWr mWid mOv mPl mTh mSp mPile mNext mSh mShs mRea mWg mEn mDp mAt mTb mSt) H := hP
                          have hD : va_D A (Wm am gm (va_up sLen (cN t) ((sLen (cN t)) + 1)) (va_up sKind (((cN t) * 6) + (sLen (cN t))) (cN k)) (upd sExt (((cN t) * 6) + (sLen (cN t))) x) (va_up sMust (((cN t) * 6) + (sLen (cN t))) b) rTab rFil mNum rLen rItm made pItm held dByt dLen ver fAdr fTab adr tab lf 0 row mWr mWid mOv mPl mTh mSp mPile mNext mSh mShs mRea mWg mEn mDp mAt mTb mSt) := hD
                          refine lv_aload_n hx hb d_M_field_176 rfl (lv_at hl 2 rfl) ?_
                          refine lv_iconst (v := nI 0) hx hb d_M_field_177 (by decide) ?_
                          refine lv_eqi (show nI 0 = bI false by decide) ?_
                          refine va_put (D := D) (ci := 8) (ty := .boolean) (C := R_M) (T := T_M) (N := 39) hx hb hts (fun w h => kT w (i_M w h)) ty_M tyk_M nm_M hown hK hP hD hS 0 rfl rfl 27 (by decide) (hts _ (kT _ wd_a47358da)) (fun _ h9 => h9) rfl (by decide +kernel) (bI_nar _) (bI_fits _) (Nat.le_of_ble_eq_true rfl) d_M_field_178 (fun H locs hP hD hS => ?_)
                          have hP : va_P D vwCl (Wm am gm (va_up sLen (cN t) ((sLen (cN t)) + 1)) (va_up sKind (((cN t) * 6) + (sLen (cN t))) (cN k)) (upd sExt (((cN t) * 6) + (sLen (cN t))) x) (va_up sMust (((cN t) * 6) + (sLen (cN t))) b) rTab rFil mNum rLen rItm made pItm held dByt dLen false fAdr fTab adr tab lf 0 row mWr mWid mOv mPl mTh mSp mPile mNext mSh mShs mRea mWg mEn mDp mAt mTb mSt) H := hP
                          have hD : va_D A (Wm am gm (va_up sLen (cN t) ((sLen (cN t)) + 1)) (va_up sKind (((cN t) * 6) + (sLen (cN t))) (cN k)) (upd sExt (((cN t) * 6) + (sLen (cN t))) x) (va_up sMust (((cN t) * 6) + (sLen (cN t))) b) rTab rFil mNum rLen rItm made pItm held dByt dLen false fAdr fTab adr tab lf 0 row mWr mWid mOv mPl mTh mSp mPile mNext mSh mShs mRea mWg mEn mDp mAt mTb mSt) := hD
                          have hup : (va_up sLen (cN t) ((sLen (cN t)) + 1)) (cN t) = sLen (cN t) + 1 := va_up_self _ _ _
                          refine lv_aload_n hx hb d_M_field_181 rfl (lv_at hl 2 rfl) ?_
                          refine va_get (D := D) (ci := 8) (C := R_M) (T := T_M) (N := 39) hx hb hts (fun w h => kT w (i_M w h)) hown hK hP 0 rfl rfl 1 (by decide) (hts _ (kT _ wd_4d2260e1)) (fun _ h9 => h9) rfl d_M_field_182 ?_
                          refine lv_iload_n hx hb d_M_field_185 rfl (lv_at hl 3 rfl) ?_
                          refine n_iald hx hb hK hP 1 0 rfl rfl (i := (cN t)) (by omega) (by decide) d_M_field_186 ?_
                          refine lv_iconst (v := nI 1) hx hb d_M_field_187 (by decide) ?_
                          refine lv_isub hx hb d_M_field_188 ?_
                          refine lv_eqi (pk_sub (by omega)) ?_
                          exact k_iret hx hb hr hlocks hK hP hD hS (trivial) (by rw [hcd, hup]; rfl) (by rw [hcd]; first | done | rfl) d_M_field_189
                        · skip
                          have c_119 := (nI_eq (by omega) (by omega)).mp c_119
                          have hcd : cdField sLen t k x b = 2 := by rw [hcd0, if_neg (by omega)]
                          refine lv_aload_n hx hb d_M_field_122 rfl (lv_at hl 1 rfl) ?_
                          refine lv_iconst (v := nI 2) hx hb d_M_field_123 (by decide) ?_
                          refine k_callV (m_raise l D am gm tw sLen sKind sExt sMust rTab rFil mNum rLen rItm made pItm held dByt dLen ver fAdr fTab adr tab lf 0 row mWr mWid mOv mPl mTh mSp mPile mNext mSh mShs mRea mWg mEn mDp mAt mTb mSt 2  ) m_M_raise wd_4b1468e4 0 8 rfl rfl rfl kT hx hb hml hown hts ⟨Nat.le_of_ble_eq_true rfl, Nat.le_of_ble_eq_true rfl⟩ ⟨Nat.le_of_ble_eq_true rfl, Nat.le_of_ble_eq_true rfl⟩ hK hP hD hS hA hZ hl.1 rfl rfl (Nat.le_of_ble_eq_true rfl) d_M_field_124 (fun H locs hP hD hS => ?_)
                          have hP : va_P D vwCl (Wm am gm sLen sKind sExt sMust rTab rFil mNum rLen rItm made pItm held dByt dLen ver fAdr fTab adr tab lf 2 row mWr mWid mOv mPl mTh mSp mPile mNext mSh mShs mRea mWg mEn mDp mAt mTb mSt) H := hP
                          have hD : va_D A (Wm am gm sLen sKind sExt sMust rTab rFil mNum rLen rItm made pItm held dByt dLen ver fAdr fTab adr tab lf 2 row mWr mWid mOv mPl mTh mSp mPile mNext mSh mShs mRea mWg mEn mDp mAt mTb mSt) := hD
                          refine W.eq (g2 := F0 m 127 ls [.int (nI 0)]) rfl ?_
                          exact k_iret hx hb hr hlocks hK hP hD hS (trivial) (by rw [hcd]; first | done | rfl) (by rw [hcd]; first | done | rfl) d_M_field_127
                      · skip
                        refine lv_iconst (v := nI 1) hx hb d_M_field_93 (by decide) ?_
                        refine lv_goto (tgt := 98) hx hb d_M_field_94 (by decide) ?_
                        refine lv_istore (lv' := [(5, .int (nI 1)), (0, .ref (am 0)), (1, .int t), (2, .int (nI (cN k))), (3, .int x), (4, .int (bI b))]) hx hb d_M_field_98 hl (by decide) rfl (fun ls hl => ?_)
                        refine lv_iload hx hb d_M_field_100 (lv_at hl 0 rfl) ?_
                        refine lv_if_eq (tgt := 111) hx hb d_M_field_102 (by decide) (fun c_102 => absurd c_102 (by decide)) (fun _ => ?_)
                        have hcd : cdField sLen t k x b = 1 := cdF_1c (by rw [show cN k = 1 by omega]; exact suT_1n (Or.inr (i_lt c_90)))
                        refine lv_aload_n hx hb d_M_field_105 rfl (lv_at hl 1 rfl) ?_
                        refine lv_iconst (v := nI 1) hx hb d_M_field_106 (by decide) ?_
                        refine k_callV (m_raise l D am gm tw sLen sKind sExt sMust rTab rFil mNum rLen rItm made pItm held dByt dLen ver fAdr fTab adr tab lf 0 row mWr mWid mOv mPl mTh mSp mPile mNext mSh mShs mRea mWg mEn mDp mAt mTb mSt 1  ) m_M_raise wd_4b1468e4 0 8 rfl rfl rfl kT hx hb hml hown hts ⟨Nat.le_of_ble_eq_true rfl, Nat.le_of_ble_eq_true rfl⟩ ⟨Nat.le_of_ble_eq_true rfl, Nat.le_of_ble_eq_true rfl⟩ hK hP hD hS hA hZ hl.1 rfl rfl (Nat.le_of_ble_eq_true rfl) d_M_field_107 (fun H locs hP hD hS => ?_)
                        have hP : va_P D vwCl (Wm am gm sLen sKind sExt sMust rTab rFil mNum rLen rItm made pItm held dByt dLen ver fAdr fTab adr tab lf 1 row mWr mWid mOv mPl mTh mSp mPile mNext mSh mShs mRea mWg mEn mDp mAt mTb mSt) H := hP
                        have hD : va_D A (Wm am gm sLen sKind sExt sMust rTab rFil mNum rLen rItm made pItm held dByt dLen ver fAdr fTab adr tab lf 1 row mWr mWid mOv mPl mTh mSp mPile mNext mSh mShs mRea mWg mEn mDp mAt mTb mSt) := hD
                        refine W.eq (g2 := F0 m 110 ls [.int (nI 0)]) rfl ?_
                        exact k_iret hx hb hr hlocks hK hP hD hS (trivial) (by rw [hcd]; first | done | rfl) (by rw [hcd]; first | done | rfl) d_M_field_110
          · skip
            have c_35 := (nI_eq (by omega) (by omega)).mp c_35
            refine lv_iload_n hx hb d_M_field_38 rfl (lv_at hl 3 rfl) ?_
            refine lv_iconst (v := nI 3) hx hb d_M_field_39 (by decide) ?_
            refine k_callS (m_out l D am gm tw sLen sKind sExt sMust rTab rFil mNum rLen rItm made pItm held dByt dLen ver fAdr fTab adr tab lf 0 row mWr mWid mOv mPl mTh mSp mPile mNext mSh mShs mRea mWg mEn mDp mAt mTb mSt x (nI 3)  ) m_M_out wd_0c68f9ea kT hx hb hml hown hts ⟨Nat.le_of_ble_eq_true rfl, Nat.le_of_ble_eq_true rfl⟩ ⟨Nat.le_of_ble_eq_true rfl, Nat.le_of_ble_eq_true rfl⟩ hK hP hD hS hA hZ hl.1 rfl rfl (Nat.le_of_ble_eq_true rfl) d_M_field_40 (fun H locs hP hD hS => ?_)
            have hP : va_P D vwCl (Wm am gm sLen sKind sExt sMust rTab rFil mNum rLen rItm made pItm held dByt dLen ver fAdr fTab adr tab lf 0 row mWr mWid mOv mPl mTh mSp mPile mNext mSh mShs mRea mWg mEn mDp mAt mTb mSt) H := hP
            have hD : va_D A (Wm am gm sLen sKind sExt sMust rTab rFil mNum rLen rItm made pItm held dByt dLen ver fAdr fTab adr tab lf 0 row mWr mWid mOv mPl mTh mSp mPile mNext mSh mShs mRea mWg mEn mDp mAt mTb mSt) := hD
            refine W.eq (g2 := F0 m 43 ls [.int (bI (outB x (nI 3)))]) rfl ?_
            refine lv_if_eq (tgt := 50) hx hb d_M_field_43 (by decide) (fun c_43 => ?_) (fun c_43 => ?_)
            · skip
              have c_43 := (bI_0).mp c_43
              refine lv_iconst (v := nI 0) hx hb d_M_field_50 (by decide) ?_
              refine lv_istore (lv' := [(5, .int (nI 0)), (0, .ref (am 0)), (1, .int t), (2, .int (nI (cN k))), (3, .int x), (4, .int (bI b))]) hx hb d_M_field_51 hl (by decide) rfl (fun ls hl => ?_)
              refine lv_iload hx hb d_M_field_53 (lv_at hl 0 rfl) ?_
              refine lv_if_ne (tgt := 93) hx hb d_M_field_55 (by decide) (fun c_55 => absurd (by decide) c_55) (fun _ => ?_)
              refine lv_iload_n hx hb d_M_field_58 rfl (lv_at hl 3 rfl) ?_
              refine lv_if_ne (tgt := 74) hx hb d_M_field_59 (by decide) (fun c_59 => ?_) (fun c_59 => ?_)
              · skip
                have c_59 := mt (z_eq (by omega)).mpr c_59
                refine lv_iload_n hx hb d_M_field_74 rfl (lv_at hl 3 rfl) ?_
                refine lv_iconst (v := nI 1) hx hb d_M_field_75 (by decide) ?_
                refine lv_icmp_ne (tgt := 97) hx hb d_M_field_76 (by decide) (fun c_76 => ?_) (fun c_76 => ?_)
                · skip
                  have c_76 := mt (nI_eq (by omega) (by omega)).mpr c_76
                  refine lv_iconst (v := nI 0) hx hb d_M_field_97 (by decide) ?_
                  refine lv_istore (lv' := [(5, .int (nI 0)), (0, .ref (am 0)), (1, .int t), (2, .int (nI (cN k))), (3, .int x), (4, .int (bI b))]) hx hb d_M_field_98 hl (by decide) rfl (fun ls hl => ?_)
                  refine lv_iload hx hb d_M_field_100 (lv_at hl 0 rfl) ?_
                  refine lv_if_eq (tgt := 111) hx hb d_M_field_102 (by decide) (fun _ => ?_) (fun c_102 => absurd (by decide) c_102)
                  have hcd0 : cdField sLen t k x b = if sLen (cN t) < 6 then 0 else 2 := cdF_2 (t_y c_10) (o_y c_19) (by rw [show cN k = 6 by omega, suT_6]; exact t_y c_43) (fun z => by rw [c_29] at z; exact absurd z.1 (by decide))
                  obtain ⟨n_t, b_t⟩ := okT_spec (t_y c_10)
                  have hl : lv_has ls 7 [(5, .int (nI 0)), (0, .ref (am 0)), (1, .int (nI (cN t))), (2, .int (nI (cN k))), (3, .int x), (4, .int (bI b))] := by rw [← n_t]; exact hl
                  have hL1 := hL (cN t)
                  refine lv_aload_n hx hb d_M_field_111 rfl (lv_at hl 1 rfl) ?_
                  refine va_get (D := D) (ci := 8) (C := R_M) (T := T_M) (N := 39) hx hb hts (fun w h => kT w (i_M w h)) hown hK hP 0 rfl rfl 1 (by decide) (hts _ (kT _ wd_4d2260e1)) (fun _ h9 => h9) rfl d_M_field_112 ?_
                  refine lv_iload_n hx hb d_M_field_115 rfl (lv_at hl 2 rfl) ?_
                  refine n_iald hx hb hK hP 1 0 rfl rfl (i := (cN t)) (by omega) (by decide) d_M_field_116 ?_
                  refine lv_bipush (v := nI 6) hx hb d_M_field_117 (by decide) ?_
                  refine lv_icmp_ne (tgt := 128) hx hb d_M_field_119 (by decide) (fun c_119 => ?_) (fun c_119 => ?_)
                  · skip
                    have c_119 := mt (nI_eq (by omega) (by omega)).mpr c_119
                    have hcd : cdField sLen t k x b = 0 := by rw [hcd0, if_pos (by omega)]
                    refine lv_bipush (v := nI 6) hx hb d_M_field_128 (by decide) ?_
                    refine lv_iload_n hx hb d_M_field_130 rfl (lv_at hl 2 rfl) ?_
                    refine lv_imul hx hb d_M_field_131 ?_
                    refine lv_eqi ((pk_mul _ _).trans (nI_congr (Nat.mul_comm _ _))) ?_
                    refine lv_aload_n hx hb d_M_field_132 rfl (lv_at hl 1 rfl) ?_
                    refine va_get (D := D) (ci := 8) (C := R_M) (T := T_M) (N := 39) hx hb hts (fun w h => kT w (i_M w h)) hown hK hP 0 rfl rfl 1 (by decide) (hts _ (kT _ wd_4d2260e1)) (fun _ h9 => h9) rfl d_M_field_133 ?_
                    refine lv_iload_n hx hb d_M_field_136 rfl (lv_at hl 2 rfl) ?_
                    refine n_iald hx hb hK hP 1 0 rfl rfl (i := (cN t)) (by omega) (by decide) d_M_field_137 ?_
                    refine lv_iadd hx hb d_M_field_138 ?_
                    refine lv_eqi (nI_add _ _) ?_
                    refine lv_istore (lv' := [(6, .int (nI (((cN t) * 6) + (sLen (cN t))))), (5, .int (nI 0)), (0, .ref (am 0)), (1, .int (nI (cN t))), (2, .int (nI (cN k))), (3, .int x), (4, .int (bI b))]) hx hb d_M_field_139 hl (by decide) rfl (fun ls hl => ?_)
                    refine lv_aload_n hx hb d_M_field_141 rfl (lv_at hl 2 rfl) ?_
                    refine va_get (D := D) (ci := 8) (C := R_M) (T := T_M) (N := 39) hx hb hts (fun w h => kT w (i_M w h)) hown hK hP 0 rfl rfl 2 (by decide) (hts _ (kT _ wd_91f4763a)) (fun _ h9 => h9) rfl d_M_field_142 ?_
                    refine lv_iload hx hb d_M_field_145 (lv_at hl 0 rfl) ?_
                    refine lv_iload_n hx hb d_M_field_147 rfl (lv_at hl 4 rfl) ?_
                    refine n_iast hx hb hK hP hD hS 2 1 rfl rfl (i := (((cN t) * 6) + (sLen (cN t)))) (by omega) (by decide) d_M_field_148 (fun H locs hP hD hS => ?_)
                    have hP : va_P D vwCl (Wm am gm sLen (va_up sKind (((cN t) * 6) + (sLen (cN t))) (cN k)) sExt sMust rTab rFil mNum rLen rItm made pItm held dByt dLen ver fAdr fTab adr tab lf 0 row mWr mWid mOv mPl mTh mSp mPile mNext mSh mShs mRea mWg mEn mDp mAt mTb mSt) H := hP
                    have hD : va_D A (Wm am gm sLen (va_up sKind (((cN t) * 6) + (sLen (cN t))) (cN k)) sExt sMust rTab rFil mNum rLen rItm made pItm held dByt dLen ver fAdr fTab adr tab lf 0 row mWr mWid mOv mPl mTh mSp mPile mNext mSh mShs mRea mWg mEn mDp mAt mTb mSt) := hD
                    refine lv_aload_n hx hb d_M_field_149 rfl (lv_at hl 2 rfl) ?_
                    refine va_get (D := D) (ci := 8) (C := R_M) (T := T_M) (N := 39) hx hb hts (fun w h => kT w (i_M w h)) hown hK hP 0 rfl rfl 3 (by decide) (hts _ (kT _ wd_74a62eb0)) (fun _ h9 => h9) rfl d_M_field_150 ?_
                    refine lv_iload hx hb d_M_field_153 (lv_at hl 0 rfl) ?_
                    refine lv_iload_n hx hb d_M_field_155 rfl (lv_at hl 5 rfl) ?_
                    refine r_iast hx hb hK hP hD hS 3 2 rfl rfl (i := (((cN t) * 6) + (sLen (cN t)))) (by omega) (by decide) d_M_field_156 (fun H locs hP hD hS => ?_)
                    have hP : va_P D vwCl (Wm am gm sLen (va_up sKind (((cN t) * 6) + (sLen (cN t))) (cN k)) (upd sExt (((cN t) * 6) + (sLen (cN t))) x) sMust rTab rFil mNum rLen rItm made pItm held dByt dLen ver fAdr fTab adr tab lf 0 row mWr mWid mOv mPl mTh mSp mPile mNext mSh mShs mRea mWg mEn mDp mAt mTb mSt) H := hP
                    have hD : va_D A (Wm am gm sLen (va_up sKind (((cN t) * 6) + (sLen (cN t))) (cN k)) (upd sExt (((cN t) * 6) + (sLen (cN t))) x) sMust rTab rFil mNum rLen rItm made pItm held dByt dLen ver fAdr fTab adr tab lf 0 row mWr mWid mOv mPl mTh mSp mPile mNext mSh mShs mRea mWg mEn mDp mAt mTb mSt) := hD
                    refine lv_aload_n hx hb d_M_field_157 rfl (lv_at hl 2 rfl) ?_
                    refine va_get (D := D) (ci := 8) (C := R_M) (T := T_M) (N := 39) hx hb hts (fun w h => kT w (i_M w h)) hown hK hP 0 rfl rfl 4 (by decide) (hts _ (kT _ wd_de26f6e3)) (fun _ h9 => h9) rfl d_M_field_158 ?_
                    refine lv_iload hx hb d_M_field_161 (lv_at hl 0 rfl) ?_
                    refine lv_iload hx hb d_M_field_163 (lv_at hl 6 rfl) ?_
                    refine z_zast hx hb hK hP hD hS 4 3 rfl rfl (i := (((cN t) * 6) + (sLen (cN t)))) (by omega) (by decide) d_M_field_165 (fun H locs hP hD hS => ?_)
                    have hP : va_P D vwCl (Wm am gm sLen (va_up sKind (((cN t) * 6) + (sLen (cN t))) (cN k)) (upd sExt (((cN t) * 6) + (sLen (cN t))) x) (va_up sMust (((cN t) * 6) + (sLen (cN t))) b) rTab rFil mNum rLen rItm made pItm held dByt dLen ver fAdr fTab adr tab lf 0 row mWr mWid mOv mPl mTh mSp mPile mNext mSh mShs mRea mWg mEn mDp mAt mTb mSt) H := hP
                    have hD : va_D A (Wm am gm sLen (va_up sKind (((cN t) * 6) + (sLen (cN t))) (cN k)) (upd sExt (((cN t) * 6) + (sLen (cN t))) x) (va_up sMust (((cN t) * 6) + (sLen (cN t))) b) rTab rFil mNum rLen rItm made pItm held dByt dLen ver fAdr fTab adr tab lf 0 row mWr mWid mOv mPl mTh mSp mPile mNext mSh mShs mRea mWg mEn mDp mAt mTb mSt) := hD
                    refine lv_aload_n hx hb d_M_field_166 rfl (lv_at hl 2 rfl) ?_
                    refine va_get (D := D) (ci := 8) (C := R_M) (T := T_M) (N := 39) hx hb hts (fun w h => kT w (i_M w h)) hown hK hP 0 rfl rfl 1 (by decide) (hts _ (kT _ wd_4d2260e1)) (fun _ h9 => h9) rfl d_M_field_167 ?_
                    refine lv_iload_n hx hb d_M_field_170 rfl (lv_at hl 3 rfl) ?_
                    refine lv_dup2_11 hx hb d_M_field_171 rfl rfl ?_
                    refine n_iald hx hb hK hP 1 0 rfl rfl (i := (cN t)) (by omega) (by decide) d_M_field_172 ?_
                    refine lv_iconst (v := nI 1) hx hb d_M_field_173 (by decide) ?_
                    refine lv_iadd hx hb d_M_field_174 ?_
                    refine lv_eqi (nI_add _ _) ?_
                    refine n_iast hx hb hK hP hD hS 1 0 rfl rfl (i := (cN t)) (by omega) (by decide) d_M_field_175 (fun H locs hP hD hS => ?_)
                    have hP : va_P D vwCl (Wm am gm (va_up sLen (cN t) ((sLen (cN t)) + 1)) (va_up sKind (((cN t) * 6) + (sLen (cN t))) (cN k)) (upd sExt (((cN t) * 6) + (sLen (cN t))) x) (va_up sMust (((cN t) * 6) + (sLen (cN t))) b) rTab rFil mNum rLen rItm made pItm held dByt dLen ver fAdr fTab adr tab lf 0 row mWr mWid mOv mPl mTh mSp mPile mNext mSh mShs mRea mWg mEn mDp mAt mTb mSt) H := hP
                    have hD : va_D A (Wm am gm (va_up sLen (cN t) ((sLen (cN t)) + 1)) (va_up sKind (((cN t) * 6) + (sLen (cN t))) (cN k)) (upd sExt (((cN t) * 6) + (sLen (cN t))) x) (va_up sMust (((cN t) * 6) + (sLen (cN t))) b) rTab rFil mNum rLen rItm made pItm held dByt dLen ver fAdr fTab adr tab lf 0 row mWr mWid mOv mPl mTh mSp mPile mNext mSh mShs mRea mWg mEn mDp mAt mTb mSt) := hD
                    refine lv_aload_n hx hb d_M_field_176 rfl (lv_at hl 2 rfl) ?_
                    refine lv_iconst (v := nI 0) hx hb d_M_field_177 (by decide) ?_
                    refine lv_eqi (show nI 0 = bI false by decide) ?_
                    refine va_put (D := D) (ci := 8) (ty := .boolean) (C := R_M) (T := T_M) (N := 39) hx hb hts (fun w h => kT w (i_M w h)) ty_M tyk_M nm_M hown hK hP hD hS 0 rfl rfl 27 (by decide) (hts _ (kT _ wd_a47358da)) (fun _ h9 => h9) rfl (by decide +kernel) (bI_nar _) (bI_fits _) (Nat.le_of_ble_eq_true rfl) d_M_field_178 (fun H locs hP hD hS => ?_)
                    have hP : va_P D vwCl (Wm am gm (va_up sLen (cN t) ((sLen (cN t)) + 1)) (va_up sKind (((cN t) * 6) + (sLen (cN t))) (cN k)) (upd sExt (((cN t) * 6) + (sLen (cN t))) x) (va_up sMust (((cN t) * 6) + (sLen (cN t))) b) rTab rFil mNum rLen rItm made pItm held dByt dLen false fAdr fTab adr tab lf 0 row mWr mWid mOv mPl mTh mSp mPile mNext mSh mShs mRea mWg mEn mDp mAt mTb mSt) H := hP
                    have hD : va_D A (Wm am gm (va_up sLen (cN t) ((sLen (cN t)) + 1)) (va_up sKind (((cN t) * 6) + (sLen (cN t))) (cN k)) (upd sExt (((cN t) * 6) + (sLen (cN t))) x) (va_up sMust (((cN t) * 6) + (sLen (cN t))) b) rTab rFil mNum rLen rItm made pItm held dByt dLen false fAdr fTab adr tab lf 0 row mWr mWid mOv mPl mTh mSp mPile mNext mSh mShs mRea mWg mEn mDp mAt mTb mSt) := hD
                    have hup : (va_up sLen (cN t) ((sLen (cN t)) + 1)) (cN t) = sLen (cN t) + 1 := va_up_self _ _ _
                    refine lv_aload_n hx hb d_M_field_181 rfl (lv_at hl 2 rfl) ?_
                    refine va_get (D := D) (ci := 8) (C := R_M) (T := T_M) (N := 39) hx hb hts (fun w h => kT w (i_M w h)) hown hK hP 0 rfl rfl 1 (by decide) (hts _ (kT _ wd_4d2260e1)) (fun _ h9 => h9) rfl d_M_field_182 ?_
                    refine lv_iload_n hx hb d_M_field_185 rfl (lv_at hl 3 rfl) ?_
                    refine n_iald hx hb hK hP 1 0 rfl rfl (i := (cN t)) (by omega) (by decide) d_M_field_186 ?_
                    refine lv_iconst (v := nI 1) hx hb d_M_field_187 (by decide) ?_
                    refine lv_isub hx hb d_M_field_188 ?_
                    refine lv_eqi (pk_sub (by omega)) ?_
                    exact k_iret hx hb hr hlocks hK hP hD hS (trivial) (by rw [hcd, hup]; rfl) (by rw [hcd]; first | done | rfl) d_M_field_189
                  · skip
                    have c_119 := (nI_eq (by omega) (by omega)).mp c_119
                    have hcd : cdField sLen t k x b = 2 := by rw [hcd0, if_neg (by omega)]
                    refine lv_aload_n hx hb d_M_field_122 rfl (lv_at hl 1 rfl) ?_
                    refine lv_iconst (v := nI 2) hx hb d_M_field_123 (by decide) ?_
                    refine k_callV (m_raise l D am gm tw sLen sKind sExt sMust rTab rFil mNum rLen rItm made pItm held dByt dLen ver fAdr fTab adr tab lf 0 row mWr mWid mOv mPl mTh mSp mPile mNext mSh mShs mRea mWg mEn mDp mAt mTb mSt 2  ) m_M_raise wd_4b1468e4 0 8 rfl rfl rfl kT hx hb hml hown hts ⟨Nat.le_of_ble_eq_true rfl, Nat.le_of_ble_eq_true rfl⟩ ⟨Nat.le_of_ble_eq_true rfl, Nat.le_of_ble_eq_true rfl⟩ hK hP hD hS hA hZ hl.1 rfl rfl (Nat.le_of_ble_eq_true rfl) d_M_field_124 (fun H locs hP hD hS => ?_)
                    have hP : va_P D vwCl (Wm am gm sLen sKind sExt sMust rTab rFil mNum rLen rItm made pItm held dByt dLen ver fAdr fTab adr tab lf 2 row mWr mWid mOv mPl mTh mSp mPile mNext mSh mShs mRea mWg mEn mDp mAt mTb mSt) H := hP
                    have hD : va_D A (Wm am gm sLen sKind sExt sMust rTab rFil mNum rLen rItm made pItm held dByt dLen ver fAdr fTab adr tab lf 2 row mWr mWid mOv mPl mTh mSp mPile mNext mSh mShs mRea mWg mEn mDp mAt mTb mSt) := hD
                    refine W.eq (g2 := F0 m 127 ls [.int (nI 0)]) rfl ?_
                    exact k_iret hx hb hr hlocks hK hP hD hS (trivial) (by rw [hcd]; first | done | rfl) (by rw [hcd]; first | done | rfl) d_M_field_127
                · skip
                  have c_76 := (nI_eq (by omega) (by omega)).mp c_76
                  refine lv_iload_n hx hb d_M_field_79 rfl (lv_at hl 4 rfl) ?_
                  refine lv_sipush (v := -32768) hx hb d_M_field_80 (by decide) ?_
                  refine lv_icmp_lt (tgt := 93) hx hb d_M_field_83 (by decide) (fun c_83 => ?_) (fun c_83 => ?_)
                  · skip
                    refine lv_iconst (v := nI 1) hx hb d_M_field_93 (by decide) ?_
                    refine lv_goto (tgt := 98) hx hb d_M_field_94 (by decide) ?_
                    refine lv_istore (lv' := [(5, .int (nI 1)), (0, .ref (am 0)), (1, .int t), (2, .int (nI (cN k))), (3, .int x), (4, .int (bI b))]) hx hb d_M_field_98 hl (by decide) rfl (fun ls hl => ?_)
                    refine lv_iload hx hb d_M_field_100 (lv_at hl 0 rfl) ?_
                    refine lv_if_eq (tgt := 111) hx hb d_M_field_102 (by decide) (fun c_102 => absurd c_102 (by decide)) (fun _ => ?_)
                    have hcd : cdField sLen t k x b = 1 := cdF_1c (by rw [show cN k = 1 by omega]; exact suT_1n (Or.inl c_83))
                    refine lv_aload_n hx hb d_M_field_105 rfl (lv_at hl 1 rfl) ?_
                    refine lv_iconst (v := nI 1) hx hb d_M_field_106 (by decide) ?_
                    refine k_callV (m_raise l D am gm tw sLen sKind sExt sMust rTab rFil mNum rLen rItm made pItm held dByt dLen ver fAdr fTab adr tab lf 0 row mWr mWid mOv mPl mTh mSp mPile mNext mSh mShs mRea mWg mEn mDp mAt mTb mSt 1  ) m_M_raise wd_4b1468e4 0 8 rfl rfl rfl kT hx hb hml hown hts ⟨Nat.le_of_ble_eq_true rfl, Nat.le_of_ble_eq_true rfl⟩ ⟨Nat.le_of_ble_eq_true rfl, Nat.le_of_ble_eq_true rfl⟩ hK hP hD hS hA hZ hl.1 rfl rfl (Nat.le_of_ble_eq_true rfl) d_M_field_107 (fun H locs hP hD hS => ?_)
                    have hP : va_P D vwCl (Wm am gm sLen sKind sExt sMust rTab rFil mNum rLen rItm made pItm held dByt dLen ver fAdr fTab adr tab lf 1 row mWr mWid mOv mPl mTh mSp mPile mNext mSh mShs mRea mWg mEn mDp mAt mTb mSt) H := hP
                    have hD : va_D A (Wm am gm sLen sKind sExt sMust rTab rFil mNum rLen rItm made pItm held dByt dLen ver fAdr fTab adr tab lf 1 row mWr mWid mOv mPl mTh mSp mPile mNext mSh mShs mRea mWg mEn mDp mAt mTb mSt) := hD
                    refine W.eq (g2 := F0 m 110 ls [.int (nI 0)]) rfl ?_
                    exact k_iret hx hb hr hlocks hK hP hD hS (trivial) (by rw [hcd]; first | done | rfl) (by rw [hcd]; first | done | rfl) d_M_field_110
                  · skip
                    refine lv_iload_n hx hb d_M_field_86 rfl (lv_at hl 4 rfl) ?_
                    refine lv_sipush (v := nI 32767) hx hb d_M_field_87 (by decide) ?_
                    refine lv_icmp_le (tgt := 97) hx hb d_M_field_90 (by decide) (fun c_90 => ?_) (fun c_90 => ?_)
                    · skip
                      refine lv_iconst (v := nI 0) hx hb d_M_field_97 (by decide) ?_
                      refine lv_istore (lv' := [(5, .int (nI 0)), (0, .ref (am 0)), (1, .int t), (2, .int (nI (cN k))), (3, .int x), (4, .int (bI b))]) hx hb d_M_field_98 hl (by decide) rfl (fun ls hl => ?_)
                      refine lv_iload hx hb d_M_field_100 (lv_at hl 0 rfl) ?_
                      refine lv_if_eq (tgt := 111) hx hb d_M_field_102 (by decide) (fun _ => ?_) (fun c_102 => absurd (by decide) c_102)
                      have hcd0 : cdField sLen t k x b = if sLen (cN t) < 6 then 0 else 2 := cdF_2 (t_y c_10) (o_y c_19) (by rw [show cN k = 6 by omega, suT_6]; exact t_y c_43) (fun z => by rw [c_29] at z; exact absurd z.1 (by decide))
                      obtain ⟨n_t, b_t⟩ := okT_spec (t_y c_10)
                      have hl : lv_has ls 7 [(5, .int (nI 0)), (0, .ref (am 0)), (1, .int (nI (cN t))), (2, .int (nI (cN k))), (3, .int x), (4, .int (bI b))] := by rw [← n_t]; exact hl
                      have hL1 := hL (cN t)
                      refine lv_aload_n hx hb d_M_field_111 rfl (lv_at hl 1 rfl) ?_
                      refine va_get (D := D) (ci := 8) (C := R_M) (T := T_M) (N := 39) hx hb hts (fun w h => kT w (i_M w h)) hown hK hP 0 rfl rfl 1 (by decide) (hts _ (kT _ wd_4d2260e1)) (fun _ h9 => h9) rfl d_M_field_112 ?_
                      refine lv_iload_n hx hb d_M_field_115 rfl (lv_at hl 2 rfl) ?_
                      refine n_iald hx hb hK hP 1 0 rfl rfl (i := (cN t)) (by omega) (by decide) d_M_field_116 ?_
                      refine lv_bipush (v := nI 6) hx hb d_M_field_117 (by decide) ?_
                      refine lv_icmp_ne (tgt := 128) hx hb d_M_field_119 (by decide) (fun c_119 => ?_) (fun c_119 => ?_)
                      · skip
                        have c_119 := mt (nI_eq (by omega) (by omega)).mpr c_119
                        have hcd : cdField sLen t k x b = 0 := by rw [hcd0, if_pos (by omega)]
                        refine lv_bipush (v := nI 6) hx hb d_M_field_128 (by decide) ?_
                        refine lv_iload_n hx hb d_M_field_130 rfl (lv_at hl 2 rfl) ?_
                        refine lv_imul hx hb d_M_field_131 ?_
                        refine lv_eqi ((pk_mul _ _).trans (nI_congr (Nat.mul_comm _ _))) ?_
                        refine lv_aload_n hx hb d_M_field_132 rfl (lv_at hl 1 rfl) ?_
                        refine va_get (D := D) (ci := 8) (C := R_M) (T := T_M) (N := 39) hx hb hts (fun w h => kT w (i_M w h)) hown hK hP 0 rfl rfl 1 (by decide) (hts _ (kT _ wd_4d2260e1)) (fun _ h9 => h9) rfl d_M_field_133 ?_
                        refine lv_iload_n hx hb d_M_field_136 rfl (lv_at hl 2 rfl) ?_
                        refine n_iald hx hb hK hP 1 0 rfl rfl (i := (cN t)) (by omega) (by decide) d_M_field_137 ?_
                        refine lv_iadd hx hb d_M_field_138 ?_
                        refine lv_eqi (nI_add _ _) ?_
                        refine lv_istore (lv' := [(6, .int (nI (((cN t) * 6) + (sLen (cN t))))), (5, .int (nI 0)), (0, .ref (am 0)), (1, .int (nI (cN t))), (2, .int (nI (cN k))), (3, .int x), (4, .int (bI b))]) hx hb d_M_field_139 hl (by decide) rfl (fun ls hl => ?_)
                        refine lv_aload_n hx hb d_M_field_141 rfl (lv_at hl 2 rfl) ?_
                        refine va_get (D := D) (ci := 8) (C := R_M) (T := T_M) (N := 39) hx hb hts (fun w h => kT w (i_M w h)) hown hK hP 0 rfl rfl 2 (by decide) (hts _ (kT _ wd_91f4763a)) (fun _ h9 => h9) rfl d_M_field_142 ?_
                        refine lv_iload hx hb d_M_field_145 (lv_at hl 0 rfl) ?_
                        refine lv_iload_n hx hb d_M_field_147 rfl (lv_at hl 4 rfl) ?_
                        refine n_iast hx hb hK hP hD hS 2 1 rfl rfl (i := (((cN t) * 6) + (sLen (cN t)))) (by omega) (by decide) d_M_field_148 (fun H locs hP hD hS => ?_)
                        have hP : va_P D vwCl (Wm am gm sLen (va_up sKind (((cN t) * 6) + (sLen (cN t))) (cN k)) sExt sMust rTab rFil mNum rLen rItm made pItm held dByt dLen ver fAdr fTab adr tab lf 0 row mWr mWid mOv mPl mTh mSp mPile mNext mSh mShs mRea mWg mEn mDp mAt mTb mSt) H := hP
                        have hD : va_D A (Wm am gm sLen (va_up sKind (((cN t) * 6) + (sLen (cN t))) (cN k)) sExt sMust rTab rFil mNum rLen rItm made pItm held dByt dLen ver fAdr fTab adr tab lf 0 row mWr mWid mOv mPl mTh mSp mPile mNext mSh mShs mRea mWg mEn mDp mAt mTb mSt) := hD
                        refine lv_aload_n hx hb d_M_field_149 rfl (lv_at hl 2 rfl) ?_
                        refine va_get (D := D) (ci := 8) (C := R_M) (T := T_M) (N := 39) hx hb hts (fun w h => kT w (i_M w h)) hown hK hP 0 rfl rfl 3 (by decide) (hts _ (kT _ wd_74a62eb0)) (fun _ h9 => h9) rfl d_M_field_150 ?_
                        refine lv_iload hx hb d_M_field_153 (lv_at hl 0 rfl) ?_
                        refine lv_iload_n hx hb d_M_field_155 rfl (lv_at hl 5 rfl) ?_
                        refine r_iast hx hb hK hP hD hS 3 2 rfl rfl (i := (((cN t) * 6) + (sLen (cN t)))) (by omega) (by decide) d_M_field_156 (fun H locs hP hD hS => ?_)
                        have hP : va_P D vwCl (Wm am gm sLen (va_up sKind (((cN t) * 6) + (sLen (cN t))) (cN k)) (upd sExt (((cN t) * 6) + (sLen (cN t))) x) sMust rTab rFil mNum rLen rItm made pItm held dByt dLen ver fAdr fTab adr tab lf 0 row mWr mWid mOv mPl mTh mSp mPile mNext mSh mShs mRea mWg mEn mDp mAt mTb mSt) H := hP
                        have hD : va_D A (Wm am gm sLen (va_up sKind (((cN t) * 6) + (sLen (cN t))) (cN k)) (upd sExt (((cN t) * 6) + (sLen (cN t))) x) sMust rTab rFil mNum rLen rItm made pItm held dByt dLen ver fAdr fTab adr tab lf 0 row mWr mWid mOv mPl mTh mSp mPile mNext mSh mShs mRea mWg mEn mDp mAt mTb mSt) := hD
                        refine lv_aload_n hx hb d_M_field_157 rfl (lv_at hl 2 rfl) ?_
                        refine va_get (D := D) (ci := 8) (C := R_M) (T := T_M) (N := 39) hx hb hts (fun w h => kT w (i_M w h)) hown hK hP 0 rfl rfl 4 (by decide) (hts _ (kT _ wd_de26f6e3)) (fun _ h9 => h9) rfl d_M_field_158 ?_
                        refine lv_iload hx hb d_M_field_161 (lv_at hl 0 rfl) ?_
                        refine lv_iload hx hb d_M_field_163 (lv_at hl 6 rfl) ?_
                        refine z_zast hx hb hK hP hD hS 4 3 rfl rfl (i := (((cN t) * 6) + (sLen (cN t)))) (by omega) (by decide) d_M_field_165 (fun H locs hP hD hS => ?_)
                        have hP : va_P D vwCl (Wm am gm sLen (va_up sKind (((cN t) * 6) + (sLen (cN t))) (cN k)) (upd sExt (((cN t) * 6) + (sLen (cN t))) x) (va_up sMust (((cN t) * 6) + (sLen (cN t))) b) rTab rFil mNum rLen rItm made pItm held dByt dLen ver fAdr fTab adr tab lf 0 row mWr mWid mOv mPl mTh mSp mPile mNext mSh mShs mRea mWg mEn mDp mAt mTb mSt) H := hP
                        have hD : va_D A (Wm am gm sLen (va_up sKind (((cN t) * 6) + (sLen (cN t))) (cN k)) (upd sExt (((cN t) * 6) + (sLen (cN t))) x) (va_up sMust (((cN t) * 6) + (sLen (cN t))) b) rTab rFil mNum rLen rItm made pItm held dByt dLen ver fAdr fTab adr tab lf 0 row mWr mWid mOv mPl mTh mSp mPile mNext mSh mShs mRea mWg mEn mDp mAt mTb mSt) := hD
                        refine lv_aload_n hx hb d_M_field_166 rfl (lv_at hl 2 rfl) ?_
                        refine va_get (D := D) (ci := 8) (C := R_M) (T := T_M) (N := 39) hx hb hts (fun w h => kT w (i_M w h)) hown hK hP 0 rfl rfl 1 (by decide) (hts _ (kT _ wd_4d2260e1)) (fun _ h9 => h9) rfl d_M_field_167 ?_
                        refine lv_iload_n hx hb d_M_field_170 rfl (lv_at hl 3 rfl) ?_
                        refine lv_dup2_11 hx hb d_M_field_171 rfl rfl ?_
                        refine n_iald hx hb hK hP 1 0 rfl rfl (i := (cN t)) (by omega) (by decide) d_M_field_172 ?_
                        refine lv_iconst (v := nI 1) hx hb d_M_field_173 (by decide) ?_
                        refine lv_iadd hx hb d_M_field_174 ?_
                        refine lv_eqi (nI_add _ _) ?_
                        refine n_iast hx hb hK hP hD hS 1 0 rfl rfl (i := (cN t)) (by omega) (by decide) d_M_field_175 (fun H locs hP hD hS => ?_)
                        have hP : va_P D vwCl (Wm am gm (va_up sLen (cN t) ((sLen (cN t)) + 1)) (va_up sKind (((cN t) * 6) + (sLen (cN t))) (cN k)) (upd sExt (((cN t) * 6) + (sLen (cN t))) x) (va_up sMust (((cN t) * 6) + (sLen (cN t))) b) rTab rFil mNum rLen rItm made pItm held dByt dLen ver fAdr fTab adr tab lf 0 row mWr mWid mOv mPl mTh mSp mPile mNext mSh mShs mRea mWg mEn mDp mAt mTb mSt) H := hP
                        have hD : va_D A (Wm am gm (va_up sLen (cN t) ((sLen (cN t)) + 1)) (va_up sKind (((cN t) * 6) + (sLen (cN t))) (cN k)) (upd sExt (((cN t) * 6) + (sLen (cN t))) x) (va_up sMust (((cN t) * 6) + (sLen (cN t))) b) rTab rFil mNum rLen rItm made pItm held dByt dLen ver fAdr fTab adr tab lf 0 row mWr mWid mOv mPl mTh mSp mPile mNext mSh mShs mRea mWg mEn mDp mAt mTb mSt) := hD
                        refine lv_aload_n hx hb d_M_field_176 rfl (lv_at hl 2 rfl) ?_
                        refine lv_iconst (v := nI 0) hx hb d_M_field_177 (by decide) ?_
                        refine lv_eqi (show nI 0 = bI false by decide) ?_
                        refine va_put (D := D) (ci := 8) (ty := .boolean) (C := R_M) (T := T_M) (N := 39) hx hb hts (fun w h => kT w (i_M w h)) ty_M tyk_M nm_M hown hK hP hD hS 0 rfl rfl 27 (by decide) (hts _ (kT _ wd_a47358da)) (fun _ h9 => h9) rfl (by decide +kernel) (bI_nar _) (bI_fits _) (Nat.le_of_ble_eq_true rfl) d_M_field_178 (fun H locs hP hD hS => ?_)
                        have hP : va_P D vwCl (Wm am gm (va_up sLen (cN t) ((sLen (cN t)) + 1)) (va_up sKind (((cN t) * 6) + (sLen (cN t))) (cN k)) (upd sExt (((cN t) * 6) + (sLen (cN t))) x) (va_up sMust (((cN t) * 6) + (sLen (cN t))) b) rTab rFil mNum rLen rItm made pItm held dByt dLen false fAdr fTab adr tab lf 0 row mWr mWid mOv mPl mTh mSp mPile mNext mSh mShs mRea mWg mEn mDp mAt mTb mSt) H := hP
                        have hD : va_D A (Wm am gm (va_up sLen (cN t) ((sLen (cN t)) + 1)) (va_up sKind (((cN t) * 6) + (sLen (cN t))) (cN k)) (upd sExt (((cN t) * 6) + (sLen (cN t))) x) (va_up sMust (((cN t) * 6) + (sLen (cN t))) b) rTab rFil mNum rLen rItm made pItm held dByt dLen false fAdr fTab adr tab lf 0 row mWr mWid mOv mPl mTh mSp mPile mNext mSh mShs mRea mWg mEn mDp mAt mTb mSt) := hD
                        have hup : (va_up sLen (cN t) ((sLen (cN t)) + 1)) (cN t) = sLen (cN t) + 1 := va_up_self _ _ _
                        refine lv_aload_n hx hb d_M_field_181 rfl (lv_at hl 2 rfl) ?_
                        refine va_get (D := D) (ci := 8) (C := R_M) (T := T_M) (N := 39) hx hb hts (fun w h => kT w (i_M w h)) hown hK hP 0 rfl rfl 1 (by decide) (hts _ (kT _ wd_4d2260e1)) (fun _ h9 => h9) rfl d_M_field_182 ?_
                        refine lv_iload_n hx hb d_M_field_185 rfl (lv_at hl 3 rfl) ?_
                        refine n_iald hx hb hK hP 1 0 rfl rfl (i := (cN t)) (by omega) (by decide) d_M_field_186 ?_
                        refine lv_iconst (v := nI 1) hx hb d_M_field_187 (by decide) ?_
                        refine lv_isub hx hb d_M_field_188 ?_
                        refine lv_eqi (pk_sub (by omega)) ?_
                        exact k_iret hx hb hr hlocks hK hP hD hS (trivial) (by rw [hcd, hup]; rfl) (by rw [hcd]; first | done | rfl) d_M_field_189
                      · skip
                        have c_119 := (nI_eq (by omega) (by omega)).mp c_119
                        have hcd : cdField sLen t k x b = 2 := by rw [hcd0, if_neg (by omega)]
                        refine lv_aload_n hx hb d_M_field_122 rfl (lv_at hl 1 rfl) ?_
                        refine lv_iconst (v := nI 2) hx hb d_M_field_123 (by decide) ?_
                        refine k_callV (m_raise l D am gm tw sLen sKind sExt sMust rTab rFil mNum rLen rItm made pItm held dByt dLen ver fAdr fTab adr tab lf 0 row mWr mWid mOv mPl mTh mSp mPile mNext mSh mShs mRea mWg mEn mDp mAt mTb mSt 2  ) m_M_raise wd_4b1468e4 0 8 rfl rfl rfl kT hx hb hml hown hts ⟨Nat.le_of_ble_eq_true rfl, Nat.le_of_ble_eq_true rfl⟩ ⟨Nat.le_of_ble_eq_true rfl, Nat.le_of_ble_eq_true rfl⟩ hK hP hD hS hA hZ hl.1 rfl rfl (Nat.le_of_ble_eq_true rfl) d_M_field_124 (fun H locs hP hD hS => ?_)
                        have hP : va_P D vwCl (Wm am gm sLen sKind sExt sMust rTab rFil mNum rLen rItm made pItm held dByt dLen ver fAdr fTab adr tab lf 2 row mWr mWid mOv mPl mTh mSp mPile mNext mSh mShs mRea mWg mEn mDp mAt mTb mSt) H := hP
                        have hD : va_D A (Wm am gm sLen sKind sExt sMust rTab rFil mNum rLen rItm made pItm held dByt dLen ver fAdr fTab adr tab lf 2 row mWr mWid mOv mPl mTh mSp mPile mNext mSh mShs mRea mWg mEn mDp mAt mTb mSt) := hD
                        refine W.eq (g2 := F0 m 127 ls [.int (nI 0)]) rfl ?_
                        exact k_iret hx hb hr hlocks hK hP hD hS (trivial) (by rw [hcd]; first | done | rfl) (by rw [hcd]; first | done | rfl) d_M_field_127
                    · skip
                      refine lv_iconst (v := nI 1) hx hb d_M_field_93 (by decide) ?_
                      refine lv_goto (tgt := 98) hx hb d_M_field_94 (by decide) ?_
                      refine lv_istore (lv' := [(5, .int (nI 1)), (0, .ref (am 0)), (1, .int t), (2, .int (nI (cN k))), (3, .int x), (4, .int (bI b))]) hx hb d_M_field_98 hl (by decide) rfl (fun ls hl => ?_)
                      refine lv_iload hx hb d_M_field_100 (lv_at hl 0 rfl) ?_
                      refine lv_if_eq (tgt := 111) hx hb d_M_field_102 (by decide) (fun c_102 => absurd c_102 (by decide)) (fun _ => ?_)
                      have hcd : cdField sLen t k x b = 1 := cdF_1c (by rw [show cN k = 1 by omega]; exact suT_1n (Or.inr (i_lt c_90)))
                      refine lv_aload_n hx hb d_M_field_105 rfl (lv_at hl 1 rfl) ?_
                      refine lv_iconst (v := nI 1) hx hb d_M_field_106 (by decide) ?_
                      refine k_callV (m_raise l D am gm tw sLen sKind sExt sMust rTab rFil mNum rLen rItm made pItm held dByt dLen ver fAdr fTab adr tab lf 0 row mWr mWid mOv mPl mTh mSp mPile mNext mSh mShs mRea mWg mEn mDp mAt mTb mSt 1  ) m_M_raise wd_4b1468e4 0 8 rfl rfl rfl kT hx hb hml hown hts ⟨Nat.le_of_ble_eq_true rfl, Nat.le_of_ble_eq_true rfl⟩ ⟨Nat.le_of_ble_eq_true rfl, Nat.le_of_ble_eq_true rfl⟩ hK hP hD hS hA hZ hl.1 rfl rfl (Nat.le_of_ble_eq_true rfl) d_M_field_107 (fun H locs hP hD hS => ?_)
                      have hP : va_P D vwCl (Wm am gm sLen sKind sExt sMust rTab rFil mNum rLen rItm made pItm held dByt dLen ver fAdr fTab adr tab lf 1 row mWr mWid mOv mPl mTh mSp mPile mNext mSh mShs mRea mWg mEn mDp mAt mTb mSt) H := hP
                      have hD : va_D A (Wm am gm sLen sKind sExt sMust rTab rFil mNum rLen rItm made pItm held dByt dLen ver fAdr fTab adr tab lf 1 row mWr mWid mOv mPl mTh mSp mPile mNext mSh mShs mRea mWg mEn mDp mAt mTb mSt) := hD
                      refine W.eq (g2 := F0 m 110 ls [.int (nI 0)]) rfl ?_
                      exact k_iret hx hb hr hlocks hK hP hD hS (trivial) (by rw [hcd]; first | done | rfl) (by rw [hcd]; first | done | rfl) d_M_field_110
              · skip
                have c_59 := (z_eq (by omega)).mp c_59
                refine lv_iload_n hx hb d_M_field_62 rfl (lv_at hl 4 rfl) ?_
                refine lv_bipush (v := -128) hx hb d_M_field_63 (by decide) ?_
                refine lv_icmp_lt (tgt := 93) hx hb d_M_field_65 (by decide) (fun c_65 => ?_) (fun c_65 => ?_)
                · skip
                  refine lv_iconst (v := nI 1) hx hb d_M_field_93 (by decide) ?_
                  refine lv_goto (tgt := 98) hx hb d_M_field_94 (by decide) ?_
                  refine lv_istore (lv' := [(5, .int (nI 1)), (0, .ref (am 0)), (1, .int t), (2, .int (nI (cN k))), (3, .int x), (4, .int (bI b))]) hx hb d_M_field_98 hl (by decide) rfl (fun ls hl => ?_)
                  refine lv_iload hx hb d_M_field_100 (lv_at hl 0 rfl) ?_
                  refine lv_if_eq (tgt := 111) hx hb d_M_field_102 (by decide) (fun c_102 => absurd c_102 (by decide)) (fun _ => ?_)
                  have hcd : cdField sLen t k x b = 1 := cdF_1c (by rw [show cN k = 0 by omega]; exact suT_0n (Or.inl c_65))
                  refine lv_aload_n hx hb d_M_field_105 rfl (lv_at hl 1 rfl) ?_
                  refine lv_iconst (v := nI 1) hx hb d_M_field_106 (by decide) ?_
                  refine k_callV (m_raise l D am gm tw sLen sKind sExt sMust rTab rFil mNum rLen rItm made pItm held dByt dLen ver fAdr fTab adr tab lf 0 row mWr mWid mOv mPl mTh mSp mPile mNext mSh mShs mRea mWg mEn mDp mAt mTb mSt 1  ) m_M_raise wd_4b1468e4 0 8 rfl rfl rfl kT hx hb hml hown hts ⟨Nat.le_of_ble_eq_true rfl, Nat.le_of_ble_eq_true rfl⟩ ⟨Nat.le_of_ble_eq_true rfl, Nat.le_of_ble_eq_true rfl⟩ hK hP hD hS hA hZ hl.1 rfl rfl (Nat.le_of_ble_eq_true rfl) d_M_field_107 (fun H locs hP hD hS => ?_)
                  have hP : va_P D vwCl (Wm am gm sLen sKind sExt sMust rTab rFil mNum rLen rItm made pItm held dByt dLen ver fAdr fTab adr tab lf 1 row mWr mWid mOv mPl mTh mSp mPile mNext mSh mShs mRea mWg mEn mDp mAt mTb mSt) H := hP
                  have hD : va_D A (Wm am gm sLen sKind sExt sMust rTab rFil mNum rLen rItm made pItm held dByt dLen ver fAdr fTab adr tab lf 1 row mWr mWid mOv mPl mTh mSp mPile mNext mSh mShs mRea mWg mEn mDp mAt mTb mSt) := hD
                  refine W.eq (g2 := F0 m 110 ls [.int (nI 0)]) rfl ?_
                  exact k_iret hx hb hr hlocks hK hP hD hS (trivial) (by rw [hcd]; first | done | rfl) (by rw [hcd]; first | done | rfl) d_M_field_110
                · skip
                  refine lv_iload_n hx hb d_M_field_68 rfl (lv_at hl 4 rfl) ?_
                  refine lv_bipush (v := nI 127) hx hb d_M_field_69 (by decide) ?_
                  refine lv_icmp_gt (tgt := 93) hx hb d_M_field_71 (by decide) (fun c_71 => ?_) (fun c_71 => ?_)
                  · skip
                    refine lv_iconst (v := nI 1) hx hb d_M_field_93 (by decide) ?_
                    refine lv_goto (tgt := 98) hx hb d_M_field_94 (by decide) ?_
                    refine lv_istore (lv' := [(5, .int (nI 1)), (0, .ref (am 0)), (1, .int t), (2, .int (nI (cN k))), (3, .int x), (4, .int (bI b))]) hx hb d_M_field_98 hl (by decide) rfl (fun ls hl => ?_)
                    refine lv_iload hx hb d_M_field_100 (lv_at hl 0 rfl) ?_
                    refine lv_if_eq (tgt := 111) hx hb d_M_field_102 (by decide) (fun c_102 => absurd c_102 (by decide)) (fun _ => ?_)
                    have hcd : cdField sLen t k x b = 1 := cdF_1c (by rw [show cN k = 0 by omega]; exact suT_0n (Or.inr c_71))
                    refine lv_aload_n hx hb d_M_field_105 rfl (lv_at hl 1 rfl) ?_
                    refine lv_iconst (v := nI 1) hx hb d_M_field_106 (by decide) ?_
                    refine k_callV (m_raise l D am gm tw sLen sKind sExt sMust rTab rFil mNum rLen rItm made pItm held dByt dLen ver fAdr fTab adr tab lf 0 row mWr mWid mOv mPl mTh mSp mPile mNext mSh mShs mRea mWg mEn mDp mAt mTb mSt 1  ) m_M_raise wd_4b1468e4 0 8 rfl rfl rfl kT hx hb hml hown hts ⟨Nat.le_of_ble_eq_true rfl, Nat.le_of_ble_eq_true rfl⟩ ⟨Nat.le_of_ble_eq_true rfl, Nat.le_of_ble_eq_true rfl⟩ hK hP hD hS hA hZ hl.1 rfl rfl (Nat.le_of_ble_eq_true rfl) d_M_field_107 (fun H locs hP hD hS => ?_)
                    have hP : va_P D vwCl (Wm am gm sLen sKind sExt sMust rTab rFil mNum rLen rItm made pItm held dByt dLen ver fAdr fTab adr tab lf 1 row mWr mWid mOv mPl mTh mSp mPile mNext mSh mShs mRea mWg mEn mDp mAt mTb mSt) H := hP
                    have hD : va_D A (Wm am gm sLen sKind sExt sMust rTab rFil mNum rLen rItm made pItm held dByt dLen ver fAdr fTab adr tab lf 1 row mWr mWid mOv mPl mTh mSp mPile mNext mSh mShs mRea mWg mEn mDp mAt mTb mSt) := hD
                    refine W.eq (g2 := F0 m 110 ls [.int (nI 0)]) rfl ?_
                    exact k_iret hx hb hr hlocks hK hP hD hS (trivial) (by rw [hcd]; first | done | rfl) (by rw [hcd]; first | done | rfl) d_M_field_110
                  · skip
                    refine lv_iload_n hx hb d_M_field_74 rfl (lv_at hl 3 rfl) ?_
                    refine lv_iconst (v := nI 1) hx hb d_M_field_75 (by decide) ?_
                    refine lv_icmp_ne (tgt := 97) hx hb d_M_field_76 (by decide) (fun c_76 => ?_) (fun c_76 => ?_)
                    · skip
                      have c_76 := mt (nI_eq (by omega) (by omega)).mpr c_76
                      refine lv_iconst (v := nI 0) hx hb d_M_field_97 (by decide) ?_
                      refine lv_istore (lv' := [(5, .int (nI 0)), (0, .ref (am 0)), (1, .int t), (2, .int (nI (cN k))), (3, .int x), (4, .int (bI b))]) hx hb d_M_field_98 hl (by decide) rfl (fun ls hl => ?_)
                      refine lv_iload hx hb d_M_field_100 (lv_at hl 0 rfl) ?_
                      refine lv_if_eq (tgt := 111) hx hb d_M_field_102 (by decide) (fun _ => ?_) (fun c_102 => absurd (by decide) c_102)
                      have hcd0 : cdField sLen t k x b = if sLen (cN t) < 6 then 0 else 2 := cdF_2 (t_y c_10) (o_y c_19) (by rw [show cN k = 6 by omega, suT_6]; exact t_y c_43) (fun z => by rw [c_29] at z; exact absurd z.1 (by decide))
                      obtain ⟨n_t, b_t⟩ := okT_spec (t_y c_10)
                      have hl : lv_has ls 7 [(5, .int (nI 0)), (0, .ref (am 0)), (1, .int (nI (cN t))), (2, .int (nI (cN k))), (3, .int x), (4, .int (bI b))] := by rw [← n_t]; exact hl
                      have hL1 := hL (cN t)
                      refine lv_aload_n hx hb d_M_field_111 rfl (lv_at hl 1 rfl) ?_
                      refine va_get (D := D) (ci := 8) (C := R_M) (T := T_M) (N := 39) hx hb hts (fun w h => kT w (i_M w h)) hown hK hP 0 rfl rfl 1 (by decide) (hts _ (kT _ wd_4d2260e1)) (fun _ h9 => h9) rfl d_M_field_112 ?_
                      refine lv_iload_n hx hb d_M_field_115 rfl (lv_at hl 2 rfl) ?_
                      refine n_iald hx hb hK hP 1 0 rfl rfl (i := (cN t)) (by omega) (by decide) d_M_field_116 ?_
                      refine lv_bipush (v := nI 6) hx hb d_M_field_117 (by decide) ?_
                      refine lv_icmp_ne (tgt := 128) hx hb d_M_field_119 (by decide) (fun c_119 => ?_) (fun c_119 => ?_)
                      · skip
                        have c_119 := mt (nI_eq (by omega) (by omega)).mpr c_119
                        have hcd : cdField sLen t k x b = 0 := by rw [hcd0, if_pos (by omega)]
                        refine lv_bipush (v := nI 6) hx hb d_M_field_128 (by decide) ?_
                        refine lv_iload_n hx hb d_M_field_130 rfl (lv_at hl 2 rfl) ?_
                        refine lv_imul hx hb d_M_field_131 ?_
                        refine lv_eqi ((pk_mul _ _).trans (nI_congr (Nat.mul_comm _ _))) ?_
                        refine lv_aload_n hx hb d_M_field_132 rfl (lv_at hl 1 rfl) ?_
                        refine va_get (D := D) (ci := 8) (C := R_M) (T := T_M) (N := 39) hx hb hts (fun w h => kT w (i_M w h)) hown hK hP 0 rfl rfl 1 (by decide) (hts _ (kT _ wd_4d2260e1)) (fun _ h9 => h9) rfl d_M_field_133 ?_
                        refine lv_iload_n hx hb d_M_field_136 rfl (lv_at hl 2 rfl) ?_
                        refine n_iald hx hb hK hP 1 0 rfl rfl (i := (cN t)) (by omega) (by decide) d_M_field_137 ?_
                        refine lv_iadd hx hb d_M_field_138 ?_
                        refine lv_eqi (nI_add _ _) ?_
                        refine lv_istore (lv' := [(6, .int (nI (((cN t) * 6) + (sLen (cN t))))), (5, .int (nI 0)), (0, .ref (am 0)), (1, .int (nI (cN t))), (2, .int (nI (cN k))), (3, .int x), (4, .int (bI b))]) hx hb d_M_field_139 hl (by decide) rfl (fun ls hl => ?_)
                        refine lv_aload_n hx hb d_M_field_141 rfl (lv_at hl 2 rfl) ?_
                        refine va_get (D := D) (ci := 8) (C := R_M) (T := T_M) (N := 39) hx hb hts (fun w h => kT w (i_M w h)) hown hK hP 0 rfl rfl 2 (by decide) (hts _ (kT _ wd_91f4763a)) (fun _ h9 => h9) rfl d_M_field_142 ?_
                        refine lv_iload hx hb d_M_field_145 (lv_at hl 0 rfl) ?_
                        refine lv_iload_n hx hb d_M_field_147 rfl (lv_at hl 4 rfl) ?_
                        refine n_iast hx hb hK hP hD hS 2 1 rfl rfl (i := (((cN t) * 6) + (sLen (cN t)))) (by omega) (by decide) d_M_field_148 (fun H locs hP hD hS => ?_)
                        have hP : va_P D vwCl (Wm am gm sLen (va_up sKind (((cN t) * 6) + (sLen (cN t))) (cN k)) sExt sMust rTab rFil mNum rLen rItm made pItm held dByt dLen ver fAdr fTab adr tab lf 0 row mWr mWid mOv mPl mTh mSp mPile mNext mSh mShs mRea mWg mEn mDp mAt mTb mSt) H := hP
                        have hD : va_D A (Wm am gm sLen (va_up sKind (((cN t) * 6) + (sLen (cN t))) (cN k)) sExt sMust rTab rFil mNum rLen rItm made pItm held dByt dLen ver fAdr fTab adr tab lf 0 row mWr mWid mOv mPl mTh mSp mPile mNext mSh mShs mRea mWg mEn mDp mAt mTb mSt) := hD
                        refine lv_aload_n hx hb d_M_field_149 rfl (lv_at hl 2 rfl) ?_
                        refine va_get (D := D) (ci := 8) (C := R_M) (T := T_M) (N := 39) hx hb hts (fun w h => kT w (i_M w h)) hown hK hP 0 rfl rfl 3 (by decide) (hts _ (kT _ wd_74a62eb0)) (fun _ h9 => h9) rfl d_M_field_150 ?_
                        refine lv_iload hx hb d_M_field_153 (lv_at hl 0 rfl) ?_
                        refine lv_iload_n hx hb d_M_field_155 rfl (lv_at hl 5 rfl) ?_
                        refine r_iast hx hb hK hP hD hS 3 2 rfl rfl (i := (((cN t) * 6) + (sLen (cN t)))) (by omega) (by decide) d_M_field_156 (fun H locs hP hD hS => ?_)
                        have hP : va_P D vwCl (Wm am gm sLen (va_up sKind (((cN t) * 6) + (sLen (cN t))) (cN k)) (upd sExt (((cN t) * 6) + (sLen (cN t))) x) sMust rTab rFil mNum rLen rItm made pItm held dByt dLen ver fAdr fTab adr tab lf 0 row mWr mWid mOv mPl mTh mSp mPile mNext mSh mShs mRea mWg mEn mDp mAt mTb mSt) H := hP
                        have hD : va_D A (Wm am gm sLen (va_up sKind (((cN t) * 6) + (sLen (cN t))) (cN k)) (upd sExt (((cN t) * 6) + (sLen (cN t))) x) sMust rTab rFil mNum rLen rItm made pItm held dByt dLen ver fAdr fTab adr tab lf 0 row mWr mWid mOv mPl mTh mSp mPile mNext mSh mShs mRea mWg mEn mDp mAt mTb mSt) := hD
                        refine lv_aload_n hx hb d_M_field_157 rfl (lv_at hl 2 rfl) ?_
                        refine va_get (D := D) (ci := 8) (C := R_M) (T := T_M) (N := 39) hx hb hts (fun w h => kT w (i_M w h)) hown hK hP 0 rfl rfl 4 (by decide) (hts _ (kT _ wd_de26f6e3)) (fun _ h9 => h9) rfl d_M_field_158 ?_
                        refine lv_iload hx hb d_M_field_161 (lv_at hl 0 rfl) ?_
                        refine lv_iload hx hb d_M_field_163 (lv_at hl 6 rfl) ?_
                        refine z_zast hx hb hK hP hD hS 4 3 rfl rfl (i := (((cN t) * 6) + (sLen (cN t)))) (by omega) (by decide) d_M_field_165 (fun H locs hP hD hS => ?_)
                        have hP : va_P D vwCl (Wm am gm sLen (va_up sKind (((cN t) * 6) + (sLen (cN t))) (cN k)) (upd sExt (((cN t) * 6) + (sLen (cN t))) x) (va_up sMust (((cN t) * 6) + (sLen (cN t))) b) rTab rFil mNum rLen rItm made pItm held dByt dLen ver fAdr fTab adr tab lf 0 row mWr mWid mOv mPl mTh mSp mPile mNext mSh mShs mRea mWg mEn mDp mAt mTb mSt) H := hP
                        have hD : va_D A (Wm am gm sLen (va_up sKind (((cN t) * 6) + (sLen (cN t))) (cN k)) (upd sExt (((cN t) * 6) + (sLen (cN t))) x) (va_up sMust (((cN t) * 6) + (sLen (cN t))) b) rTab rFil mNum rLen rItm made pItm held dByt dLen ver fAdr fTab adr tab lf 0 row mWr mWid mOv mPl mTh mSp mPile mNext mSh mShs mRea mWg mEn mDp mAt mTb mSt) := hD
                        refine lv_aload_n hx hb d_M_field_166 rfl (lv_at hl 2 rfl) ?_
                        refine va_get (D := D) (ci := 8) (C := R_M) (T := T_M) (N := 39) hx hb hts (fun w h => kT w (i_M w h)) hown hK hP 0 rfl rfl 1 (by decide) (hts _ (kT _ wd_4d2260e1)) (fun _ h9 => h9) rfl d_M_field_167 ?_
                        refine lv_iload_n hx hb d_M_field_170 rfl (lv_at hl 3 rfl) ?_
                        refine lv_dup2_11 hx hb d_M_field_171 rfl rfl ?_
                        refine n_iald hx hb hK hP 1 0 rfl rfl (i := (cN t)) (by omega) (by decide) d_M_field_172 ?_
                        refine lv_iconst (v := nI 1) hx hb d_M_field_173 (by decide) ?_
                        refine lv_iadd hx hb d_M_field_174 ?_
                        refine lv_eqi (nI_add _ _) ?_
                        refine n_iast hx hb hK hP hD hS 1 0 rfl rfl (i := (cN t)) (by omega) (by decide) d_M_field_175 (fun H locs hP hD hS => ?_)
                        have hP : va_P D vwCl (Wm am gm (va_up sLen (cN t) ((sLen (cN t)) + 1)) (va_up sKind (((cN t) * 6) + (sLen (cN t))) (cN k)) (upd sExt (((cN t) * 6) + (sLen (cN t))) x) (va_up sMust (((cN t) * 6) + (sLen (cN t))) b) rTab rFil mNum rLen rItm made pItm held dByt dLen ver fAdr fTab adr tab lf 0 row mWr mWid mOv mPl mTh mSp mPile mNext mSh mShs mRea mWg mEn mDp mAt mTb mSt) H := hP
                        have hD : va_D A (Wm am gm (va_up sLen (cN t) ((sLen (cN t)) + 1)) (va_up sKind (((cN t) * 6) + (sLen (cN t))) (cN k)) (upd sExt (((cN t) * 6) + (sLen (cN t))) x) (va_up sMust (((cN t) * 6) + (sLen (cN t))) b) rTab rFil mNum rLen rItm made pItm held dByt dLen ver fAdr fTab adr tab lf 0 row mWr mWid mOv mPl mTh mSp mPile mNext mSh mShs mRea mWg mEn mDp mAt mTb mSt) := hD
                        refine lv_aload_n hx hb d_M_field_176 rfl (lv_at hl 2 rfl) ?_
                        refine lv_iconst (v := nI 0) hx hb d_M_field_177 (by decide) ?_
                        refine lv_eqi (show nI 0 = bI false by decide) ?_
                        refine va_put (D := D) (ci := 8) (ty := .boolean) (C := R_M) (T := T_M) (N := 39) hx hb hts (fun w h => kT w (i_M w h)) ty_M tyk_M nm_M hown hK hP hD hS 0 rfl rfl 27 (by decide) (hts _ (kT _ wd_a47358da)) (fun _ h9 => h9) rfl (by decide +kernel) (bI_nar _) (bI_fits _) (Nat.le_of_ble_eq_true rfl) d_M_field_178 (fun H locs hP hD hS => ?_)
                        have hP : va_P D vwCl (Wm am gm (va_up sLen (cN t) ((sLen (cN t)) + 1)) (va_up sKind (((cN t) * 6) + (sLen (cN t))) (cN k)) (upd sExt (((cN t) * 6) + (sLen (cN t))) x) (va_up sMust (((cN t) * 6) + (sLen (cN t))) b) rTab rFil mNum rLen rItm made pItm held dByt dLen false fAdr fTab adr tab lf 0 row mWr mWid mOv mPl mTh mSp mPile mNext mSh mShs mRea mWg mEn mDp mAt mTb mSt) H := hP
                        have hD : va_D A (Wm am gm (va_up sLen (cN t) ((sLen (cN t)) + 1)) (va_up sKind (((cN t) * 6) + (sLen (cN t))) (cN k)) (upd sExt (((cN t) * 6) + (sLen (cN t))) x) (va_up sMust (((cN t) * 6) + (sLen (cN t))) b) rTab rFil mNum rLen rItm made pItm held dByt dLen false fAdr fTab adr tab lf 0 row mWr mWid mOv mPl mTh mSp mPile mNext mSh mShs mRea mWg mEn mDp mAt mTb mSt) := hD
                        have hup : (va_up sLen (cN t) ((sLen (cN t)) + 1)) (cN t) = sLen (cN t) + 1 := va_up_self _ _ _
                        refine lv_aload_n hx hb d_M_field_181 rfl (lv_at hl 2 rfl) ?_
                        refine va_get (D := D) (ci := 8) (C := R_M) (T := T_M) (N := 39) hx hb hts (fun w h => kT w (i_M w h)) hown hK hP 0 rfl rfl 1 (by decide) (hts _ (kT _ wd_4d2260e1)) (fun _ h9 => h9) rfl d_M_field_182 ?_
                        refine lv_iload_n hx hb d_M_field_185 rfl (lv_at hl 3 rfl) ?_
                        refine n_iald hx hb hK hP 1 0 rfl rfl (i := (cN t)) (by omega) (by decide) d_M_field_186 ?_
                        refine lv_iconst (v := nI 1) hx hb d_M_field_187 (by decide) ?_
                        refine lv_isub hx hb d_M_field_188 ?_
                        refine lv_eqi (pk_sub (by omega)) ?_
                        exact k_iret hx hb hr hlocks hK hP hD hS (trivial) (by rw [hcd, hup]; rfl) (by rw [hcd]; first | done | rfl) d_M_field_189
                      · skip
                        have c_119 := (nI_eq (by omega) (by omega)).mp c_119
                        have hcd : cdField sLen t k x b = 2 := by rw [hcd0, if_neg (by omega)]
                        refine lv_aload_n hx hb d_M_field_122 rfl (lv_at hl 1 rfl) ?_
                        refine lv_iconst (v := nI 2) hx hb d_M_field_123 (by decide) ?_
                        refine k_callV (m_raise l D am gm tw sLen sKind sExt sMust rTab rFil mNum rLen rItm made pItm held dByt dLen ver fAdr fTab adr tab lf 0 row mWr mWid mOv mPl mTh mSp mPile mNext mSh mShs mRea mWg mEn mDp mAt mTb mSt 2  ) m_M_raise wd_4b1468e4 0 8 rfl rfl rfl kT hx hb hml hown hts ⟨Nat.le_of_ble_eq_true rfl, Nat.le_of_ble_eq_true rfl⟩ ⟨Nat.le_of_ble_eq_true rfl, Nat.le_of_ble_eq_true rfl⟩ hK hP hD hS hA hZ hl.1 rfl rfl (Nat.le_of_ble_eq_true rfl) d_M_field_124 (fun H locs hP hD hS => ?_)
                        have hP : va_P D vwCl (Wm am gm sLen sKind sExt sMust rTab rFil mNum rLen rItm made pItm held dByt dLen ver fAdr fTab adr tab lf 2 row mWr mWid mOv mPl mTh mSp mPile mNext mSh mShs mRea mWg mEn mDp mAt mTb mSt) H := hP
                        have hD : va_D A (Wm am gm sLen sKind sExt sMust rTab rFil mNum rLen rItm made pItm held dByt dLen ver fAdr fTab adr tab lf 2 row mWr mWid mOv mPl mTh mSp mPile mNext mSh mShs mRea mWg mEn mDp mAt mTb mSt) := hD
                        refine W.eq (g2 := F0 m 127 ls [.int (nI 0)]) rfl ?_
                        exact k_iret hx hb hr hlocks hK hP hD hS (trivial) (by rw [hcd]; first | done | rfl) (by rw [hcd]; first | done | rfl) d_M_field_127
                    · skip
                      have c_76 := (nI_eq (by omega) (by omega)).mp c_76
                      refine lv_iload_n hx hb d_M_field_79 rfl (lv_at hl 4 rfl) ?_
                      refine lv_sipush (v := -32768) hx hb d_M_field_80 (by decide) ?_
                      refine lv_icmp_lt (tgt := 93) hx hb d_M_field_83 (by decide) (fun c_83 => ?_) (fun c_83 => ?_)
                      · skip
                        refine lv_iconst (v := nI 1) hx hb d_M_field_93 (by decide) ?_
                        refine lv_goto (tgt := 98) hx hb d_M_field_94 (by decide) ?_
                        refine lv_istore (lv' := [(5, .int (nI 1)), (0, .ref (am 0)), (1, .int t), (2, .int (nI (cN k))), (3, .int x), (4, .int (bI b))]) hx hb d_M_field_98 hl (by decide) rfl (fun ls hl => ?_)
                        refine lv_iload hx hb d_M_field_100 (lv_at hl 0 rfl) ?_
                        refine lv_if_eq (tgt := 111) hx hb d_M_field_102 (by decide) (fun c_102 => absurd c_102 (by decide)) (fun _ => ?_)
                        have hcd : cdField sLen t k x b = 1 := cdF_1c (by rw [show cN k = 1 by omega]; exact suT_1n (Or.inl c_83))
                        refine lv_aload_n hx hb d_M_field_105 rfl (lv_at hl 1 rfl) ?_
                        refine lv_iconst (v := nI 1) hx hb d_M_field_106 (by decide) ?_
                        refine k_callV (m_raise l D am gm tw sLen sKind sExt sMust rTab rFil mNum rLen rItm made pItm held dByt dLen ver fAdr fTab adr tab lf 0 row mWr mWid mOv mPl mTh mSp mPile mNext mSh mShs mRea mWg mEn mDp mAt mTb mSt 1  ) m_M_raise wd_4b1468e4 0 8 rfl rfl rfl kT hx hb hml hown hts ⟨Nat.le_of_ble_eq_true rfl, Nat.le_of_ble_eq_true rfl⟩ ⟨Nat.le_of_ble_eq_true rfl, Nat.le_of_ble_eq_true rfl⟩ hK hP hD hS hA hZ hl.1 rfl rfl (Nat.le_of_ble_eq_true rfl) d_M_field_107 (fun H locs hP hD hS => ?_)
                        have hP : va_P D vwCl (Wm am gm sLen sKind sExt sMust rTab rFil mNum rLen rItm made pItm held dByt dLen ver fAdr fTab adr tab lf 1 row mWr mWid mOv mPl mTh mSp mPile mNext mSh mShs mRea mWg mEn mDp mAt mTb mSt) H := hP
                        have hD : va_D A (Wm am gm sLen sKind sExt sMust rTab rFil mNum rLen rItm made pItm held dByt dLen ver fAdr fTab adr tab lf 1 row mWr mWid mOv mPl mTh mSp mPile mNext mSh mShs mRea mWg mEn mDp mAt mTb mSt) := hD
                        refine W.eq (g2 := F0 m 110 ls [.int (nI 0)]) rfl ?_
                        exact k_iret hx hb hr hlocks hK hP hD hS (trivial) (by rw [hcd]; first | done | rfl) (by rw [hcd]; first | done | rfl) d_M_field_110
                      · skip
                        refine lv_iload_n hx hb d_M_field_86 rfl (lv_at hl 4 rfl) ?_
                        refine lv_sipush (v := nI 32767) hx hb d_M_field_87 (by decide) ?_
                        refine lv_icmp_le (tgt := 97) hx hb d_M_field_90 (by decide) (fun c_90 => ?_) (fun c_90 => ?_)
                        · skip
                          refine lv_iconst (v := nI 0) hx hb d_M_field_97 (by decide) ?_
                          refine lv_istore (lv' := [(5, .int (nI 0)), (0, .ref (am 0)), (1, .int t), (2, .int (nI (cN k))), (3, .int x), (4, .int (bI b))]) hx hb d_M_field_98 hl (by decide) rfl (fun ls hl => ?_)
                          refine lv_iload hx hb d_M_field_100 (lv_at hl 0 rfl) ?_
                          refine lv_if_eq (tgt := 111) hx hb d_M_field_102 (by decide) (fun _ => ?_) (fun c_102 => absurd (by decide) c_102)
                          have hcd0 : cdField sLen t k x b = if sLen (cN t) < 6 then 0 else 2 := cdF_2 (t_y c_10) (o_y c_19) (by rw [show cN k = 6 by omega, suT_6]; exact t_y c_43) (fun z => by rw [c_29] at z; exact absurd z.1 (by decide))
                          obtain ⟨n_t, b_t⟩ := okT_spec (t_y c_10)
                          have hl : lv_has ls 7 [(5, .int (nI 0)), (0, .ref (am 0)), (1, .int (nI (cN t))), (2, .int (nI (cN k))), (3, .int x), (4, .int (bI b))] := by rw [← n_t]; exact hl
                          have hL1 := hL (cN t)
                          refine lv_aload_n hx hb d_M_field_111 rfl (lv_at hl 1 rfl) ?_
                          refine va_get (D := D) (ci := 8) (C := R_M) (T := T_M) (N := 39) hx hb hts (fun w h => kT w (i_M w h)) hown hK hP 0 rfl rfl 1 (by decide) (hts _ (kT _ wd_4d2260e1)) (fun _ h9 => h9) rfl d_M_field_112 ?_
                          refine lv_iload_n hx hb d_M_field_115 rfl (lv_at hl 2 rfl) ?_
                          refine n_iald hx hb hK hP 1 0 rfl rfl (i := (cN t)) (by omega) (by decide) d_M_field_116 ?_
                          refine lv_bipush (v := nI 6) hx hb d_M_field_117 (by decide) ?_
                          refine lv_icmp_ne (tgt := 128) hx hb d_M_field_119 (by decide) (fun c_119 => ?_) (fun c_119 => ?_)
                          · skip
                            have c_119 := mt (nI_eq (by omega) (by omega)).mpr c_119
                            have hcd : cdField sLen t k x b = 0 := by rw [hcd0, if_pos (by omega)]
                            refine lv_bipush (v := nI 6) hx hb d_M_field_128 (by decide) ?_
                            refine lv_iload_n hx hb d_M_field_130 rfl (lv_at hl 2 rfl) ?_
                            refine lv_imul hx hb d_M_field_131 ?_
                            refine lv_eqi ((pk_mul _ _).trans (nI_congr (Nat.mul_comm _ _))) ?_
                            refine lv_aload_n hx hb d_M_field_132 rfl (lv_at hl 1 rfl) ?_
                            refine va_get (D := D) (ci := 8) (C := R_M) (T := T_M) (N := 39) hx hb hts (fun w h => kT w (i_M w h)) hown hK hP 0 rfl rfl 1 (by decide) (hts _ (kT _ wd_4d2260e1)) (fun _ h9 => h9) rfl d_M_field_133 ?_
                            refine lv_iload_n hx hb d_M_field_136 rfl (lv_at hl 2 rfl) ?_
                            refine n_iald hx hb hK hP 1 0 rfl rfl (i := (cN t)) (by omega) (by decide) d_M_field_137 ?_
                            refine lv_iadd hx hb d_M_field_138 ?_
                            refine lv_eqi (nI_add _ _) ?_
                            refine lv_istore (lv' := [(6, .int (nI (((cN t) * 6) + (sLen (cN t))))), (5, .int (nI 0)), (0, .ref (am 0)), (1, .int (nI (cN t))), (2, .int (nI (cN k))), (3, .int x), (4, .int (bI b))]) hx hb d_M_field_139 hl (by decide) rfl (fun ls hl => ?_)
                            refine lv_aload_n hx hb d_M_field_141 rfl (lv_at hl 2 rfl) ?_
                            refine va_get (D := D) (ci := 8) (C := R_M) (T := T_M) (N := 39) hx hb hts (fun w h => kT w (i_M w h)) hown hK hP 0 rfl rfl 2 (by decide) (hts _ (kT _ wd_91f4763a)) (fun _ h9 => h9) rfl d_M_field_142 ?_
                            refine lv_iload hx hb d_M_field_145 (lv_at hl 0 rfl) ?_
                            refine lv_iload_n hx hb d_M_field_147 rfl (lv_at hl 4 rfl) ?_
                            refine n_iast hx hb hK hP hD hS 2 1 rfl rfl (i := (((cN t) * 6) + (sLen (cN t)))) (by omega) (by decide) d_M_field_148 (fun H locs hP hD hS => ?_)
                            have hP : va_P D vwCl (Wm am gm sLen (va_up sKind (((cN t) * 6) + (sLen (cN t))) (cN k)) sExt sMust rTab rFil mNum rLen rItm made pItm held dByt dLen ver fAdr fTab adr tab lf 0 row mWr mWid mOv mPl mTh mSp mPile mNext mSh mShs mRea mWg mEn mDp mAt mTb mSt) H := hP
                            have hD : va_D A (Wm am gm sLen (va_up sKind (((cN t) * 6) + (sLen (cN t))) (cN k)) sExt sMust rTab rFil mNum rLen rItm made pItm held dByt dLen ver fAdr fTab adr tab lf 0 row mWr mWid mOv mPl mTh mSp mPile mNext mSh mShs mRea mWg mEn mDp mAt mTb mSt) := hD
                            refine lv_aload_n hx hb d_M_field_149 rfl (lv_at hl 2 rfl) ?_
                            refine va_get (D := D) (ci := 8) (C := R_M) (T := T_M) (N := 39) hx hb hts (fun w h => kT w (i_M w h)) hown hK hP 0 rfl rfl 3 (by decide) (hts _ (kT _ wd_74a62eb0)) (fun _ h9 => h9) rfl d_M_field_150 ?_
                            refine lv_iload hx hb d_M_field_153 (lv_at hl 0 rfl) ?_
                            refine lv_iload_n hx hb d_M_field_155 rfl (lv_at hl 5 rfl) ?_
                            refine r_iast hx hb hK hP hD hS 3 2 rfl rfl (i := (((cN t) * 6) + (sLen (cN t)))) (by omega) (by decide) d_M_field_156 (fun H locs hP hD hS => ?_)
                            have hP : va_P D vwCl (Wm am gm sLen (va_up sKind (((cN t) * 6) + (sLen (cN t))) (cN k)) (upd sExt (((cN t) * 6) + (sLen (cN t))) x) sMust rTab rFil mNum rLen rItm made pItm held dByt dLen ver fAdr fTab adr tab lf 0 row mWr mWid mOv mPl mTh mSp mPile mNext mSh mShs mRea mWg mEn mDp mAt mTb mSt) H := hP
                            have hD : va_D A (Wm am gm sLen (va_up sKind (((cN t) * 6) + (sLen (cN t))) (cN k)) (upd sExt (((cN t) * 6) + (sLen (cN t))) x) sMust rTab rFil mNum rLen rItm made pItm held dByt dLen ver fAdr fTab adr tab lf 0 row mWr mWid mOv mPl mTh mSp mPile mNext mSh mShs mRea mWg mEn mDp mAt mTb mSt) := hD
                            refine lv_aload_n hx hb d_M_field_157 rfl (lv_at hl 2 rfl) ?_
                            refine va_get (D := D) (ci := 8) (C := R_M) (T := T_M) (N := 39) hx hb hts (fun w h => kT w (i_M w h)) hown hK hP 0 rfl rfl 4 (by decide) (hts _ (kT _ wd_de26f6e3)) (fun _ h9 => h9) rfl d_M_field_158 ?_
                            refine lv_iload hx hb d_M_field_161 (lv_at hl 0 rfl) ?_
                            refine lv_iload hx hb d_M_field_163 (lv_at hl 6 rfl) ?_
                            refine z_zast hx hb hK hP hD hS 4 3 rfl rfl (i := (((cN t) * 6) + (sLen (cN t)))) (by omega) (by decide) d_M_field_165 (fun H locs hP hD hS => ?_)
                            have hP : va_P D vwCl (Wm am gm sLen (va_up sKind (((cN t) * 6) + (sLen (cN t))) (cN k)) (upd sExt (((cN t) * 6) + (sLen (cN t))) x) (va_up sMust (((cN t) * 6) + (sLen (cN t))) b) rTab rFil mNum rLen rItm made pItm held dByt dLen ver fAdr fTab adr tab lf 0 row mWr mWid mOv mPl mTh mSp mPile mNext mSh mShs mRea mWg mEn mDp mAt mTb mSt) H := hP
                            have hD : va_D A (Wm am gm sLen (va_up sKind (((cN t) * 6) + (sLen (cN t))) (cN k)) (upd sExt (((cN t) * 6) + (sLen (cN t))) x) (va_up sMust (((cN t) * 6) + (sLen (cN t))) b) rTab rFil mNum rLen rItm made pItm held dByt dLen ver fAdr fTab adr tab lf 0 row mWr mWid mOv mPl mTh mSp mPile mNext mSh mShs mRea mWg mEn mDp mAt mTb mSt) := hD
                            refine lv_aload_n hx hb d_M_field_166 rfl (lv_at hl 2 rfl) ?_
                            refine va_get (D := D) (ci := 8) (C := R_M) (T := T_M) (N := 39) hx hb hts (fun w h => kT w (i_M w h)) hown hK hP 0 rfl rfl 1 (by decide) (hts _ (kT _ wd_4d2260e1)) (fun _ h9 => h9) rfl d_M_field_167 ?_
                            refine lv_iload_n hx hb d_M_field_170 rfl (lv_at hl 3 rfl) ?_
                            refine lv_dup2_11 hx hb d_M_field_171 rfl rfl ?_
                            refine n_iald hx hb hK hP 1 0 rfl rfl (i := (cN t)) (by omega) (by decide) d_M_field_172 ?_
                            refine lv_iconst (v := nI 1) hx hb d_M_field_173 (by decide) ?_
                            refine lv_iadd hx hb d_M_field_174 ?_
                            refine lv_eqi (nI_add _ _) ?_
                            refine n_iast hx hb hK hP hD hS 1 0 rfl rfl (i := (cN t)) (by omega) (by decide) d_M_field_175 (fun H locs hP hD hS => ?_)
                            have hP : va_P D vwCl (Wm am gm (va_up sLen (cN t) ((sLen (cN t)) + 1)) (va_up sKind (((cN t) * 6) + (sLen (cN t))) (cN k)) (upd sExt (((cN t) * 6) + (sLen (cN t))) x) (va_up sMust (((cN t) * 6) + (sLen (cN t))) b) rTab rFil mNum rLen rItm made pItm held dByt dLen ver fAdr fTab adr tab lf 0 row mWr mWid mOv mPl mTh mSp mPile mNext mSh mShs mRea mWg mEn mDp mAt mTb mSt) H := hP
                            have hD : va_D A (Wm am gm (va_up sLen (cN t) ((sLen (cN t)) + 1)) (va_up sKind (((cN t) * 6) + (sLen (cN t))) (cN k)) (upd sExt (((cN t) * 6) + (sLen (cN t))) x) (va_up sMust (((cN t) * 6) + (sLen (cN t))) b) rTab rFil mNum rLen rItm made pItm held dByt dLen ver fAdr fTab adr tab lf 0 row mWr mWid mOv mPl mTh mSp mPile mNext mSh mShs mRea mWg mEn mDp mAt mTb mSt) := hD
                            refine lv_aload_n hx hb d_M_field_176 rfl (lv_at hl 2 rfl) ?_
                            refine lv_iconst (v := nI 0) hx hb d_M_field_177 (by decide) ?_
                            refine lv_eqi (show nI 0 = bI false by decide) ?_
                            refine va_put (D := D) (ci := 8) (ty := .boolean) (C := R_M) (T := T_M) (N := 39) hx hb hts (fun w h => kT w (i_M w h)) ty_M tyk_M nm_M hown hK hP hD hS 0 rfl rfl 27 (by decide) (hts _ (kT _ wd_a47358da)) (fun _ h9 => h9) rfl (by decide +kernel) (bI_nar _) (bI_fits _) (Nat.le_of_ble_eq_true rfl) d_M_field_178 (fun H locs hP hD hS => ?_)
                            have hP : va_P D vwCl (Wm am gm (va_up sLen (cN t) ((sLen (cN t)) + 1)) (va_up sKind (((cN t) * 6) + (sLen (cN t))) (cN k)) (upd sExt (((cN t) * 6) + (sLen (cN t))) x) (va_up sMust (((cN t) * 6) + (sLen (cN t))) b) rTab rFil mNum rLen rItm made pItm held dByt dLen false fAdr fTab adr tab lf 0 row mWr mWid mOv mPl mTh mSp mPile mNext mSh mShs mRea mWg mEn mDp mAt mTb mSt) H := hP
                            have hD : va_D A (Wm am gm (va_up sLen (cN t) ((sLen (cN t)) + 1)) (va_up sKind (((cN t) * 6) + (sLen (cN t))) (cN k)) (upd sExt (((cN t) * 6) + (sLen (cN t))) x) (va_up sMust (((cN t) * 6) + (sLen (cN t))) b) rTab rFil mNum rLen rItm made pItm held dByt dLen false fAdr fTab adr tab lf 0 row mWr mWid mOv mPl mTh mSp mPile mNext mSh mShs mRea mWg mEn mDp mAt mTb mSt) := hD
                            have hup : (va_up sLen (cN t) ((sLen (cN t)) + 1)) (cN t) = sLen (cN t) + 1 := va_up_self _ _ _
                            refine lv_aload_n hx hb d_M_field_181 rfl (lv_at hl 2 rfl) ?_
                            refine va_get (D := D) (ci := 8) (C := R_M) (T := T_M) (N := 39) hx hb hts (fun w h => kT w (i_M w h)) hown hK hP 0 rfl rfl 1 (by decide) (hts _ (kT _ wd_4d2260e1)) (fun _ h9 => h9) rfl d_M_field_182 ?_
                            refine lv_iload_n hx hb d_M_field_185 rfl (lv_at hl 3 rfl) ?_
                            refine n_iald hx hb hK hP 1 0 rfl rfl (i := (cN t)) (by omega) (by decide) d_M_field_186 ?_
                            refine lv_iconst (v := nI 1) hx hb d_M_field_187 (by decide) ?_
                            refine lv_isub hx hb d_M_field_188 ?_
                            refine lv_eqi (pk_sub (by omega)) ?_
                            exact k_iret hx hb hr hlocks hK hP hD hS (trivial) (by rw [hcd, hup]; rfl) (by rw [hcd]; first | done | rfl) d_M_field_189
                          · skip
                            have c_119 := (nI_eq (by omega) (by omega)).mp c_119
                            have hcd : cdField sLen t k x b = 2 := by rw [hcd0, if_neg (by omega)]
                            refine lv_aload_n hx hb d_M_field_122 rfl (lv_at hl 1 rfl) ?_
                            refine lv_iconst (v := nI 2) hx hb d_M_field_123 (by decide) ?_
                            refine k_callV (m_raise l D am gm tw sLen sKind sExt sMust rTab rFil mNum rLen rItm made pItm held dByt dLen ver fAdr fTab adr tab lf 0 row mWr mWid mOv mPl mTh mSp mPile mNext mSh mShs mRea mWg mEn mDp mAt mTb mSt 2  ) m_M_raise wd_4b1468e4 0 8 rfl rfl rfl kT hx hb hml hown hts ⟨Nat.le_of_ble_eq_true rfl, Nat.le_of_ble_eq_true rfl⟩ ⟨Nat.le_of_ble_eq_true rfl, Nat.le_of_ble_eq_true rfl⟩ hK hP hD hS hA hZ hl.1 rfl rfl (Nat.le_of_ble_eq_true rfl) d_M_field_124 (fun H locs hP hD hS => ?_)
                            have hP : va_P D vwCl (Wm am gm sLen sKind sExt sMust rTab rFil mNum rLen rItm made pItm held dByt dLen ver fAdr fTab adr tab lf 2 row mWr mWid mOv mPl mTh mSp mPile mNext mSh mShs mRea mWg mEn mDp mAt mTb mSt) H := hP
                            have hD : va_D A (Wm am gm sLen sKind sExt sMust rTab rFil mNum rLen rItm made pItm held dByt dLen ver fAdr fTab adr tab lf 2 row mWr mWid mOv mPl mTh mSp mPile mNext mSh mShs mRea mWg mEn mDp mAt mTb mSt) := hD
                            refine W.eq (g2 := F0 m 127 ls [.int (nI 0)]) rfl ?_
                            exact k_iret hx hb hr hlocks hK hP hD hS (trivial) (by rw [hcd]; first | done | rfl) (by rw [hcd]; first | done | rfl) d_M_field_127
                        · skip
                          refine lv_iconst (v := nI 1) hx hb d_M_field_93 (by decide) ?_
                          refine lv_goto (tgt := 98) hx hb d_M_field_94 (by decide) ?_
                          refine lv_istore (lv' := [(5, .int (nI 1)), (0, .ref (am 0)), (1, .int t), (2, .int (nI (cN k))), (3, .int x), (4, .int (bI b))]) hx hb d_M_field_98 hl (by decide) rfl (fun ls hl => ?_)
                          refine lv_iload hx hb d_M_field_100 (lv_at hl 0 rfl) ?_
                          refine lv_if_eq (tgt := 111) hx hb d_M_field_102 (by decide) (fun c_102 => absurd c_102 (by decide)) (fun _ => ?_)
                          have hcd : cdField sLen t k x b = 1 := cdF_1c (by rw [show cN k = 1 by omega]; exact suT_1n (Or.inr (i_lt c_90)))
                          refine lv_aload_n hx hb d_M_field_105 rfl (lv_at hl 1 rfl) ?_
                          refine lv_iconst (v := nI 1) hx hb d_M_field_106 (by decide) ?_
                          refine k_callV (m_raise l D am gm tw sLen sKind sExt sMust rTab rFil mNum rLen rItm made pItm held dByt dLen ver fAdr fTab adr tab lf 0 row mWr mWid mOv mPl mTh mSp mPile mNext mSh mShs mRea mWg mEn mDp mAt mTb mSt 1  ) m_M_raise wd_4b1468e4 0 8 rfl rfl rfl kT hx hb hml hown hts ⟨Nat.le_of_ble_eq_true rfl, Nat.le_of_ble_eq_true rfl⟩ ⟨Nat.le_of_ble_eq_true rfl, Nat.le_of_ble_eq_true rfl⟩ hK hP hD hS hA hZ hl.1 rfl rfl (Nat.le_of_ble_eq_true rfl) d_M_field_107 (fun H locs hP hD hS => ?_)
                          have hP : va_P D vwCl (Wm am gm sLen sKind sExt sMust rTab rFil mNum rLen rItm made pItm held dByt dLen ver fAdr fTab adr tab lf 1 row mWr mWid mOv mPl mTh mSp mPile mNext mSh mShs mRea mWg mEn mDp mAt mTb mSt) H := hP
                          have hD : va_D A (Wm am gm sLen sKind sExt sMust rTab rFil mNum rLen rItm made pItm held dByt dLen ver fAdr fTab adr tab lf 1 row mWr mWid mOv mPl mTh mSp mPile mNext mSh mShs mRea mWg mEn mDp mAt mTb mSt) := hD
                          refine W.eq (g2 := F0 m 110 ls [.int (nI 0)]) rfl ?_
                          exact k_iret hx hb hr hlocks hK hP hD hS (trivial) (by rw [hcd]; first | done | rfl) (by rw [hcd]; first | done | rfl) d_M_field_110
            · skip
              have c_43 := mt (bI_0).mpr c_43
              have c_43 := eq_true_of_ne_false c_43
              refine lv_iconst (v := nI 1) hx hb d_M_field_46 (by decide) ?_
              refine lv_goto (tgt := 51) hx hb d_M_field_47 (by decide) ?_
              refine lv_istore (lv' := [(5, .int (nI 1)), (0, .ref (am 0)), (1, .int t), (2, .int (nI (cN k))), (3, .int x), (4, .int (bI b))]) hx hb d_M_field_51 hl (by decide) rfl (fun ls hl => ?_)
              refine lv_iload hx hb d_M_field_53 (lv_at hl 0 rfl) ?_
              refine lv_if_ne (tgt := 93) hx hb d_M_field_55 (by decide) (fun _ => ?_) (fun c_55 => absurd c_55 (by decide))
              refine lv_iconst (v := nI 1) hx hb d_M_field_93 (by decide) ?_
              refine lv_goto (tgt := 98) hx hb d_M_field_94 (by decide) ?_
              refine lv_istore (lv' := [(5, .int (nI 1)), (0, .ref (am 0)), (1, .int t), (2, .int (nI (cN k))), (3, .int x), (4, .int (bI b))]) hx hb d_M_field_98 hl (by decide) rfl (fun ls hl => ?_)
              refine lv_iload hx hb d_M_field_100 (lv_at hl 0 rfl) ?_
              refine lv_if_eq (tgt := 111) hx hb d_M_field_102 (by decide) (fun c_102 => absurd c_102 (by decide)) (fun _ => ?_)
              have hcd : cdField sLen t k x b = 1 := cdF_1c (by rw [show cN k = 6 by omega, suT_6]; exact t_n c_43)
              refine lv_aload_n hx hb d_M_field_105 rfl (lv_at hl 1 rfl) ?_
              refine lv_iconst (v := nI 1) hx hb d_M_field_106 (by decide) ?_
              refine k_callV (m_raise l D am gm tw sLen sKind sExt sMust rTab rFil mNum rLen rItm made pItm held dByt dLen ver fAdr fTab adr tab lf 0 row mWr mWid mOv mPl mTh mSp mPile mNext mSh mShs mRea mWg mEn mDp mAt mTb mSt 1  ) m_M_raise wd_4b1468e4 0 8 rfl rfl rfl kT hx hb hml hown hts ⟨Nat.le_of_ble_eq_true rfl, Nat.le_of_ble_eq_true rfl⟩ ⟨Nat.le_of_ble_eq_true rfl, Nat.le_of_ble_eq_true rfl⟩ hK hP hD hS hA hZ hl.1 rfl rfl (Nat.le_of_ble_eq_true rfl) d_M_field_107 (fun H locs hP hD hS => ?_)
              have hP : va_P D vwCl (Wm am gm sLen sKind sExt sMust rTab rFil mNum rLen rItm made pItm held dByt dLen ver fAdr fTab adr tab lf 1 row mWr mWid mOv mPl mTh mSp mPile mNext mSh mShs mRea mWg mEn mDp mAt mTb mSt) H := hP
              have hD : va_D A (Wm am gm sLen sKind sExt sMust rTab rFil mNum rLen rItm made pItm held dByt dLen ver fAdr fTab adr tab lf 1 row mWr mWid mOv mPl mTh mSp mPile mNext mSh mShs mRea mWg mEn mDp mAt mTb mSt) := hD
              refine W.eq (g2 := F0 m 110 ls [.int (nI 0)]) rfl ?_
              exact k_iret hx hb hr hlocks hK hP hD hS (trivial) (by rw [hcd]; first | done | rfl) (by rw [hcd]; first | done | rfl) d_M_field_110
set_option maxHeartbeats 4000000 in
set_option maxRecDepth 100000 in
theorem m_make (l : Launch) (D : va_G) (am : Nat → Nat) (gm : Nat → ClassId) (tw : Nat) (sLen sKind : Nat → Nat) (sExt : Nat → Int32) (sMust : Nat → Bool) (rTab : Nat → Nat) (rFil : Nat → Bool) (mNum : Nat → Int64) (rLen : Nat → Nat) (rItm : Nat → Int32) (made : Nat) (pItm : Nat → Int32) (held : Nat) (dByt : Nat → Nat) (dLen : Nat) (ver : Bool) (fAdr fTab adr tab : Nat) (lf : Int32) (mCode : Nat) (row : Nat → Nat) (mWr mWid : Nat) (mOv : Bool) (mPl mTh mSp mPile mNext mSh : Nat → Nat) (mShs : Nat) (mRea : Nat → Bool) (mWg : Int32) (mEn mDp : Nat) (mAt mTb mSt : Nat → Nat) (x : Int32)  (hm : made ≤ 16) : kM l y_M_make b_M_make 2 (some .int) ({ frames := 1, cells := 0, slots := 0, locals := 21 }) D vwCl (WmT gm) tw [.ref (am 0), .int x] (Wm am gm sLen sKind sExt sMust rTab rFil mNum rLen rItm made pItm held dByt dLen ver fAdr fTab adr tab lf mCode row mWr mWid mOv mPl mTh mSp mPile mNext mSh mShs mRea mWg mEn mDp mAt mTb mSt) (some (.int (nI (if cdMake made x = 0 then made else 0)))) (Wm am gm sLen sKind sExt sMust (if cdMake made x = 0 then va_up rTab made (cN x) else rTab) rFil mNum rLen rItm (if cdMake made x = 0 then made + 1 else made) pItm held dByt dLen ver fAdr fTab adr tab lf (cdMake made x) row mWr mWid mOv mPl mTh mSp mPile mNext mSh mShs mRea mWg mEn mDp mAt mTb mSt) := by
  refine k_of (by decide) (Nat.le_of_ble_eq_true rfl) ?_
  intro p e s m below meth c A ls hx hb hr hlocks hml hts hown hin0 hA hP hK hD hS hZ hl
  have hl : lv_has ls 2 [(0, .ref (am 0)), (1, .int x)] := hl
  refine lv_aload_n hx hb d_M_make_0 rfl (lv_at hl 0 rfl) ?_
  refine lv_iconst (v := nI 0) hx hb d_M_make_1 (by decide) ?_
  refine va_put (D := D) (ci := 8) (ty := .int) (C := R_M) (T := T_M) (N := 39) hx hb hts (fun w h => kT w (i_M w h)) ty_M tyk_M nm_M hown hK hP hD hS 0 rfl rfl 0 (by decide) (hts _ (kT _ wd_8b8ffda9)) (fun _ h9 => h9) rfl (by decide +kernel) rfl rfl (Nat.le_of_ble_eq_true rfl) d_M_make_2 (fun H locs hP hD hS => ?_)
  have hP : va_P D vwCl (Wm am gm sLen sKind sExt sMust rTab rFil mNum rLen rItm made pItm held dByt dLen ver fAdr fTab adr tab lf 0 row mWr mWid mOv mPl mTh mSp mPile mNext mSh mShs mRea mWg mEn mDp mAt mTb mSt) H := hP
  have hD : va_D A (Wm am gm sLen sKind sExt sMust rTab rFil mNum rLen rItm made pItm held dByt dLen ver fAdr fTab adr tab lf 0 row mWr mWid mOv mPl mTh mSp mPile mNext mSh mShs mRea mWg mEn mDp mAt mTb mSt) := hD
  refine lv_iload_n hx hb d_M_make_5 rfl (lv_at hl 1 rfl) ?_
  refine lv_iconst (v := nI 3) hx hb d_M_make_6 (by decide) ?_
  refine k_callS (m_out l D am gm tw sLen sKind sExt sMust rTab rFil mNum rLen rItm made pItm held dByt dLen ver fAdr fTab adr tab lf 0 row mWr mWid mOv mPl mTh mSp mPile mNext mSh mShs mRea mWg mEn mDp mAt mTb mSt x (nI 3)  ) m_M_out wd_0c68f9ea kT hx hb hml hown hts ⟨Nat.le_of_ble_eq_true rfl, Nat.le_of_ble_eq_true rfl⟩ ⟨Nat.le_of_ble_eq_true rfl, Nat.le_of_ble_eq_true rfl⟩ hK hP hD hS hA hZ hl.1 rfl rfl (Nat.le_of_ble_eq_true rfl) d_M_make_7 (fun H locs hP hD hS => ?_)
  have hP : va_P D vwCl (Wm am gm sLen sKind sExt sMust rTab rFil mNum rLen rItm made pItm held dByt dLen ver fAdr fTab adr tab lf 0 row mWr mWid mOv mPl mTh mSp mPile mNext mSh mShs mRea mWg mEn mDp mAt mTb mSt) H := hP
  have hD : va_D A (Wm am gm sLen sKind sExt sMust rTab rFil mNum rLen rItm made pItm held dByt dLen ver fAdr fTab adr tab lf 0 row mWr mWid mOv mPl mTh mSp mPile mNext mSh mShs mRea mWg mEn mDp mAt mTb mSt) := hD
  refine W.eq (g2 := F0 m 10 ls [.int (bI (outB x (nI 3)))]) rfl ?_
  refine lv_if_eq (tgt := 19) hx hb d_M_make_10 (by decide) (fun c_10 => ?_) (fun c_10 => ?_)
  · skip
    have c_10 := (bI_0).mp c_10
    obtain ⟨n_x, b_x⟩ := okT_spec (t_y c_10)
    have hl : lv_has ls 2 [(0, .ref (am 0)), (1, .int (nI (cN x)))] := by rw [← n_x]; exact hl
    refine lv_aload_n hx hb d_M_make_19 rfl (lv_at hl 0 rfl) ?_
    refine va_get (D := D) (ci := 8) (C := R_M) (T := T_M) (N := 39) hx hb hts (fun w h => kT w (i_M w h)) hown hK hP 0 rfl rfl 6 (by decide) (hts _ (kT _ wd_2434e5fd)) (fun _ h9 => h9) rfl d_M_make_20 ?_
    refine lv_bipush (v := nI 16) hx hb d_M_make_23 (by decide) ?_
    refine lv_icmp_ne (tgt := 34) hx hb d_M_make_25 (by decide) (fun c_25 => ?_) (fun c_25 => ?_)
    · skip
      have c_25 := mt (nI_eq (by omega) (by omega)).mpr c_25
      have hcd : cdMake made x = 0 := by rw [cdMake, if_pos (t_y c_10), if_pos (by omega)]
      refine lv_aload_n hx hb d_M_make_34 rfl (lv_at hl 0 rfl) ?_
      refine va_get (D := D) (ci := 8) (C := R_M) (T := T_M) (N := 39) hx hb hts (fun w h => kT w (i_M w h)) hown hK hP 0 rfl rfl 5 (by decide) (hts _ (kT _ wd_83fb424b)) (fun _ h9 => h9) rfl d_M_make_35 ?_
      refine lv_aload_n hx hb d_M_make_38 rfl (lv_at hl 0 rfl) ?_
      refine va_get (D := D) (ci := 8) (C := R_M) (T := T_M) (N := 39) hx hb hts (fun w h => kT w (i_M w h)) hown hK hP 0 rfl rfl 6 (by decide) (hts _ (kT _ wd_2434e5fd)) (fun _ h9 => h9) rfl d_M_make_39 ?_
      refine lv_iload_n hx hb d_M_make_42 rfl (lv_at hl 1 rfl) ?_
      refine n_iast hx hb hK hP hD hS 5 4 rfl rfl (i := made) (by omega) (by decide) d_M_make_43 (fun H locs hP hD hS => ?_)
      have hP : va_P D vwCl (Wm am gm sLen sKind sExt sMust (va_up rTab made (cN x)) rFil mNum rLen rItm made pItm held dByt dLen ver fAdr fTab adr tab lf 0 row mWr mWid mOv mPl mTh mSp mPile mNext mSh mShs mRea mWg mEn mDp mAt mTb mSt) H := hP
      have hD : va_D A (Wm am gm sLen sKind sExt sMust (va_up rTab made (cN x)) rFil mNum rLen rItm made pItm held dByt dLen ver fAdr fTab adr tab lf 0 row mWr mWid mOv mPl mTh mSp mPile mNext mSh mShs mRea mWg mEn mDp mAt mTb mSt) := hD
      refine lv_aload_n hx hb d_M_make_44 rfl (lv_at hl 0 rfl) ?_
      refine lv_dup hx hb d_M_make_45 rfl ?_
      refine va_get (D := D) (ci := 8) (C := R_M) (T := T_M) (N := 39) hx hb hts (fun w h => kT w (i_M w h)) hown hK hP 0 rfl rfl 6 (by decide) (hts _ (kT _ wd_2434e5fd)) (fun _ h9 => h9) rfl d_M_make_46 ?_
      refine lv_iconst (v := nI 1) hx hb d_M_make_49 (by decide) ?_
      refine lv_iadd hx hb d_M_make_50 ?_
      refine lv_eqi (nI_add _ _) ?_
      refine va_put (D := D) (ci := 8) (ty := .int) (C := R_M) (T := T_M) (N := 39) hx hb hts (fun w h => kT w (i_M w h)) ty_M tyk_M nm_M hown hK hP hD hS 0 rfl rfl 6 (by decide) (hts _ (kT _ wd_2434e5fd)) (fun _ h9 => h9) rfl (by decide +kernel) rfl rfl (Nat.le_of_ble_eq_true rfl) d_M_make_51 (fun H locs hP hD hS => ?_)
      have hP : va_P D vwCl (Wm am gm sLen sKind sExt sMust (va_up rTab made (cN x)) rFil mNum rLen rItm (made + 1) pItm held dByt dLen ver fAdr fTab adr tab lf 0 row mWr mWid mOv mPl mTh mSp mPile mNext mSh mShs mRea mWg mEn mDp mAt mTb mSt) H := hP
      have hD : va_D A (Wm am gm sLen sKind sExt sMust (va_up rTab made (cN x)) rFil mNum rLen rItm (made + 1) pItm held dByt dLen ver fAdr fTab adr tab lf 0 row mWr mWid mOv mPl mTh mSp mPile mNext mSh mShs mRea mWg mEn mDp mAt mTb mSt) := hD
      refine lv_aload_n hx hb d_M_make_54 rfl (lv_at hl 0 rfl) ?_
      refine va_get (D := D) (ci := 8) (C := R_M) (T := T_M) (N := 39) hx hb hts (fun w h => kT w (i_M w h)) hown hK hP 0 rfl rfl 6 (by decide) (hts _ (kT _ wd_2434e5fd)) (fun _ h9 => h9) rfl d_M_make_55 ?_
      refine lv_iconst (v := nI 1) hx hb d_M_make_58 (by decide) ?_
      refine lv_isub hx hb d_M_make_59 ?_
      refine lv_eqi (pk_sub (by omega)) ?_
      exact k_iret hx hb hr hlocks hK hP hD hS (trivial) (by rw [hcd]; first | done | rfl) (by rw [hcd]; first | done | rfl) d_M_make_60
    · skip
      have c_25 := (nI_eq (by omega) (by omega)).mp c_25
      have hcd : cdMake made x = 2 := by rw [cdMake, if_pos (t_y c_10), if_neg (by omega)]
      refine lv_aload_n hx hb d_M_make_28 rfl (lv_at hl 0 rfl) ?_
      refine lv_iconst (v := nI 2) hx hb d_M_make_29 (by decide) ?_
      refine k_callV (m_raise l D am gm tw sLen sKind sExt sMust rTab rFil mNum rLen rItm made pItm held dByt dLen ver fAdr fTab adr tab lf 0 row mWr mWid mOv mPl mTh mSp mPile mNext mSh mShs mRea mWg mEn mDp mAt mTb mSt 2  ) m_M_raise wd_4b1468e4 0 8 rfl rfl rfl kT hx hb hml hown hts ⟨Nat.le_of_ble_eq_true rfl, Nat.le_of_ble_eq_true rfl⟩ ⟨Nat.le_of_ble_eq_true rfl, Nat.le_of_ble_eq_true rfl⟩ hK hP hD hS hA hZ hl.1 rfl rfl (Nat.le_of_ble_eq_true rfl) d_M_make_30 (fun H locs hP hD hS => ?_)
      have hP : va_P D vwCl (Wm am gm sLen sKind sExt sMust rTab rFil mNum rLen rItm made pItm held dByt dLen ver fAdr fTab adr tab lf 2 row mWr mWid mOv mPl mTh mSp mPile mNext mSh mShs mRea mWg mEn mDp mAt mTb mSt) H := hP
      have hD : va_D A (Wm am gm sLen sKind sExt sMust rTab rFil mNum rLen rItm made pItm held dByt dLen ver fAdr fTab adr tab lf 2 row mWr mWid mOv mPl mTh mSp mPile mNext mSh mShs mRea mWg mEn mDp mAt mTb mSt) := hD
      refine W.eq (g2 := F0 m 33 ls [.int (nI 0)]) rfl ?_
      exact k_iret hx hb hr hlocks hK hP hD hS (trivial) (by rw [hcd]; first | done | rfl) (by rw [hcd]; first | done | rfl) d_M_make_33
  · skip
    have c_10 := mt (bI_0).mpr c_10
    have c_10 := eq_true_of_ne_false c_10
    have hcd : cdMake made x = 1 := by rw [cdMake, if_neg (by simp [t_n c_10])]
    refine lv_aload_n hx hb d_M_make_13 rfl (lv_at hl 0 rfl) ?_
    refine lv_iconst (v := nI 1) hx hb d_M_make_14 (by decide) ?_
    refine k_callV (m_raise l D am gm tw sLen sKind sExt sMust rTab rFil mNum rLen rItm made pItm held dByt dLen ver fAdr fTab adr tab lf 0 row mWr mWid mOv mPl mTh mSp mPile mNext mSh mShs mRea mWg mEn mDp mAt mTb mSt 1  ) m_M_raise wd_4b1468e4 0 8 rfl rfl rfl kT hx hb hml hown hts ⟨Nat.le_of_ble_eq_true rfl, Nat.le_of_ble_eq_true rfl⟩ ⟨Nat.le_of_ble_eq_true rfl, Nat.le_of_ble_eq_true rfl⟩ hK hP hD hS hA hZ hl.1 rfl rfl (Nat.le_of_ble_eq_true rfl) d_M_make_15 (fun H locs hP hD hS => ?_)
    have hP : va_P D vwCl (Wm am gm sLen sKind sExt sMust rTab rFil mNum rLen rItm made pItm held dByt dLen ver fAdr fTab adr tab lf 1 row mWr mWid mOv mPl mTh mSp mPile mNext mSh mShs mRea mWg mEn mDp mAt mTb mSt) H := hP
    have hD : va_D A (Wm am gm sLen sKind sExt sMust rTab rFil mNum rLen rItm made pItm held dByt dLen ver fAdr fTab adr tab lf 1 row mWr mWid mOv mPl mTh mSp mPile mNext mSh mShs mRea mWg mEn mDp mAt mTb mSt) := hD
    refine W.eq (g2 := F0 m 18 ls [.int (nI 0)]) rfl ?_
    exact k_iret hx hb hr hlocks hK hP hD hS (trivial) (by rw [hcd]; first | done | rfl) (by rw [hcd]; first | done | rfl) d_M_make_18
set_option maxHeartbeats 4000000 in
set_option maxRecDepth 100000 in
theorem m_none (l : Launch) (D : va_G) (am : Nat → Nat) (gm : Nat → ClassId) (tw : Nat) (sLen sKind : Nat → Nat) (sExt : Nat → Int32) (sMust : Nat → Bool) (rTab : Nat → Nat) (rFil : Nat → Bool) (mNum : Nat → Int64) (rLen : Nat → Nat) (rItm : Nat → Int32) (made : Nat) (pItm : Nat → Int32) (held : Nat) (dByt : Nat → Nat) (dLen : Nat) (ver : Bool) (fAdr fTab adr tab : Nat) (lf : Int32) (mCode : Nat) (row : Nat → Nat) (mWr mWid : Nat) (mOv : Bool) (mPl mTh mSp mPile mNext mSh : Nat → Nat) (mShs : Nat) (mRea : Nat → Bool) (mWg : Int32) (mEn mDp : Nat) (mAt mTb mSt : Nat → Nat) (x : Int32) (y : Int32)  (hm : made ≤ 16) (hT : ∀ r, rTab r < 4) (hL : ∀ t, sLen t ≤ 6) : kM l y_M_none b_M_none 3 (some .boolean) ({ frames := 1, cells := 0, slots := 0, locals := 21 }) D vwCl (WmT gm) tw [.ref (am 0), .int x, .int y] (Wm am gm sLen sKind sExt sMust rTab rFil mNum rLen rItm made pItm held dByt dLen ver fAdr fTab adr tab lf mCode row mWr mWid mOv mPl mTh mSp mPile mNext mSh mShs mRea mWg mEn mDp mAt mTb mSt) (some (.int (bI (!(inR sLen rTab made x y))))) (Wm am gm sLen sKind sExt sMust rTab rFil mNum rLen rItm made pItm held dByt dLen ver fAdr fTab adr tab lf mCode row mWr mWid mOv mPl mTh mSp mPile mNext mSh mShs mRea mWg mEn mDp mAt mTb mSt) := by
  refine k_of (by decide) (Nat.le_of_ble_eq_true rfl) ?_
  intro p e s m below meth c A ls hx hb hr hlocks hml hts hown hin0 hA hP hK hD hS hZ hl
  have hl : lv_has ls 3 [(0, .ref (am 0)), (1, .int x), (2, .int y)] := hl
  refine lv_iload_n hx hb d_M_none_0 rfl (lv_at hl 1 rfl) ?_
  refine lv_aload_n hx hb d_M_none_1 rfl (lv_at hl 0 rfl) ?_
  refine va_get (D := D) (ci := 8) (C := R_M) (T := T_M) (N := 39) hx hb hts (fun w h => kT w (i_M w h)) hown hK hP 0 rfl rfl 6 (by decide) (hts _ (kT _ wd_2434e5fd)) (fun _ h9 => h9) rfl d_M_none_2 ?_
  refine lv_iconst (v := nI 1) hx hb d_M_none_5 (by decide) ?_
  refine lv_isub hx hb d_M_none_6 ?_
  refine k_callS (m_out l D am gm tw sLen sKind sExt sMust rTab rFil mNum rLen rItm made pItm held dByt dLen ver fAdr fTab adr tab lf mCode row mWr mWid mOv mPl mTh mSp mPile mNext mSh mShs mRea mWg mEn mDp mAt mTb mSt x ((nI made) - (nI 1))  ) m_M_out wd_0c68f9ea kT hx hb hml hown hts ⟨Nat.le_of_ble_eq_true rfl, Nat.le_of_ble_eq_true rfl⟩ ⟨Nat.le_of_ble_eq_true rfl, Nat.le_of_ble_eq_true rfl⟩ hK hP hD hS hA hZ hl.1 rfl rfl (Nat.le_of_ble_eq_true rfl) d_M_none_7 (fun H locs hP hD hS => ?_)
  have hP : va_P D vwCl (Wm am gm sLen sKind sExt sMust rTab rFil mNum rLen rItm made pItm held dByt dLen ver fAdr fTab adr tab lf mCode row mWr mWid mOv mPl mTh mSp mPile mNext mSh mShs mRea mWg mEn mDp mAt mTb mSt) H := hP
  have hD : va_D A (Wm am gm sLen sKind sExt sMust rTab rFil mNum rLen rItm made pItm held dByt dLen ver fAdr fTab adr tab lf mCode row mWr mWid mOv mPl mTh mSp mPile mNext mSh mShs mRea mWg mEn mDp mAt mTb mSt) := hD
  refine W.eq (g2 := F0 m 10 ls [.int (bI (outB x ((nI made) - (nI 1))))]) rfl ?_
  refine lv_if_ne (tgt := 33) hx hb d_M_none_10 (by decide) (fun c_10 => ?_) (fun c_10 => ?_)
  · skip
    have c_10 := mt (bI_0).mpr c_10
    have c_10 := eq_true_of_ne_false c_10
    refine lv_iconst (v := nI 1) hx hb d_M_none_33 (by decide) ?_
    refine lv_goto (tgt := 38) hx hb d_M_none_34 (by decide) ?_
    exact k_zret hx hb hr hlocks hK hP hD hS (trivial) (by rw [nI_bI1]; exact congrArg bI (Eq.symm (by rw [inR, out_n (n := made) (by omega) c_10]; rfl))) (rfl) (bI_nar _) d_M_none_38
  · skip
    have c_10 := (bI_0).mp c_10
    obtain ⟨n_x, b_x⟩ := hasF_spec (by omega) (out_y (by omega) c_10)
    have hl : lv_has ls 3 [(0, .ref (am 0)), (1, .int (nI (cN x))), (2, .int y)] := by rw [← n_x]; exact hl
    have hT1 := hT (cN x)
    have hL1 := hL (rTab (cN x))
    refine lv_iload_n hx hb d_M_none_13 rfl (lv_at hl 2 rfl) ?_
    refine lv_aload_n hx hb d_M_none_14 rfl (lv_at hl 0 rfl) ?_
    refine va_get (D := D) (ci := 8) (C := R_M) (T := T_M) (N := 39) hx hb hts (fun w h => kT w (i_M w h)) hown hK hP 0 rfl rfl 1 (by decide) (hts _ (kT _ wd_4d2260e1)) (fun _ h9 => h9) rfl d_M_none_15 ?_
    refine lv_aload_n hx hb d_M_none_18 rfl (lv_at hl 0 rfl) ?_
    refine va_get (D := D) (ci := 8) (C := R_M) (T := T_M) (N := 39) hx hb hts (fun w h => kT w (i_M w h)) hown hK hP 0 rfl rfl 5 (by decide) (hts _ (kT _ wd_83fb424b)) (fun _ h9 => h9) rfl d_M_none_19 ?_
    refine lv_iload_n hx hb d_M_none_22 rfl (lv_at hl 1 rfl) ?_
    refine n_iald hx hb hK hP 5 4 rfl rfl (i := (cN x)) (by omega) (by decide) d_M_none_23 ?_
    refine n_iald hx hb hK hP 1 0 rfl rfl (i := (rTab (cN x))) (by omega) (by decide) d_M_none_24 ?_
    refine lv_iconst (v := nI 1) hx hb d_M_none_25 (by decide) ?_
    refine lv_isub hx hb d_M_none_26 ?_
    refine k_callS (m_out l D am gm tw sLen sKind sExt sMust rTab rFil mNum rLen rItm made pItm held dByt dLen ver fAdr fTab adr tab lf mCode row mWr mWid mOv mPl mTh mSp mPile mNext mSh mShs mRea mWg mEn mDp mAt mTb mSt y ((nI (sLen (rTab (cN x)))) - (nI 1))  ) m_M_out wd_0c68f9ea kT hx hb hml hown hts ⟨Nat.le_of_ble_eq_true rfl, Nat.le_of_ble_eq_true rfl⟩ ⟨Nat.le_of_ble_eq_true rfl, Nat.le_of_ble_eq_true rfl⟩ hK hP hD hS hA hZ hl.1 rfl rfl (Nat.le_of_ble_eq_true rfl) d_M_none_27 (fun H locs hP hD hS => ?_)
    have hP : va_P D vwCl (Wm am gm sLen sKind sExt sMust rTab rFil mNum rLen rItm made pItm held dByt dLen ver fAdr fTab adr tab lf mCode row mWr mWid mOv mPl mTh mSp mPile mNext mSh mShs mRea mWg mEn mDp mAt mTb mSt) H := hP
    have hD : va_D A (Wm am gm sLen sKind sExt sMust rTab rFil mNum rLen rItm made pItm held dByt dLen ver fAdr fTab adr tab lf mCode row mWr mWid mOv mPl mTh mSp mPile mNext mSh mShs mRea mWg mEn mDp mAt mTb mSt) := hD
    refine W.eq (g2 := F0 m 30 ls [.int (bI (outB y ((nI (sLen (rTab (cN x)))) - (nI 1))))]) rfl ?_
    refine lv_if_eq (tgt := 37) hx hb d_M_none_30 (by decide) (fun c_30 => ?_) (fun c_30 => ?_)
    · skip
      have c_30 := (bI_0).mp c_30
      refine lv_iconst (v := nI 0) hx hb d_M_none_37 (by decide) ?_
      exact k_zret hx hb hr hlocks hK hP hD hS (trivial) (by rw [nI_bI0]; exact congrArg bI (Eq.symm (by rw [inR, out_y (n := made) (by omega) c_10, out_y (n := sLen (rTab (cN x))) (by omega) c_30]; rfl))) (rfl) (bI_nar _) d_M_none_38
    · skip
      have c_30 := mt (bI_0).mpr c_30
      have c_30 := eq_true_of_ne_false c_30
      refine lv_iconst (v := nI 1) hx hb d_M_none_33 (by decide) ?_
      refine lv_goto (tgt := 38) hx hb d_M_none_34 (by decide) ?_
      exact k_zret hx hb hr hlocks hK hP hD hS (trivial) (by rw [nI_bI1]; exact congrArg bI (Eq.symm (by rw [inR, out_y (n := made) (by omega) c_10, out_n (n := sLen (rTab (cN x))) (by omega) c_30]; rfl))) (rfl) (bI_nar _) d_M_none_38
set_option maxHeartbeats 4000000 in
set_option maxRecDepth 100000 in
theorem m_number (l : Launch) (D : va_G) (am : Nat → Nat) (gm : Nat → ClassId) (tw : Nat) (sLen sKind : Nat → Nat) (sExt : Nat → Int32) (sMust : Nat → Bool) (rTab : Nat → Nat) (rFil : Nat → Bool) (mNum : Nat → Int64) (rLen : Nat → Nat) (rItm : Nat → Int32) (made : Nat) (pItm : Nat → Int32) (held : Nat) (dByt : Nat → Nat) (dLen : Nat) (ver : Bool) (fAdr fTab adr tab : Nat) (lf : Int32) (mCode : Nat) (row : Nat → Nat) (mWr mWid : Nat) (mOv : Bool) (mPl mTh mSp mPile mNext mSh : Nat → Nat) (mShs : Nat) (mRea : Nat → Bool) (mWg : Int32) (mEn mDp : Nat) (mAt mTb mSt : Nat → Nat) (x : Int32) (y : Int32) (v : Int64)  (hm : made ≤ 16) (hT : ∀ r, rTab r < 4) (hL : ∀ t, sLen t ≤ 6) (hk : ∀ j, sKind j < 7) : kM l y_M_number b_M_number 5 (some .long) ({ frames := 2, cells := 0, slots := 0, locals := 43 }) D vwCl (WmT gm) tw [.ref (am 0), .int x, .int y, .long v] (Wm am gm sLen sKind sExt sMust rTab rFil mNum rLen rItm made pItm held dByt dLen ver fAdr fTab adr tab lf mCode row mWr mWid mOv mPl mTh mSp mPile mNext mSh mShs mRea mWg mEn mDp mAt mTb mSt) (some (.long (if cdNum sLen sKind rTab made x y = 0 then brI (kdR sKind rTab x y) v else 0))) (Wm am gm sLen sKind sExt sMust rTab (if cdNum sLen sKind rTab made x y = 0 then va_up rFil (cN x * 6 + cN y) true else rFil) (if cdNum sLen sKind rTab made x y = 0 then vp_updL mNum (cN x * 6 + cN y) (brI (kdR sKind rTab x y) v) else mNum) rLen rItm made pItm held dByt dLen ver fAdr fTab adr tab lf (cdNum sLen sKind rTab made x y) row mWr mWid mOv mPl mTh mSp mPile mNext mSh mShs mRea mWg mEn mDp mAt mTb mSt) := by
  refine k_of (by decide) (Nat.le_of_ble_eq_true rfl) ?_
  intro p e s m below meth c A ls hx hb hr hlocks hml hts hown hin0 hA hP hK hD hS hZ hl
  have hl : lv_has ls 5 [(0, .ref (am 0)), (1, .int x), (2, .int y), (3, .long v)] := hl
  refine lv_aload_n hx hb d_M_number_0 rfl (lv_at hl 0 rfl) ?_
  refine lv_iconst (v := nI 0) hx hb d_M_number_1 (by decide) ?_
  refine va_put (D := D) (ci := 8) (ty := .int) (C := R_M) (T := T_M) (N := 39) hx hb hts (fun w h => kT w (i_M w h)) ty_M tyk_M nm_M hown hK hP hD hS 0 rfl rfl 0 (by decide) (hts _ (kT _ wd_8b8ffda9)) (fun _ h9 => h9) rfl (by decide +kernel) rfl rfl (Nat.le_of_ble_eq_true rfl) d_M_number_2 (fun H locs hP hD hS => ?_)
  have hP : va_P D vwCl (Wm am gm sLen sKind sExt sMust rTab rFil mNum rLen rItm made pItm held dByt dLen ver fAdr fTab adr tab lf 0 row mWr mWid mOv mPl mTh mSp mPile mNext mSh mShs mRea mWg mEn mDp mAt mTb mSt) H := hP
  have hD : va_D A (Wm am gm sLen sKind sExt sMust rTab rFil mNum rLen rItm made pItm held dByt dLen ver fAdr fTab adr tab lf 0 row mWr mWid mOv mPl mTh mSp mPile mNext mSh mShs mRea mWg mEn mDp mAt mTb mSt) := hD
  refine lv_aload_n hx hb d_M_number_5 rfl (lv_at hl 0 rfl) ?_
  refine lv_iload_n hx hb d_M_number_6 rfl (lv_at hl 1 rfl) ?_
  refine lv_iload_n hx hb d_M_number_7 rfl (lv_at hl 2 rfl) ?_
  refine k_callV (m_none l D am gm tw sLen sKind sExt sMust rTab rFil mNum rLen rItm made pItm held dByt dLen ver fAdr fTab adr tab lf 0 row mWr mWid mOv mPl mTh mSp mPile mNext mSh mShs mRea mWg mEn mDp mAt mTb mSt x y  hm hT hL) m_M_none wd_cf2b0413 0 8 rfl rfl rfl kT hx hb hml hown hts ⟨Nat.le_of_ble_eq_true rfl, Nat.le_of_ble_eq_true rfl⟩ ⟨Nat.le_of_ble_eq_true rfl, Nat.le_of_ble_eq_true rfl⟩ hK hP hD hS hA hZ hl.1 rfl rfl (Nat.le_of_ble_eq_true rfl) d_M_number_8 (fun H locs hP hD hS => ?_)
  have hP : va_P D vwCl (Wm am gm sLen sKind sExt sMust rTab rFil mNum rLen rItm made pItm held dByt dLen ver fAdr fTab adr tab lf 0 row mWr mWid mOv mPl mTh mSp mPile mNext mSh mShs mRea mWg mEn mDp mAt mTb mSt) H := hP
  have hD : va_D A (Wm am gm sLen sKind sExt sMust rTab rFil mNum rLen rItm made pItm held dByt dLen ver fAdr fTab adr tab lf 0 row mWr mWid mOv mPl mTh mSp mPile mNext mSh mShs mRea mWg mEn mDp mAt mTb mSt) := hD
  refine W.eq (g2 := F0 m 11 ls [.int (bI (!(inR sLen rTab made x y)))]) rfl ?_
  refine lv_if_eq (tgt := 21) hx hb d_M_number_11 (by decide) (fun c_11 => ?_) (fun c_11 => ?_)
  · skip
    have c_11 := (bI_0).mp c_11
    have hin : inR sLen rTab made x y = true := by simpa using c_11
    obtain ⟨⟨n_x, b_x⟩, ⟨n_y, b_y⟩, hT1, hL1⟩ := inR_spec hm (fun r _ => hT r) (fun t _ => hL t) hin
    have hl : lv_has ls 5 [(0, .ref (am 0)), (1, .int (nI (cN x))), (2, .int y), (3, .long v)] := by rw [← n_x]; exact hl
    have hl : lv_has ls 5 [(0, .ref (am 0)), (1, .int (nI (cN x))), (2, .int (nI (cN y))), (3, .long v)] := by rw [← n_y]; exact hl
    have hkd : kdR sKind rTab x y = sKind (rTab (cN x) * 6 + cN y) := rfl
    have hk1 : sKind (rTab (cN x) * 6 + cN y) < 7 := hk _
    refine lv_aload_n hx hb d_M_number_21 rfl (lv_at hl 0 rfl) ?_
    refine lv_iload_n hx hb d_M_number_22 rfl (lv_at hl 1 rfl) ?_
    refine lv_iload_n hx hb d_M_number_23 rfl (lv_at hl 2 rfl) ?_
    refine k_callV (m_kindOf l D am gm tw sLen sKind sExt sMust rTab rFil mNum rLen rItm made pItm held dByt dLen ver fAdr fTab adr tab lf 0 row mWr mWid mOv mPl mTh mSp mPile mNext mSh mShs mRea mWg mEn mDp mAt mTb mSt (cN x) (cN y)  (by omega) hT1 (by omega)) m_M_kindOf wd_58b6b8e7 0 8 rfl rfl rfl kT hx hb hml hown hts ⟨Nat.le_of_ble_eq_true rfl, Nat.le_of_ble_eq_true rfl⟩ ⟨Nat.le_of_ble_eq_true rfl, Nat.le_of_ble_eq_true rfl⟩ hK hP hD hS hA hZ hl.1 rfl rfl (Nat.le_of_ble_eq_true rfl) d_M_number_24 (fun H locs hP hD hS => ?_)
    have hP : va_P D vwCl (Wm am gm sLen sKind sExt sMust rTab rFil mNum rLen rItm made pItm held dByt dLen ver fAdr fTab adr tab lf 0 row mWr mWid mOv mPl mTh mSp mPile mNext mSh mShs mRea mWg mEn mDp mAt mTb mSt) H := hP
    have hD : va_D A (Wm am gm sLen sKind sExt sMust rTab rFil mNum rLen rItm made pItm held dByt dLen ver fAdr fTab adr tab lf 0 row mWr mWid mOv mPl mTh mSp mPile mNext mSh mShs mRea mWg mEn mDp mAt mTb mSt) := hD
    refine W.eq (g2 := F0 m 27 ls [.int (nI (sKind (rTab (cN x) * 6 + (cN y))))]) rfl ?_
    refine lv_iconst (v := nI 3) hx hb d_M_number_27 (by decide) ?_
    refine lv_icmp_le (tgt := 38) hx hb d_M_number_28 (by decide) (fun c_28 => ?_) (fun c_28 => ?_)
    · skip
      have c_28 := (nI_leI (by omega) (by omega)).mp c_28
      have hcd : cdNum sLen sKind rTab made x y = 0 := by rw [cdNum, if_pos hin, if_pos (show kdR sKind rTab x y < 4 by omega)]
      refine lv_aload_n hx hb d_M_number_38 rfl (lv_at hl 0 rfl) ?_
      refine va_get (D := D) (ci := 8) (C := R_M) (T := T_M) (N := 39) hx hb hts (fun w h => kT w (i_M w h)) hown hK hP 0 rfl rfl 8 (by decide) (hts _ (kT _ wd_9eb9f8e4)) (fun _ h9 => h9) rfl d_M_number_39 ?_
      refine lv_bipush (v := nI 6) hx hb d_M_number_42 (by decide) ?_
      refine lv_iload_n hx hb d_M_number_44 rfl (lv_at hl 1 rfl) ?_
      refine lv_imul hx hb d_M_number_45 ?_
      refine lv_eqi ((pk_mul _ _).trans (nI_congr (Nat.mul_comm _ _))) ?_
      refine lv_iload_n hx hb d_M_number_46 rfl (lv_at hl 2 rfl) ?_
      refine lv_iadd hx hb d_M_number_47 ?_
      refine lv_eqi (nI_add _ _) ?_
      refine lv_aload_n hx hb d_M_number_48 rfl (lv_at hl 0 rfl) ?_
      refine lv_iload_n hx hb d_M_number_49 rfl (lv_at hl 1 rfl) ?_
      refine lv_iload_n hx hb d_M_number_50 rfl (lv_at hl 2 rfl) ?_
      refine k_callV (m_kindOf l D am gm tw sLen sKind sExt sMust rTab rFil mNum rLen rItm made pItm held dByt dLen ver fAdr fTab adr tab lf 0 row mWr mWid mOv mPl mTh mSp mPile mNext mSh mShs mRea mWg mEn mDp mAt mTb mSt (cN x) (cN y)  (by omega) hT1 (by omega)) m_M_kindOf wd_58b6b8e7 0 8 rfl rfl rfl kT hx hb hml hown hts ⟨Nat.le_of_ble_eq_true rfl, Nat.le_of_ble_eq_true rfl⟩ ⟨Nat.le_of_ble_eq_true rfl, Nat.le_of_ble_eq_true rfl⟩ hK hP hD hS hA hZ hl.1 rfl rfl (Nat.le_of_ble_eq_true rfl) d_M_number_51 (fun H locs hP hD hS => ?_)
      have hP : va_P D vwCl (Wm am gm sLen sKind sExt sMust rTab rFil mNum rLen rItm made pItm held dByt dLen ver fAdr fTab adr tab lf 0 row mWr mWid mOv mPl mTh mSp mPile mNext mSh mShs mRea mWg mEn mDp mAt mTb mSt) H := hP
      have hD : va_D A (Wm am gm sLen sKind sExt sMust rTab rFil mNum rLen rItm made pItm held dByt dLen ver fAdr fTab adr tab lf 0 row mWr mWid mOv mPl mTh mSp mPile mNext mSh mShs mRea mWg mEn mDp mAt mTb mSt) := hD
      refine W.eq (g2 := F0 m 54 ls [.int (nI (sKind (rTab (cN x) * 6 + (cN y)))), .int (nI (((cN x) * 6) + (cN y))), .ref (am 7)]) rfl ?_
      refine lv_lload_n hx hb d_M_number_54 rfl (lv_at hl 3 rfl) ?_
      refine k_callS (m_fit l D am gm tw sLen sKind sExt sMust rTab rFil mNum rLen rItm made pItm held dByt dLen ver fAdr fTab adr tab lf 0 row mWr mWid mOv mPl mTh mSp mPile mNext mSh mShs mRea mWg mEn mDp mAt mTb mSt (sKind (rTab (cN x) * 6 + (cN y))) v  (by omega)) m_M_fit wd_99f3b727 kT hx hb hml hown hts ⟨Nat.le_of_ble_eq_true rfl, Nat.le_of_ble_eq_true rfl⟩ ⟨Nat.le_of_ble_eq_true rfl, Nat.le_of_ble_eq_true rfl⟩ hK hP hD hS hA hZ hl.1 rfl rfl (Nat.le_of_ble_eq_true rfl) d_M_number_55 (fun H locs hP hD hS => ?_)
      have hP : va_P D vwCl (Wm am gm sLen sKind sExt sMust rTab rFil mNum rLen rItm made pItm held dByt dLen ver fAdr fTab adr tab lf 0 row mWr mWid mOv mPl mTh mSp mPile mNext mSh mShs mRea mWg mEn mDp mAt mTb mSt) H := hP
      have hD : va_D A (Wm am gm sLen sKind sExt sMust rTab rFil mNum rLen rItm made pItm held dByt dLen ver fAdr fTab adr tab lf 0 row mWr mWid mOv mPl mTh mSp mPile mNext mSh mShs mRea mWg mEn mDp mAt mTb mSt) := hD
      refine W.eq (g2 := F0 m 58 ls [.long (brI (sKind (rTab (cN x) * 6 + (cN y))) v), .int (nI (((cN x) * 6) + (cN y))), .ref (am 7)]) rfl ?_
      refine l_last hx hb hK hP hD hS 7 6 rfl rfl (i := (((cN x) * 6) + (cN y))) (by omega) (by decide) d_M_number_58 (fun H locs hP hD hS => ?_)
      have hP : va_P D vwCl (Wm am gm sLen sKind sExt sMust rTab rFil (vp_updL mNum (((cN x) * 6) + (cN y)) (brI (sKind (rTab (cN x) * 6 + (cN y))) v)) rLen rItm made pItm held dByt dLen ver fAdr fTab adr tab lf 0 row mWr mWid mOv mPl mTh mSp mPile mNext mSh mShs mRea mWg mEn mDp mAt mTb mSt) H := hP
      have hD : va_D A (Wm am gm sLen sKind sExt sMust rTab rFil (vp_updL mNum (((cN x) * 6) + (cN y)) (brI (sKind (rTab (cN x) * 6 + (cN y))) v)) rLen rItm made pItm held dByt dLen ver fAdr fTab adr tab lf 0 row mWr mWid mOv mPl mTh mSp mPile mNext mSh mShs mRea mWg mEn mDp mAt mTb mSt) := hD
      refine lv_aload_n hx hb d_M_number_59 rfl (lv_at hl 0 rfl) ?_
      refine va_get (D := D) (ci := 8) (C := R_M) (T := T_M) (N := 39) hx hb hts (fun w h => kT w (i_M w h)) hown hK hP 0 rfl rfl 7 (by decide) (hts _ (kT _ wd_44dadf3a)) (fun _ h9 => h9) rfl d_M_number_60 ?_
      refine lv_bipush (v := nI 6) hx hb d_M_number_63 (by decide) ?_
      refine lv_iload_n hx hb d_M_number_65 rfl (lv_at hl 1 rfl) ?_
      refine lv_imul hx hb d_M_number_66 ?_
      refine lv_eqi ((pk_mul _ _).trans (nI_congr (Nat.mul_comm _ _))) ?_
      refine lv_iload_n hx hb d_M_number_67 rfl (lv_at hl 2 rfl) ?_
      refine lv_iadd hx hb d_M_number_68 ?_
      refine lv_eqi (nI_add _ _) ?_
      refine lv_iconst (v := nI 1) hx hb d_M_number_69 (by decide) ?_
      refine lv_eqi (show nI 1 = bI true by decide) ?_
      refine z_zast hx hb hK hP hD hS 6 5 rfl rfl (i := (((cN x) * 6) + (cN y))) (by omega) (by decide) d_M_number_70 (fun H locs hP hD hS => ?_)
      have hP : va_P D vwCl (Wm am gm sLen sKind sExt sMust rTab (va_up rFil (((cN x) * 6) + (cN y)) true) (vp_updL mNum (((cN x) * 6) + (cN y)) (brI (sKind (rTab (cN x) * 6 + (cN y))) v)) rLen rItm made pItm held dByt dLen ver fAdr fTab adr tab lf 0 row mWr mWid mOv mPl mTh mSp mPile mNext mSh mShs mRea mWg mEn mDp mAt mTb mSt) H := hP
      have hD : va_D A (Wm am gm sLen sKind sExt sMust rTab (va_up rFil (((cN x) * 6) + (cN y)) true) (vp_updL mNum (((cN x) * 6) + (cN y)) (brI (sKind (rTab (cN x) * 6 + (cN y))) v)) rLen rItm made pItm held dByt dLen ver fAdr fTab adr tab lf 0 row mWr mWid mOv mPl mTh mSp mPile mNext mSh mShs mRea mWg mEn mDp mAt mTb mSt) := hD
      refine lv_aload_n hx hb d_M_number_71 rfl (lv_at hl 0 rfl) ?_
      refine va_get (D := D) (ci := 8) (C := R_M) (T := T_M) (N := 39) hx hb hts (fun w h => kT w (i_M w h)) hown hK hP 0 rfl rfl 8 (by decide) (hts _ (kT _ wd_9eb9f8e4)) (fun _ h9 => h9) rfl d_M_number_72 ?_
      refine lv_bipush (v := nI 6) hx hb d_M_number_75 (by decide) ?_
      refine lv_iload_n hx hb d_M_number_77 rfl (lv_at hl 1 rfl) ?_
      refine lv_imul hx hb d_M_number_78 ?_
      refine lv_eqi ((pk_mul _ _).trans (nI_congr (Nat.mul_comm _ _))) ?_
      refine lv_iload_n hx hb d_M_number_79 rfl (lv_at hl 2 rfl) ?_
      refine lv_iadd hx hb d_M_number_80 ?_
      refine lv_eqi (nI_add _ _) ?_
      refine l_lald hx hb hK hP 7 6 rfl rfl (i := (((cN x) * 6) + (cN y))) (by omega) (by decide) d_M_number_81 ?_
      exact k_lret hx hb hr hlocks hK hP hD hS (trivial) (by rw [hcd, upL_self]; rfl) (by rw [hcd]; first | done | rfl) d_M_number_82
    · skip
      have c_28 := mt (nI_leI (by omega) (by omega)).mpr c_28
      have hcd : cdNum sLen sKind rTab made x y = 2 := by rw [cdNum, if_pos hin, if_neg (show ¬ kdR sKind rTab x y < 4 by omega)]
      refine lv_aload_n hx hb d_M_number_31 rfl (lv_at hl 0 rfl) ?_
      refine lv_iconst (v := nI 2) hx hb d_M_number_32 (by decide) ?_
      refine k_callV (m_raise l D am gm tw sLen sKind sExt sMust rTab rFil mNum rLen rItm made pItm held dByt dLen ver fAdr fTab adr tab lf 0 row mWr mWid mOv mPl mTh mSp mPile mNext mSh mShs mRea mWg mEn mDp mAt mTb mSt 2  ) m_M_raise wd_4b1468e4 0 8 rfl rfl rfl kT hx hb hml hown hts ⟨Nat.le_of_ble_eq_true rfl, Nat.le_of_ble_eq_true rfl⟩ ⟨Nat.le_of_ble_eq_true rfl, Nat.le_of_ble_eq_true rfl⟩ hK hP hD hS hA hZ hl.1 rfl rfl (Nat.le_of_ble_eq_true rfl) d_M_number_33 (fun H locs hP hD hS => ?_)
      have hP : va_P D vwCl (Wm am gm sLen sKind sExt sMust rTab rFil mNum rLen rItm made pItm held dByt dLen ver fAdr fTab adr tab lf 2 row mWr mWid mOv mPl mTh mSp mPile mNext mSh mShs mRea mWg mEn mDp mAt mTb mSt) H := hP
      have hD : va_D A (Wm am gm sLen sKind sExt sMust rTab rFil mNum rLen rItm made pItm held dByt dLen ver fAdr fTab adr tab lf 2 row mWr mWid mOv mPl mTh mSp mPile mNext mSh mShs mRea mWg mEn mDp mAt mTb mSt) := hD
      refine W.eq (g2 := F0 m 36 ls [.int (nI 0)]) rfl ?_
      refine lv_i2l hx hb d_M_number_36 rfl ?_
      exact k_lret hx hb hr hlocks hK hP hD hS (trivial) (by rw [hcd, if_neg (by decide)]; decide) (by rw [hcd]; first | done | rfl) d_M_number_37
  · skip
    have c_11 := mt (bI_0).mpr c_11
    have c_11 := eq_true_of_ne_false c_11
    have hcd : cdNum sLen sKind rTab made x y = 1 := by rw [cdNum, if_neg (by simpa using c_11)]
    refine lv_aload_n hx hb d_M_number_14 rfl (lv_at hl 0 rfl) ?_
    refine lv_iconst (v := nI 1) hx hb d_M_number_15 (by decide) ?_
    refine k_callV (m_raise l D am gm tw sLen sKind sExt sMust rTab rFil mNum rLen rItm made pItm held dByt dLen ver fAdr fTab adr tab lf 0 row mWr mWid mOv mPl mTh mSp mPile mNext mSh mShs mRea mWg mEn mDp mAt mTb mSt 1  ) m_M_raise wd_4b1468e4 0 8 rfl rfl rfl kT hx hb hml hown hts ⟨Nat.le_of_ble_eq_true rfl, Nat.le_of_ble_eq_true rfl⟩ ⟨Nat.le_of_ble_eq_true rfl, Nat.le_of_ble_eq_true rfl⟩ hK hP hD hS hA hZ hl.1 rfl rfl (Nat.le_of_ble_eq_true rfl) d_M_number_16 (fun H locs hP hD hS => ?_)
    have hP : va_P D vwCl (Wm am gm sLen sKind sExt sMust rTab rFil mNum rLen rItm made pItm held dByt dLen ver fAdr fTab adr tab lf 1 row mWr mWid mOv mPl mTh mSp mPile mNext mSh mShs mRea mWg mEn mDp mAt mTb mSt) H := hP
    have hD : va_D A (Wm am gm sLen sKind sExt sMust rTab rFil mNum rLen rItm made pItm held dByt dLen ver fAdr fTab adr tab lf 1 row mWr mWid mOv mPl mTh mSp mPile mNext mSh mShs mRea mWg mEn mDp mAt mTb mSt) := hD
    refine W.eq (g2 := F0 m 19 ls [.int (nI 0)]) rfl ?_
    refine lv_i2l hx hb d_M_number_19 rfl ?_
    exact k_lret hx hb hr hlocks hK hP hD hS (trivial) (by rw [hcd, if_neg (by decide)]; decide) (by rw [hcd]; first | done | rfl) d_M_number_20
set_option maxHeartbeats 4000000 in
set_option maxRecDepth 100000 in
theorem m_add (l : Launch) (D : va_G) (am : Nat → Nat) (gm : Nat → ClassId) (tw : Nat) (sLen sKind : Nat → Nat) (sExt : Nat → Int32) (sMust : Nat → Bool) (rTab : Nat → Nat) (rFil : Nat → Bool) (mNum : Nat → Int64) (rLen : Nat → Nat) (rItm : Nat → Int32) (made : Nat) (pItm : Nat → Int32) (held : Nat) (dByt : Nat → Nat) (dLen : Nat) (ver : Bool) (fAdr fTab adr tab : Nat) (lf : Int32) (mCode : Nat) (row : Nat → Nat) (mWr mWid : Nat) (mOv : Bool) (mPl mTh mSp mPile mNext mSh : Nat → Nat) (mShs : Nat) (mRea : Nat → Bool) (mWg : Int32) (mEn mDp : Nat) (mAt mTb mSt : Nat → Nat) (x : Int32)  (hh : held ≤ 12) : kM l y_M_add b_M_add 2 (some .int) ({ frames := 1, cells := 0, slots := 0, locals := 21 }) D vwCl (WmT gm) tw [.ref (am 0), .int x] (Wm am gm sLen sKind sExt sMust rTab rFil mNum rLen rItm made pItm held dByt dLen ver fAdr fTab adr tab lf mCode row mWr mWid mOv mPl mTh mSp mPile mNext mSh mShs mRea mWg mEn mDp mAt mTb mSt) (some (.int (nI (if cdAdd held = 0 then held + 1 else 0)))) (Wm am gm sLen sKind sExt sMust rTab rFil mNum rLen rItm made (if cdAdd held = 0 then upd pItm held x.toInt16.toInt32 else pItm) (if cdAdd held = 0 then held + 1 else held) dByt dLen ver fAdr fTab adr tab lf (cdAdd held) row mWr mWid mOv mPl mTh mSp mPile mNext mSh mShs mRea mWg mEn mDp mAt mTb mSt) := by
  refine k_of (by decide) (Nat.le_of_ble_eq_true rfl) ?_
  intro p e s m below meth c A ls hx hb hr hlocks hml hts hown hin0 hA hP hK hD hS hZ hl
  have hl : lv_has ls 2 [(0, .ref (am 0)), (1, .int x)] := hl
  refine lv_aload_n hx hb d_M_add_0 rfl (lv_at hl 0 rfl) ?_
  refine lv_iconst (v := nI 0) hx hb d_M_add_1 (by decide) ?_
  refine va_put (D := D) (ci := 8) (ty := .int) (C := R_M) (T := T_M) (N := 39) hx hb hts (fun w h => kT w (i_M w h)) ty_M tyk_M nm_M hown hK hP hD hS 0 rfl rfl 0 (by decide) (hts _ (kT _ wd_8b8ffda9)) (fun _ h9 => h9) rfl (by decide +kernel) rfl rfl (Nat.le_of_ble_eq_true rfl) d_M_add_2 (fun H locs hP hD hS => ?_)
  have hP : va_P D vwCl (Wm am gm sLen sKind sExt sMust rTab rFil mNum rLen rItm made pItm held dByt dLen ver fAdr fTab adr tab lf 0 row mWr mWid mOv mPl mTh mSp mPile mNext mSh mShs mRea mWg mEn mDp mAt mTb mSt) H := hP
  have hD : va_D A (Wm am gm sLen sKind sExt sMust rTab rFil mNum rLen rItm made pItm held dByt dLen ver fAdr fTab adr tab lf 0 row mWr mWid mOv mPl mTh mSp mPile mNext mSh mShs mRea mWg mEn mDp mAt mTb mSt) := hD
  refine lv_aload_n hx hb d_M_add_5 rfl (lv_at hl 0 rfl) ?_
  refine va_get (D := D) (ci := 8) (C := R_M) (T := T_M) (N := 39) hx hb hts (fun w h => kT w (i_M w h)) hown hK hP 0 rfl rfl 12 (by decide) (hts _ (kT _ wd_35a9147d)) (fun _ h9 => h9) rfl d_M_add_6 ?_
  refine lv_bipush (v := nI 12) hx hb d_M_add_9 (by decide) ?_
  refine lv_icmp_ne (tgt := 20) hx hb d_M_add_11 (by decide) (fun c_11 => ?_) (fun c_11 => ?_)
  · skip
    have c_11 := mt (nI_eq (by omega) (by omega)).mpr c_11
    have hcd : cdAdd held = 0 := by rw [cdAdd, if_pos (by omega)]
    refine lv_aload_n hx hb d_M_add_20 rfl (lv_at hl 0 rfl) ?_
    refine va_get (D := D) (ci := 8) (C := R_M) (T := T_M) (N := 39) hx hb hts (fun w h => kT w (i_M w h)) hown hK hP 0 rfl rfl 11 (by decide) (hts _ (kT _ wd_80d24df5)) (fun _ h9 => h9) rfl d_M_add_21 ?_
    refine lv_aload_n hx hb d_M_add_24 rfl (lv_at hl 0 rfl) ?_
    refine va_get (D := D) (ci := 8) (C := R_M) (T := T_M) (N := 39) hx hb hts (fun w h => kT w (i_M w h)) hown hK hP 0 rfl rfl 12 (by decide) (hts _ (kT _ wd_35a9147d)) (fun _ h9 => h9) rfl d_M_add_25 ?_
    refine lv_iload_n hx hb d_M_add_28 rfl (lv_at hl 1 rfl) ?_
    refine lv_i2s hx hb d_M_add_29 rfl ?_
    refine r_iast hx hb hK hP hD hS 10 9 rfl rfl (i := held) (by omega) (by decide) d_M_add_30 (fun H locs hP hD hS => ?_)
    have hP : va_P D vwCl (Wm am gm sLen sKind sExt sMust rTab rFil mNum rLen rItm made (upd pItm held x.toInt16.toInt32) held dByt dLen ver fAdr fTab adr tab lf 0 row mWr mWid mOv mPl mTh mSp mPile mNext mSh mShs mRea mWg mEn mDp mAt mTb mSt) H := hP
    have hD : va_D A (Wm am gm sLen sKind sExt sMust rTab rFil mNum rLen rItm made (upd pItm held x.toInt16.toInt32) held dByt dLen ver fAdr fTab adr tab lf 0 row mWr mWid mOv mPl mTh mSp mPile mNext mSh mShs mRea mWg mEn mDp mAt mTb mSt) := hD
    refine lv_aload_n hx hb d_M_add_31 rfl (lv_at hl 0 rfl) ?_
    refine lv_dup hx hb d_M_add_32 rfl ?_
    refine va_get (D := D) (ci := 8) (C := R_M) (T := T_M) (N := 39) hx hb hts (fun w h => kT w (i_M w h)) hown hK hP 0 rfl rfl 12 (by decide) (hts _ (kT _ wd_35a9147d)) (fun _ h9 => h9) rfl d_M_add_33 ?_
    refine lv_iconst (v := nI 1) hx hb d_M_add_36 (by decide) ?_
    refine lv_iadd hx hb d_M_add_37 ?_
    refine lv_eqi (nI_add _ _) ?_
    refine va_put (D := D) (ci := 8) (ty := .int) (C := R_M) (T := T_M) (N := 39) hx hb hts (fun w h => kT w (i_M w h)) ty_M tyk_M nm_M hown hK hP hD hS 0 rfl rfl 12 (by decide) (hts _ (kT _ wd_35a9147d)) (fun _ h9 => h9) rfl (by decide +kernel) rfl rfl (Nat.le_of_ble_eq_true rfl) d_M_add_38 (fun H locs hP hD hS => ?_)
    have hP : va_P D vwCl (Wm am gm sLen sKind sExt sMust rTab rFil mNum rLen rItm made (upd pItm held x.toInt16.toInt32) (held + 1) dByt dLen ver fAdr fTab adr tab lf 0 row mWr mWid mOv mPl mTh mSp mPile mNext mSh mShs mRea mWg mEn mDp mAt mTb mSt) H := hP
    have hD : va_D A (Wm am gm sLen sKind sExt sMust rTab rFil mNum rLen rItm made (upd pItm held x.toInt16.toInt32) (held + 1) dByt dLen ver fAdr fTab adr tab lf 0 row mWr mWid mOv mPl mTh mSp mPile mNext mSh mShs mRea mWg mEn mDp mAt mTb mSt) := hD
    refine lv_aload_n hx hb d_M_add_41 rfl (lv_at hl 0 rfl) ?_
    refine va_get (D := D) (ci := 8) (C := R_M) (T := T_M) (N := 39) hx hb hts (fun w h => kT w (i_M w h)) hown hK hP 0 rfl rfl 12 (by decide) (hts _ (kT _ wd_35a9147d)) (fun _ h9 => h9) rfl d_M_add_42 ?_
    exact k_iret hx hb hr hlocks hK hP hD hS (trivial) (by rw [hcd]; first | done | rfl) (by rw [hcd]; first | done | rfl) d_M_add_45
  · skip
    have c_11 := (nI_eq (by omega) (by omega)).mp c_11
    have hcd : cdAdd held = 1 := by rw [cdAdd, if_neg (by omega)]
    refine lv_aload_n hx hb d_M_add_14 rfl (lv_at hl 0 rfl) ?_
    refine lv_iconst (v := nI 1) hx hb d_M_add_15 (by decide) ?_
    refine k_callV (m_raise l D am gm tw sLen sKind sExt sMust rTab rFil mNum rLen rItm made pItm held dByt dLen ver fAdr fTab adr tab lf 0 row mWr mWid mOv mPl mTh mSp mPile mNext mSh mShs mRea mWg mEn mDp mAt mTb mSt 1  ) m_M_raise wd_4b1468e4 0 8 rfl rfl rfl kT hx hb hml hown hts ⟨Nat.le_of_ble_eq_true rfl, Nat.le_of_ble_eq_true rfl⟩ ⟨Nat.le_of_ble_eq_true rfl, Nat.le_of_ble_eq_true rfl⟩ hK hP hD hS hA hZ hl.1 rfl rfl (Nat.le_of_ble_eq_true rfl) d_M_add_16 (fun H locs hP hD hS => ?_)
    have hP : va_P D vwCl (Wm am gm sLen sKind sExt sMust rTab rFil mNum rLen rItm made pItm held dByt dLen ver fAdr fTab adr tab lf 1 row mWr mWid mOv mPl mTh mSp mPile mNext mSh mShs mRea mWg mEn mDp mAt mTb mSt) H := hP
    have hD : va_D A (Wm am gm sLen sKind sExt sMust rTab rFil mNum rLen rItm made pItm held dByt dLen ver fAdr fTab adr tab lf 1 row mWr mWid mOv mPl mTh mSp mPile mNext mSh mShs mRea mWg mEn mDp mAt mTb mSt) := hD
    refine W.eq (g2 := F0 m 19 ls [.int (nI 0)]) rfl ?_
    exact k_iret hx hb hr hlocks hK hP hD hS (trivial) (by rw [hcd]; first | done | rfl) (by rw [hcd]; first | done | rfl) d_M_add_19
set_option maxHeartbeats 4000000 in
set_option maxRecDepth 100000 in
theorem m_fill (l : Launch) (D : va_G) (am : Nat → Nat) (gm : Nat → ClassId) (tw : Nat) (sLen sKind : Nat → Nat) (sExt : Nat → Int32) (sMust : Nat → Bool) (rTab : Nat → Nat) (rFil : Nat → Bool) (mNum : Nat → Int64) (rLen : Nat → Nat) (rItm : Nat → Int32) (made : Nat) (pItm : Nat → Int32) (held : Nat) (dByt : Nat → Nat) (dLen : Nat) (ver : Bool) (fAdr fTab adr tab : Nat) (lf : Int32) (mCode : Nat) (row : Nat → Nat) (mWr mWid : Nat) (mOv : Bool) (mPl mTh mSp mPile mNext mSh : Nat → Nat) (mShs : Nat) (mRea : Nat → Bool) (mWg : Int32) (mEn mDp : Nat) (mAt mTb mSt : Nat → Nat) (x : Int32) (y : Int32)  (hm : made ≤ 16) (hT : ∀ r, rTab r < 4) (hL : ∀ t, sLen t ≤ 6) (hk : ∀ j, sKind j < 7) (hh : held ≤ 12) (hp : ∀ j, (pItm j).toInt16.toInt32 = pItm j) : kM l y_M_fill b_M_fill 6 (some .int) ({ frames := 2, cells := 0, slots := 0, locals := 43 }) D vwCl (WmT gm) tw [.ref (am 0), .int x, .int y] (Wm am gm sLen sKind sExt sMust rTab rFil mNum rLen rItm made pItm held dByt dLen ver fAdr fTab adr tab lf mCode row mWr mWid mOv mPl mTh mSp mPile mNext mSh mShs mRea mWg mEn mDp mAt mTb mSt) (some (.int (nI (if cdFill sLen sKind rTab made held x y = 0 then held else 0)))) (Wm am gm sLen sKind sExt sMust rTab (if cdFill sLen sKind rTab made held x y = 0 then va_up rFil (cN x * 6 + cN y) true else rFil) mNum (if cdFill sLen sKind rTab made held x y = 0 then va_up rLen (cN x * 6 + cN y) held else rLen) (if cdFill sLen sKind rTab made held x y = 0 then cpI rItm pItm (if kdR sKind rTab x y = 4 then nI 127 else -1) ((cN x * 6 + cN y) * 12) held else rItm) made pItm (if cdFill sLen sKind rTab made held x y = 0 then 0 else held) dByt dLen ver fAdr fTab adr tab lf (cdFill sLen sKind rTab made held x y) row mWr mWid mOv mPl mTh mSp mPile mNext mSh mShs mRea mWg mEn mDp mAt mTb mSt) := by
  refine k_of (by decide) (Nat.le_of_ble_eq_true rfl) ?_
  intro p e s m below meth c A ls hx hb hr hlocks hml hts hown hin0 hA hP hK hD hS hZ hl
  have hl : lv_has ls 6 [(0, .ref (am 0)), (1, .int x), (2, .int y)] := hl
  refine lv_aload_n hx hb d_M_fill_0 rfl (lv_at hl 0 rfl) ?_
  refine lv_iconst (v := nI 0) hx hb d_M_fill_1 (by decide) ?_
  refine va_put (D := D) (ci := 8) (ty := .int) (C := R_M) (T := T_M) (N := 39) hx hb hts (fun w h => kT w (i_M w h)) ty_M tyk_M nm_M hown hK hP hD hS 0 rfl rfl 0 (by decide) (hts _ (kT _ wd_8b8ffda9)) (fun _ h9 => h9) rfl (by decide +kernel) rfl rfl (Nat.le_of_ble_eq_true rfl) d_M_fill_2 (fun H locs hP hD hS => ?_)
  have hP : va_P D vwCl (Wm am gm sLen sKind sExt sMust rTab rFil mNum rLen rItm made pItm held dByt dLen ver fAdr fTab adr tab lf 0 row mWr mWid mOv mPl mTh mSp mPile mNext mSh mShs mRea mWg mEn mDp mAt mTb mSt) H := hP
  have hD : va_D A (Wm am gm sLen sKind sExt sMust rTab rFil mNum rLen rItm made pItm held dByt dLen ver fAdr fTab adr tab lf 0 row mWr mWid mOv mPl mTh mSp mPile mNext mSh mShs mRea mWg mEn mDp mAt mTb mSt) := hD
  refine lv_aload_n hx hb d_M_fill_5 rfl (lv_at hl 0 rfl) ?_
  refine lv_iload_n hx hb d_M_fill_6 rfl (lv_at hl 1 rfl) ?_
  refine lv_iload_n hx hb d_M_fill_7 rfl (lv_at hl 2 rfl) ?_
  refine k_callV (m_none l D am gm tw sLen sKind sExt sMust rTab rFil mNum rLen rItm made pItm held dByt dLen ver fAdr fTab adr tab lf 0 row mWr mWid mOv mPl mTh mSp mPile mNext mSh mShs mRea mWg mEn mDp mAt mTb mSt x y  hm hT hL) m_M_none wd_cf2b0413 0 8 rfl rfl rfl kT hx hb hml hown hts ⟨Nat.le_of_ble_eq_true rfl, Nat.le_of_ble_eq_true rfl⟩ ⟨Nat.le_of_ble_eq_true rfl, Nat.le_of_ble_eq_true rfl⟩ hK hP hD hS hA hZ hl.1 rfl rfl (Nat.le_of_ble_eq_true rfl) d_M_fill_8 (fun H locs hP hD hS => ?_)
  have hP : va_P D vwCl (Wm am gm sLen sKind sExt sMust rTab rFil mNum rLen rItm made pItm held dByt dLen ver fAdr fTab adr tab lf 0 row mWr mWid mOv mPl mTh mSp mPile mNext mSh mShs mRea mWg mEn mDp mAt mTb mSt) H := hP
  have hD : va_D A (Wm am gm sLen sKind sExt sMust rTab rFil mNum rLen rItm made pItm held dByt dLen ver fAdr fTab adr tab lf 0 row mWr mWid mOv mPl mTh mSp mPile mNext mSh mShs mRea mWg mEn mDp mAt mTb mSt) := hD
  refine W.eq (g2 := F0 m 11 ls [.int (bI (!(inR sLen rTab made x y)))]) rfl ?_
  refine lv_if_eq (tgt := 20) hx hb d_M_fill_11 (by decide) (fun c_11 => ?_) (fun c_11 => ?_)
  · skip
    have c_11 := (bI_0).mp c_11
    have hin : inR sLen rTab made x y = true := by simpa using c_11
    obtain ⟨⟨n_x, b_x⟩, ⟨n_y, b_y⟩, hT1, hL1⟩ := inR_spec hm (fun r _ => hT r) (fun t _ => hL t) hin
    have hl : lv_has ls 6 [(0, .ref (am 0)), (1, .int (nI (cN x))), (2, .int y)] := by rw [← n_x]; exact hl
    have hl : lv_has ls 6 [(0, .ref (am 0)), (1, .int (nI (cN x))), (2, .int (nI (cN y)))] := by rw [← n_y]; exact hl
    have hkd : kdR sKind rTab x y = sKind (rTab (cN x) * 6 + cN y) := rfl
    have hk1 : sKind (rTab (cN x) * 6 + cN y) < 7 := hk _
    refine lv_aload_n hx hb d_M_fill_20 rfl (lv_at hl 0 rfl) ?_
    refine lv_iload_n hx hb d_M_fill_21 rfl (lv_at hl 1 rfl) ?_
    refine lv_iload_n hx hb d_M_fill_22 rfl (lv_at hl 2 rfl) ?_
    refine k_callV (m_kindOf l D am gm tw sLen sKind sExt sMust rTab rFil mNum rLen rItm made pItm held dByt dLen ver fAdr fTab adr tab lf 0 row mWr mWid mOv mPl mTh mSp mPile mNext mSh mShs mRea mWg mEn mDp mAt mTb mSt (cN x) (cN y)  (by omega) hT1 (by omega)) m_M_kindOf wd_58b6b8e7 0 8 rfl rfl rfl kT hx hb hml hown hts ⟨Nat.le_of_ble_eq_true rfl, Nat.le_of_ble_eq_true rfl⟩ ⟨Nat.le_of_ble_eq_true rfl, Nat.le_of_ble_eq_true rfl⟩ hK hP hD hS hA hZ hl.1 rfl rfl (Nat.le_of_ble_eq_true rfl) d_M_fill_23 (fun H locs hP hD hS => ?_)
    have hP : va_P D vwCl (Wm am gm sLen sKind sExt sMust rTab rFil mNum rLen rItm made pItm held dByt dLen ver fAdr fTab adr tab lf 0 row mWr mWid mOv mPl mTh mSp mPile mNext mSh mShs mRea mWg mEn mDp mAt mTb mSt) H := hP
    have hD : va_D A (Wm am gm sLen sKind sExt sMust rTab rFil mNum rLen rItm made pItm held dByt dLen ver fAdr fTab adr tab lf 0 row mWr mWid mOv mPl mTh mSp mPile mNext mSh mShs mRea mWg mEn mDp mAt mTb mSt) := hD
    refine W.eq (g2 := F0 m 26 ls [.int (nI (sKind (rTab (cN x) * 6 + (cN y))))]) rfl ?_
    refine lv_istore_n (lv' := [(3, .int (nI (sKind (rTab (cN x) * 6 + (cN y))))), (0, .ref (am 0)), (1, .int (nI (cN x))), (2, .int (nI (cN y)))]) hx hb d_M_fill_26 rfl hl (by decide) rfl (fun ls hl => ?_)
    refine lv_iload_n hx hb d_M_fill_27 rfl (lv_at hl 0 rfl) ?_
    refine lv_iconst (v := nI 4) hx hb d_M_fill_28 (by decide) ?_
    refine lv_icmp_eq (tgt := 37) hx hb d_M_fill_29 (by decide) (fun c_29 => ?_) (fun c_29 => ?_)
    · skip
      have c_29 := (nI_eq (by omega) (by omega)).mp c_29
      refine lv_iload_n hx hb d_M_fill_37 rfl (lv_at hl 0 rfl) ?_
      refine lv_iconst (v := nI 5) hx hb d_M_fill_38 (by decide) ?_
      refine lv_icmp_ne (tgt := 57) hx hb d_M_fill_39 (by decide) (fun c_39 => ?_) (fun c_39 => ?_)
      · skip
        have c_39 := mt (nI_eq (by omega) (by omega)).mpr c_39
        have hcd : cdFill sLen sKind rTab made held x y = 0 := by rw [cdFill, if_pos hin, if_pos (show kdR sKind rTab x y = 4 ∨ (kdR sKind rTab x y = 5 ∧ held ≤ 8) by omega)]
        refine lv_bipush (v := nI 6) hx hb d_M_fill_57 (by decide) ?_
        refine lv_iload_n hx hb d_M_fill_59 rfl (lv_at hl 2 rfl) ?_
        refine lv_imul hx hb d_M_fill_60 ?_
        refine lv_eqi ((pk_mul _ _).trans (nI_congr (Nat.mul_comm _ _))) ?_
        refine lv_iload_n hx hb d_M_fill_61 rfl (lv_at hl 3 rfl) ?_
        refine lv_iadd hx hb d_M_fill_62 ?_
        refine lv_eqi (nI_add _ _) ?_
        refine lv_istore (lv' := [(4, .int (nI (((cN x) * 6) + (cN y)))), (3, .int (nI (sKind (rTab (cN x) * 6 + (cN y))))), (0, .ref (am 0)), (1, .int (nI (cN x))), (2, .int (nI (cN y)))]) hx hb d_M_fill_63 hl (by decide) rfl (fun ls hl => ?_)
        refine lv_aload_n hx hb d_M_fill_65 rfl (lv_at hl 2 rfl) ?_
        refine va_get (D := D) (ci := 8) (C := R_M) (T := T_M) (N := 39) hx hb hts (fun w h => kT w (i_M w h)) hown hK hP 0 rfl rfl 7 (by decide) (hts _ (kT _ wd_44dadf3a)) (fun _ h9 => h9) rfl d_M_fill_66 ?_
        refine lv_iload hx hb d_M_fill_69 (lv_at hl 0 rfl) ?_
        refine lv_iconst (v := nI 1) hx hb d_M_fill_71 (by decide) ?_
        refine lv_eqi (show nI 1 = bI true by decide) ?_
        refine z_zast hx hb hK hP hD hS 6 5 rfl rfl (i := (((cN x) * 6) + (cN y))) (by omega) (by decide) d_M_fill_72 (fun H locs hP hD hS => ?_)
        have hP : va_P D vwCl (Wm am gm sLen sKind sExt sMust rTab (va_up rFil (((cN x) * 6) + (cN y)) true) mNum rLen rItm made pItm held dByt dLen ver fAdr fTab adr tab lf 0 row mWr mWid mOv mPl mTh mSp mPile mNext mSh mShs mRea mWg mEn mDp mAt mTb mSt) H := hP
        have hD : va_D A (Wm am gm sLen sKind sExt sMust rTab (va_up rFil (((cN x) * 6) + (cN y)) true) mNum rLen rItm made pItm held dByt dLen ver fAdr fTab adr tab lf 0 row mWr mWid mOv mPl mTh mSp mPile mNext mSh mShs mRea mWg mEn mDp mAt mTb mSt) := hD
        refine lv_aload_n hx hb d_M_fill_73 rfl (lv_at hl 2 rfl) ?_
        refine va_get (D := D) (ci := 8) (C := R_M) (T := T_M) (N := 39) hx hb hts (fun w h => kT w (i_M w h)) hown hK hP 0 rfl rfl 9 (by decide) (hts _ (kT _ wd_561915e7)) (fun _ h9 => h9) rfl d_M_fill_74 ?_
        refine lv_iload hx hb d_M_fill_77 (lv_at hl 0 rfl) ?_
        refine lv_aload_n hx hb d_M_fill_79 rfl (lv_at hl 2 rfl) ?_
        refine va_get (D := D) (ci := 8) (C := R_M) (T := T_M) (N := 39) hx hb hts (fun w h => kT w (i_M w h)) hown hK hP 0 rfl rfl 12 (by decide) (hts _ (kT _ wd_35a9147d)) (fun _ h9 => h9) rfl d_M_fill_80 ?_
        refine n_iast hx hb hK hP hD hS 8 7 rfl rfl (i := (((cN x) * 6) + (cN y))) (by omega) (by decide) d_M_fill_83 (fun H locs hP hD hS => ?_)
        have hP : va_P D vwCl (Wm am gm sLen sKind sExt sMust rTab (va_up rFil (((cN x) * 6) + (cN y)) true) mNum (va_up rLen (((cN x) * 6) + (cN y)) held) rItm made pItm held dByt dLen ver fAdr fTab adr tab lf 0 row mWr mWid mOv mPl mTh mSp mPile mNext mSh mShs mRea mWg mEn mDp mAt mTb mSt) H := hP
        have hD : va_D A (Wm am gm sLen sKind sExt sMust rTab (va_up rFil (((cN x) * 6) + (cN y)) true) mNum (va_up rLen (((cN x) * 6) + (cN y)) held) rItm made pItm held dByt dLen ver fAdr fTab adr tab lf 0 row mWr mWid mOv mPl mTh mSp mPile mNext mSh mShs mRea mWg mEn mDp mAt mTb mSt) := hD
        refine lv_iconst (v := nI 0) hx hb d_M_fill_84 (by decide) ?_
        refine lv_istore (lv' := [(5, .int (nI 0)), (4, .int (nI (((cN x) * 6) + (cN y)))), (3, .int (nI (sKind (rTab (cN x) * 6 + (cN y))))), (0, .ref (am 0)), (1, .int (nI (cN x))), (2, .int (nI (cN y)))]) hx hb d_M_fill_85 hl (by decide) rfl (fun ls hl => ?_)
        have hP : va_P D vwCl (Wm am gm sLen sKind sExt sMust rTab (va_up rFil (((cN x) * 6) + (cN y)) true) mNum (va_up rLen (((cN x) * 6) + (cN y)) held) (cpI rItm pItm (if kdR sKind rTab x y = 4 then nI 127 else -1) ((cN x * 6 + cN y) * 12) 0) made pItm held dByt dLen ver fAdr fTab adr tab lf 0 row mWr mWid mOv mPl mTh mSp mPile mNext mSh mShs mRea mWg mEn mDp mAt mTb mSt) _ := hP
        have hD : va_D A (Wm am gm sLen sKind sExt sMust rTab (va_up rFil (((cN x) * 6) + (cN y)) true) mNum (va_up rLen (((cN x) * 6) + (cN y)) held) (cpI rItm pItm (if kdR sKind rTab x y = 4 then nI 127 else -1) ((cN x * 6 + cN y) * 12) 0) made pItm held dByt dLen ver fAdr fTab adr tab lf 0 row mWr mWid mOv mPl mTh mSp mPile mNext mSh mShs mRea mWg mEn mDp mAt mTb mSt) := hD
        have L_87 : ∀ (n : Nat) (i : Nat), (i ≤ held) → held - i < n → ∀ (H : Heap) (locs : List Loc) (ls : Array Slot), va_P D vwCl (Wm am gm sLen sKind sExt sMust rTab (va_up rFil (((cN x) * 6) + (cN y)) true) mNum (va_up rLen (((cN x) * 6) + (cN y)) held) (cpI rItm pItm (if kdR sKind rTab x y = 4 then nI 127 else -1) ((cN x * 6 + cN y) * 12) i) made pItm held dByt dLen ver fAdr fTab adr tab lf 0 row mWr mWid mOv mPl mTh mSp mPile mNext mSh mShs mRea mWg mEn mDp mAt mTb mSt) H → va_D A (Wm am gm sLen sKind sExt sMust rTab (va_up rFil (((cN x) * 6) + (cN y)) true) mNum (va_up rLen (((cN x) * 6) + (cN y)) held) (cpI rItm pItm (if kdR sKind rTab x y = 4 then nI 127 else -1) ((cN x * 6 + cN y) * 12) i) made pItm held dByt dLen ver fAdr fTab adr tab lf 0 row mWr mWid mOv mPl mTh mSp mPile mNext mSh mShs mRea mWg mEn mDp mAt mTb mSt) → va_S A s.heap H locs → lv_has ls 6 [(5, .int (nI i)), (4, .int (nI (((cN x) * 6) + (cN y)))), (3, .int (nI (sKind (rTab (cN x) * 6 + (cN y))))), (0, .ref (am 0)), (1, .int (nI (cN x))), (2, .int (nI (cN y)))] → W p l e ({ frames := 2, cells := 0, slots := 0, locals := 43 }) s m ([.ref (am 0), .int x, .int y] : List Value).toArray below meth c H locs 0 0 (MQ below (kQ D vwCl (WmT gm) A True (some (.int (nI (if cdFill sLen sKind rTab made held x y = 0 then held else 0)))) (Wm am gm sLen sKind sExt sMust rTab (if cdFill sLen sKind rTab made held x y = 0 then va_up rFil (cN x * 6 + cN y) true else rFil) mNum (if cdFill sLen sKind rTab made held x y = 0 then va_up rLen (cN x * 6 + cN y) held else rLen) (if cdFill sLen sKind rTab made held x y = 0 then cpI rItm pItm (if kdR sKind rTab x y = 4 then nI 127 else -1) ((cN x * 6 + cN y) * 12) held else rItm) made pItm (if cdFill sLen sKind rTab made held x y = 0 then 0 else held) dByt dLen ver fAdr fTab adr tab lf (cdFill sLen sKind rTab made held x y) row mWr mWid mOv mPl mTh mSp mPile mNext mSh mShs mRea mWg mEn mDp mAt mTb mSt)) ([.ref (am 0), .int x, .int y] : List Value).toArray s 0 0 A) (F0 m 87 ls []) := by
          intro n
          induction n with
          | zero => intro i hi hm; exact absurd hm (Nat.not_lt_zero _)
          | succ n ih_87 =>
            intro i hi hm_87 H locs ls hP hD hS hl
            refine lv_iload hx hb d_M_fill_87 (lv_at hl 0 rfl) ?_
            refine lv_aload_n hx hb d_M_fill_89 rfl (lv_at hl 3 rfl) ?_
            refine va_get (D := D) (ci := 8) (C := R_M) (T := T_M) (N := 39) hx hb hts (fun w h => kT w (i_M w h)) hown hK hP 0 rfl rfl 12 (by decide) (hts _ (kT _ wd_35a9147d)) (fun _ h9 => h9) rfl d_M_fill_90 ?_
            refine lv_icmp_ge (tgt := 140) hx hb d_M_fill_93 (by decide) (fun c_93 => ?_) (fun c_93 => ?_)
            · skip
              have c_93 := (nI_leI (by omega) (by omega)).mp c_93
              have h_i : held = i := by omega
              subst h_i
              refine lv_aload_n hx hb d_M_fill_140 rfl (lv_at hl 3 rfl) ?_
              refine lv_iconst (v := nI 0) hx hb d_M_fill_141 (by decide) ?_
              refine va_put (D := D) (ci := 8) (ty := .int) (C := R_M) (T := T_M) (N := 39) hx hb hts (fun w h => kT w (i_M w h)) ty_M tyk_M nm_M hown hK hP hD hS 0 rfl rfl 12 (by decide) (hts _ (kT _ wd_35a9147d)) (fun _ h9 => h9) rfl (by decide +kernel) rfl rfl (Nat.le_of_ble_eq_true rfl) d_M_fill_142 (fun H locs hP hD hS => ?_)
              have hP : va_P D vwCl (Wm am gm sLen sKind sExt sMust rTab (va_up rFil (((cN x) * 6) + (cN y)) true) mNum (va_up rLen (((cN x) * 6) + (cN y)) held) (cpI rItm pItm (if kdR sKind rTab x y = 4 then nI 127 else -1) ((cN x * 6 + cN y) * 12) held) made pItm 0 dByt dLen ver fAdr fTab adr tab lf 0 row mWr mWid mOv mPl mTh mSp mPile mNext mSh mShs mRea mWg mEn mDp mAt mTb mSt) H := hP
              have hD : va_D A (Wm am gm sLen sKind sExt sMust rTab (va_up rFil (((cN x) * 6) + (cN y)) true) mNum (va_up rLen (((cN x) * 6) + (cN y)) held) (cpI rItm pItm (if kdR sKind rTab x y = 4 then nI 127 else -1) ((cN x * 6 + cN y) * 12) held) made pItm 0 dByt dLen ver fAdr fTab adr tab lf 0 row mWr mWid mOv mPl mTh mSp mPile mNext mSh mShs mRea mWg mEn mDp mAt mTb mSt) := hD
              refine lv_aload_n hx hb d_M_fill_145 rfl (lv_at hl 3 rfl) ?_
              refine va_get (D := D) (ci := 8) (C := R_M) (T := T_M) (N := 39) hx hb hts (fun w h => kT w (i_M w h)) hown hK hP 0 rfl rfl 9 (by decide) (hts _ (kT _ wd_561915e7)) (fun _ h9 => h9) rfl d_M_fill_146 ?_
              refine lv_iload hx hb d_M_fill_149 (lv_at hl 1 rfl) ?_
              refine n_iald hx hb hK hP 8 7 rfl rfl (i := (((cN x) * 6) + (cN y))) (by omega) (by decide) d_M_fill_151 ?_
              exact k_iret hx hb hr hlocks hK hP hD hS (trivial) (by rw [hcd, va_up_self]; rfl) (by rw [hcd]; first | done | rfl) d_M_fill_152
            · skip
              have c_93 := mt (nI_leI (by omega) (by omega)).mpr c_93
              refine lv_aload_n hx hb d_M_fill_96 rfl (lv_at hl 3 rfl) ?_
              refine va_get (D := D) (ci := 8) (C := R_M) (T := T_M) (N := 39) hx hb hts (fun w h => kT w (i_M w h)) hown hK hP 0 rfl rfl 10 (by decide) (hts _ (kT _ wd_1d9af4df)) (fun _ h9 => h9) rfl d_M_fill_97 ?_
              refine lv_bipush (v := nI 12) hx hb d_M_fill_100 (by decide) ?_
              refine lv_iload hx hb d_M_fill_102 (lv_at hl 1 rfl) ?_
              refine lv_imul hx hb d_M_fill_104 ?_
              refine lv_eqi ((pk_mul _ _).trans (nI_congr (Nat.mul_comm _ _))) ?_
              refine lv_iload hx hb d_M_fill_105 (lv_at hl 0 rfl) ?_
              refine lv_iadd hx hb d_M_fill_107 ?_
              refine lv_eqi (nI_add _ _) ?_
              refine lv_iload_n hx hb d_M_fill_108 rfl (lv_at hl 2 rfl) ?_
              refine lv_iconst (v := nI 4) hx hb d_M_fill_109 (by decide) ?_
              refine lv_icmp_ne (tgt := 126) hx hb d_M_fill_110 (by decide) (fun c_110 => ?_) (fun c_110 => ?_)
              · skip
                have c_110 := mt (nI_eq (by omega) (by omega)).mpr c_110
                refine lv_aload_n hx hb d_M_fill_126 rfl (lv_at hl 3 rfl) ?_
                refine va_get (D := D) (ci := 8) (C := R_M) (T := T_M) (N := 39) hx hb hts (fun w h => kT w (i_M w h)) hown hK hP 0 rfl rfl 11 (by decide) (hts _ (kT _ wd_80d24df5)) (fun _ h9 => h9) rfl d_M_fill_127 ?_
                refine lv_iload hx hb d_M_fill_130 (lv_at hl 0 rfl) ?_
                refine r_iald hx hb hK hP 10 9 rfl rfl (i := i) (by omega) (by decide) d_M_fill_132 ?_
                refine r_iast hx hb hK hP hD hS 9 8 rfl rfl (i := (((((cN x) * 6) + (cN y)) * 12) + i)) (by omega) (by decide) d_M_fill_133 (fun H locs hP hD hS => ?_)
                have hP : va_P D vwCl (Wm am gm sLen sKind sExt sMust rTab (va_up rFil (((cN x) * 6) + (cN y)) true) mNum (va_up rLen (((cN x) * 6) + (cN y)) held) (upd (cpI rItm pItm (if kdR sKind rTab x y = 4 then nI 127 else -1) ((cN x * 6 + cN y) * 12) i) (((((cN x) * 6) + (cN y)) * 12) + i) (pItm i)) made pItm held dByt dLen ver fAdr fTab adr tab lf 0 row mWr mWid mOv mPl mTh mSp mPile mNext mSh mShs mRea mWg mEn mDp mAt mTb mSt) H := hP
                have hD : va_D A (Wm am gm sLen sKind sExt sMust rTab (va_up rFil (((cN x) * 6) + (cN y)) true) mNum (va_up rLen (((cN x) * 6) + (cN y)) held) (upd (cpI rItm pItm (if kdR sKind rTab x y = 4 then nI 127 else -1) ((cN x * 6 + cN y) * 12) i) (((((cN x) * 6) + (cN y)) * 12) + i) (pItm i)) made pItm held dByt dLen ver fAdr fTab adr tab lf 0 row mWr mWid mOv mPl mTh mSp mPile mNext mSh mShs mRea mWg mEn mDp mAt mTb mSt) := hD
                refine lv_iinc (v := nI (i + 1)) (lv' := [(5, .int (nI (i + 1))), (4, .int (nI (((cN x) * 6) + (cN y)))), (3, .int (nI (sKind (rTab (cN x) * 6 + (cN y))))), (0, .ref (am 0)), (1, .int (nI (cN x))), (2, .int (nI (cN y)))]) hx hb d_M_fill_134 hl (k := 0) rfl (nI_1 _) (by decide) rfl (fun ls hl => ?_)
                refine lv_goto (tgt := 87) hx hb d_M_fill_137 (by decide) ?_
                have ec_rItm : upd (cpI rItm pItm (if kdR sKind rTab x y = 4 then nI 127 else -1) ((cN x * 6 + cN y) * 12) i) (((((cN x) * 6) + (cN y)) * 12) + i) (pItm i) = cpI rItm pItm (if kdR sKind rTab x y = 4 then nI 127 else -1) ((cN x * 6 + cN y) * 12) (i + 1) := by first | exact (cpI_4 (kd := kdR sKind rTab x y) c_110).symm | exact (cpI_5 (kd := kdR sKind rTab x y) c_110 (hp _)).symm
                have hP : va_P D vwCl (Wm am gm sLen sKind sExt sMust rTab (va_up rFil (((cN x) * 6) + (cN y)) true) mNum (va_up rLen (((cN x) * 6) + (cN y)) held) (cpI rItm pItm (if kdR sKind rTab x y = 4 then nI 127 else -1) ((cN x * 6 + cN y) * 12) (i + 1)) made pItm held dByt dLen ver fAdr fTab adr tab lf 0 row mWr mWid mOv mPl mTh mSp mPile mNext mSh mShs mRea mWg mEn mDp mAt mTb mSt) H := by rw [← ec_rItm]; exact hP
                have hD : va_D A (Wm am gm sLen sKind sExt sMust rTab (va_up rFil (((cN x) * 6) + (cN y)) true) mNum (va_up rLen (((cN x) * 6) + (cN y)) held) (cpI rItm pItm (if kdR sKind rTab x y = 4 then nI 127 else -1) ((cN x * 6 + cN y) * 12) (i + 1)) made pItm held dByt dLen ver fAdr fTab adr tab lf 0 row mWr mWid mOv mPl mTh mSp mPile mNext mSh mShs mRea mWg mEn mDp mAt mTb mSt) := by rw [← ec_rItm]; exact hD
                exact ih_87 (i + 1) (by omega) (by omega) _ _ _ hP hD hS (lv_sub hl [0, 1, 2, 3, 4, 5] rfl)
              · skip
                have c_110 := (nI_eq (by omega) (by omega)).mp c_110
                refine lv_aload_n hx hb d_M_fill_113 rfl (lv_at hl 3 rfl) ?_
                refine va_get (D := D) (ci := 8) (C := R_M) (T := T_M) (N := 39) hx hb hts (fun w h => kT w (i_M w h)) hown hK hP 0 rfl rfl 11 (by decide) (hts _ (kT _ wd_80d24df5)) (fun _ h9 => h9) rfl d_M_fill_114 ?_
                refine lv_iload hx hb d_M_fill_117 (lv_at hl 0 rfl) ?_
                refine r_iald hx hb hK hP 10 9 rfl rfl (i := i) (by omega) (by decide) d_M_fill_119 ?_
                refine lv_bipush (v := nI 127) hx hb d_M_fill_120 (by decide) ?_
                refine lv_iand hx hb d_M_fill_122 ?_
                refine lv_goto (tgt := 133) hx hb d_M_fill_123 (by decide) ?_
                refine r_iast hx hb hK hP hD hS 9 8 rfl rfl (i := (((((cN x) * 6) + (cN y)) * 12) + i)) (by omega) (by decide) d_M_fill_133 (fun H locs hP hD hS => ?_)
                have hP : va_P D vwCl (Wm am gm sLen sKind sExt sMust rTab (va_up rFil (((cN x) * 6) + (cN y)) true) mNum (va_up rLen (((cN x) * 6) + (cN y)) held) (upd (cpI rItm pItm (if kdR sKind rTab x y = 4 then nI 127 else -1) ((cN x * 6 + cN y) * 12) i) (((((cN x) * 6) + (cN y)) * 12) + i) ((pItm i) &&& (nI 127))) made pItm held dByt dLen ver fAdr fTab adr tab lf 0 row mWr mWid mOv mPl mTh mSp mPile mNext mSh mShs mRea mWg mEn mDp mAt mTb mSt) H := hP
                have hD : va_D A (Wm am gm sLen sKind sExt sMust rTab (va_up rFil (((cN x) * 6) + (cN y)) true) mNum (va_up rLen (((cN x) * 6) + (cN y)) held) (upd (cpI rItm pItm (if kdR sKind rTab x y = 4 then nI 127 else -1) ((cN x * 6 + cN y) * 12) i) (((((cN x) * 6) + (cN y)) * 12) + i) ((pItm i) &&& (nI 127))) made pItm held dByt dLen ver fAdr fTab adr tab lf 0 row mWr mWid mOv mPl mTh mSp mPile mNext mSh mShs mRea mWg mEn mDp mAt mTb mSt) := hD
                refine lv_iinc (v := nI (i + 1)) (lv' := [(5, .int (nI (i + 1))), (4, .int (nI (((cN x) * 6) + (cN y)))), (3, .int (nI (sKind (rTab (cN x) * 6 + (cN y))))), (0, .ref (am 0)), (1, .int (nI (cN x))), (2, .int (nI (cN y)))]) hx hb d_M_fill_134 hl (k := 0) rfl (nI_1 _) (by decide) rfl (fun ls hl => ?_)
                refine lv_goto (tgt := 87) hx hb d_M_fill_137 (by decide) ?_
                have ec_rItm : upd (cpI rItm pItm (if kdR sKind rTab x y = 4 then nI 127 else -1) ((cN x * 6 + cN y) * 12) i) (((((cN x) * 6) + (cN y)) * 12) + i) ((pItm i) &&& (nI 127)) = cpI rItm pItm (if kdR sKind rTab x y = 4 then nI 127 else -1) ((cN x * 6 + cN y) * 12) (i + 1) := by first | exact (cpI_4 (kd := kdR sKind rTab x y) c_110).symm | exact (cpI_5 (kd := kdR sKind rTab x y) c_110 (hp _)).symm
                have hP : va_P D vwCl (Wm am gm sLen sKind sExt sMust rTab (va_up rFil (((cN x) * 6) + (cN y)) true) mNum (va_up rLen (((cN x) * 6) + (cN y)) held) (cpI rItm pItm (if kdR sKind rTab x y = 4 then nI 127 else -1) ((cN x * 6 + cN y) * 12) (i + 1)) made pItm held dByt dLen ver fAdr fTab adr tab lf 0 row mWr mWid mOv mPl mTh mSp mPile mNext mSh mShs mRea mWg mEn mDp mAt mTb mSt) H := by rw [← ec_rItm]; exact hP
                have hD : va_D A (Wm am gm sLen sKind sExt sMust rTab (va_up rFil (((cN x) * 6) + (cN y)) true) mNum (va_up rLen (((cN x) * 6) + (cN y)) held) (cpI rItm pItm (if kdR sKind rTab x y = 4 then nI 127 else -1) ((cN x * 6 + cN y) * 12) (i + 1)) made pItm held dByt dLen ver fAdr fTab adr tab lf 0 row mWr mWid mOv mPl mTh mSp mPile mNext mSh mShs mRea mWg mEn mDp mAt mTb mSt) := by rw [← ec_rItm]; exact hD
                exact ih_87 (i + 1) (by omega) (by omega) _ _ _ hP hD hS (lv_sub hl [0, 1, 2, 3, 4, 5] rfl)
        exact L_87 ((held - 0) + 1) 0 (by omega) (by omega) _ _ _ hP hD hS (lv_sub hl [0, 1, 2, 3, 4, 5] rfl)
      · skip
        have c_39 := (nI_eq (by omega) (by omega)).mp c_39
        refine lv_aload_n hx hb d_M_fill_42 rfl (lv_at hl 1 rfl) ?_
        refine va_get (D := D) (ci := 8) (C := R_M) (T := T_M) (N := 39) hx hb hts (fun w h => kT w (i_M w h)) hown hK hP 0 rfl rfl 12 (by decide) (hts _ (kT _ wd_35a9147d)) (fun _ h9 => h9) rfl d_M_fill_43 ?_
        refine lv_bipush (v := nI 8) hx hb d_M_fill_46 (by decide) ?_
        refine lv_icmp_le (tgt := 57) hx hb d_M_fill_48 (by decide) (fun c_48 => ?_) (fun c_48 => ?_)
        · skip
          have c_48 := (nI_leI (by omega) (by omega)).mp c_48
          have hcd : cdFill sLen sKind rTab made held x y = 0 := by rw [cdFill, if_pos hin, if_pos (show kdR sKind rTab x y = 4 ∨ (kdR sKind rTab x y = 5 ∧ held ≤ 8) by omega)]
          refine lv_bipush (v := nI 6) hx hb d_M_fill_57 (by decide) ?_
          refine lv_iload_n hx hb d_M_fill_59 rfl (lv_at hl 2 rfl) ?_
          refine lv_imul hx hb d_M_fill_60 ?_
          refine lv_eqi ((pk_mul _ _).trans (nI_congr (Nat.mul_comm _ _))) ?_
          refine lv_iload_n hx hb d_M_fill_61 rfl (lv_at hl 3 rfl) ?_
          refine lv_iadd hx hb d_M_fill_62 ?_
          refine lv_eqi (nI_add _ _) ?_
          refine lv_istore (lv' := [(4, .int (nI (((cN x) * 6) + (cN y)))), (3, .int (nI (sKind (rTab (cN x) * 6 + (cN y))))), (0, .ref (am 0)), (1, .int (nI (cN x))), (2, .int (nI (cN y)))]) hx hb d_M_fill_63 hl (by decide) rfl (fun ls hl => ?_)
          refine lv_aload_n hx hb d_M_fill_65 rfl (lv_at hl 2 rfl) ?_
          refine va_get (D := D) (ci := 8) (C := R_M) (T := T_M) (N := 39) hx hb hts (fun w h => kT w (i_M w h)) hown hK hP 0 rfl rfl 7 (by decide) (hts _ (kT _ wd_44dadf3a)) (fun _ h9 => h9) rfl d_M_fill_66 ?_
          refine lv_iload hx hb d_M_fill_69 (lv_at hl 0 rfl) ?_
          refine lv_iconst (v := nI 1) hx hb d_M_fill_71 (by decide) ?_
          refine lv_eqi (show nI 1 = bI true by decide) ?_
          refine z_zast hx hb hK hP hD hS 6 5 rfl rfl (i := (((cN x) * 6) + (cN y))) (by omega) (by decide) d_M_fill_72 (fun H locs hP hD hS => ?_)
          have hP : va_P D vwCl (Wm am gm sLen sKind sExt sMust rTab (va_up rFil (((cN x) * 6) + (cN y)) true) mNum rLen rItm made pItm held dByt dLen ver fAdr fTab adr tab lf 0 row mWr mWid mOv mPl mTh mSp mPile mNext mSh mShs mRea mWg mEn mDp mAt mTb mSt) H := hP
          have hD : va_D A (Wm am gm sLen sKind sExt sMust rTab (va_up rFil (((cN x) * 6) + (cN y)) true) mNum rLen rItm made pItm held dByt dLen ver fAdr fTab adr tab lf 0 row mWr mWid mOv mPl mTh mSp mPile mNext mSh mShs mRea mWg mEn mDp mAt mTb mSt) := hD
          refine lv_aload_n hx hb d_M_fill_73 rfl (lv_at hl 2 rfl) ?_
          refine va_get (D := D) (ci := 8) (C := R_M) (T := T_M) (N := 39) hx hb hts (fun w h => kT w (i_M w h)) hown hK hP 0 rfl rfl 9 (by decide) (hts _ (kT _ wd_561915e7)) (fun _ h9 => h9) rfl d_M_fill_74 ?_
          refine lv_iload hx hb d_M_fill_77 (lv_at hl 0 rfl) ?_
          refine lv_aload_n hx hb d_M_fill_79 rfl (lv_at hl 2 rfl) ?_
          refine va_get (D := D) (ci := 8) (C := R_M) (T := T_M) (N := 39) hx hb hts (fun w h => kT w (i_M w h)) hown hK hP 0 rfl rfl 12 (by decide) (hts _ (kT _ wd_35a9147d)) (fun _ h9 => h9) rfl d_M_fill_80 ?_
          refine n_iast hx hb hK hP hD hS 8 7 rfl rfl (i := (((cN x) * 6) + (cN y))) (by omega) (by decide) d_M_fill_83 (fun H locs hP hD hS => ?_)
          have hP : va_P D vwCl (Wm am gm sLen sKind sExt sMust rTab (va_up rFil (((cN x) * 6) + (cN y)) true) mNum (va_up rLen (((cN x) * 6) + (cN y)) held) rItm made pItm held dByt dLen ver fAdr fTab adr tab lf 0 row mWr mWid mOv mPl mTh mSp mPile mNext mSh mShs mRea mWg mEn mDp mAt mTb mSt) H := hP
          have hD : va_D A (Wm am gm sLen sKind sExt sMust rTab (va_up rFil (((cN x) * 6) + (cN y)) true) mNum (va_up rLen (((cN x) * 6) + (cN y)) held) rItm made pItm held dByt dLen ver fAdr fTab adr tab lf 0 row mWr mWid mOv mPl mTh mSp mPile mNext mSh mShs mRea mWg mEn mDp mAt mTb mSt) := hD
          refine lv_iconst (v := nI 0) hx hb d_M_fill_84 (by decide) ?_
          refine lv_istore (lv' := [(5, .int (nI 0)), (4, .int (nI (((cN x) * 6) + (cN y)))), (3, .int (nI (sKind (rTab (cN x) * 6 + (cN y))))), (0, .ref (am 0)), (1, .int (nI (cN x))), (2, .int (nI (cN y)))]) hx hb d_M_fill_85 hl (by decide) rfl (fun ls hl => ?_)
          have hP : va_P D vwCl (Wm am gm sLen sKind sExt sMust rTab (va_up rFil (((cN x) * 6) + (cN y)) true) mNum (va_up rLen (((cN x) * 6) + (cN y)) held) (cpI rItm pItm (if kdR sKind rTab x y = 4 then nI 127 else -1) ((cN x * 6 + cN y) * 12) 0) made pItm held dByt dLen ver fAdr fTab adr tab lf 0 row mWr mWid mOv mPl mTh mSp mPile mNext mSh mShs mRea mWg mEn mDp mAt mTb mSt) _ := hP
          have hD : va_D A (Wm am gm sLen sKind sExt sMust rTab (va_up rFil (((cN x) * 6) + (cN y)) true) mNum (va_up rLen (((cN x) * 6) + (cN y)) held) (cpI rItm pItm (if kdR sKind rTab x y = 4 then nI 127 else -1) ((cN x * 6 + cN y) * 12) 0) made pItm held dByt dLen ver fAdr fTab adr tab lf 0 row mWr mWid mOv mPl mTh mSp mPile mNext mSh mShs mRea mWg mEn mDp mAt mTb mSt) := hD
          have L_87 : ∀ (n : Nat) (i : Nat), (i ≤ held) → held - i < n → ∀ (H : Heap) (locs : List Loc) (ls : Array Slot), va_P D vwCl (Wm am gm sLen sKind sExt sMust rTab (va_up rFil (((cN x) * 6) + (cN y)) true) mNum (va_up rLen (((cN x) * 6) + (cN y)) held) (cpI rItm pItm (if kdR sKind rTab x y = 4 then nI 127 else -1) ((cN x * 6 + cN y) * 12) i) made pItm held dByt dLen ver fAdr fTab adr tab lf 0 row mWr mWid mOv mPl mTh mSp mPile mNext mSh mShs mRea mWg mEn mDp mAt mTb mSt) H → va_D A (Wm am gm sLen sKind sExt sMust rTab (va_up rFil (((cN x) * 6) + (cN y)) true) mNum (va_up rLen (((cN x) * 6) + (cN y)) held) (cpI rItm pItm (if kdR sKind rTab x y = 4 then nI 127 else -1) ((cN x * 6 + cN y) * 12) i) made pItm held dByt dLen ver fAdr fTab adr tab lf 0 row mWr mWid mOv mPl mTh mSp mPile mNext mSh mShs mRea mWg mEn mDp mAt mTb mSt) → va_S A s.heap H locs → lv_has ls 6 [(5, .int (nI i)), (4, .int (nI (((cN x) * 6) + (cN y)))), (3, .int (nI (sKind (rTab (cN x) * 6 + (cN y))))), (0, .ref (am 0)), (1, .int (nI (cN x))), (2, .int (nI (cN y)))] → W p l e ({ frames := 2, cells := 0, slots := 0, locals := 43 }) s m ([.ref (am 0), .int x, .int y] : List Value).toArray below meth c H locs 0 0 (MQ below (kQ D vwCl (WmT gm) A True (some (.int (nI (if cdFill sLen sKind rTab made held x y = 0 then held else 0)))) (Wm am gm sLen sKind sExt sMust rTab (if cdFill sLen sKind rTab made held x y = 0 then va_up rFil (cN x * 6 + cN y) true else rFil) mNum (if cdFill sLen sKind rTab made held x y = 0 then va_up rLen (cN x * 6 + cN y) held else rLen) (if cdFill sLen sKind rTab made held x y = 0 then cpI rItm pItm (if kdR sKind rTab x y = 4 then nI 127 else -1) ((cN x * 6 + cN y) * 12) held else rItm) made pItm (if cdFill sLen sKind rTab made held x y = 0 then 0 else held) dByt dLen ver fAdr fTab adr tab lf (cdFill sLen sKind rTab made held x y) row mWr mWid mOv mPl mTh mSp mPile mNext mSh mShs mRea mWg mEn mDp mAt mTb mSt)) ([.ref (am 0), .int x, .int y] : List Value).toArray s 0 0 A) (F0 m 87 ls []) := by
            intro n
            induction n with
            | zero => intro i hi hm; exact absurd hm (Nat.not_lt_zero _)
            | succ n ih_87 =>
              intro i hi hm_87 H locs ls hP hD hS hl
              refine lv_iload hx hb d_M_fill_87 (lv_at hl 0 rfl) ?_
              refine lv_aload_n hx hb d_M_fill_89 rfl (lv_at hl 3 rfl) ?_
              refine va_get (D := D) (ci := 8) (C := R_M) (T := T_M) (N := 39) hx hb hts (fun w h => kT w (i_M w h)) hown hK hP 0 rfl rfl 12 (by decide) (hts _ (kT _ wd_35a9147d)) (fun _ h9 => h9) rfl d_M_fill_90 ?_
              refine lv_icmp_ge (tgt := 140) hx hb d_M_fill_93 (by decide) (fun c_93 => ?_) (fun c_93 => ?_)
              · skip
                have c_93 := (nI_leI (by omega) (by omega)).mp c_93
                have h_i : held = i := by omega
                subst h_i
                refine lv_aload_n hx hb d_M_fill_140 rfl (lv_at hl 3 rfl) ?_
                refine lv_iconst (v := nI 0) hx hb d_M_fill_141 (by decide) ?_
                refine va_put (D := D) (ci := 8) (ty := .int) (C := R_M) (T := T_M) (N := 39) hx hb hts (fun w h => kT w (i_M w h)) ty_M tyk_M nm_M hown hK hP hD hS 0 rfl rfl 12 (by decide) (hts _ (kT _ wd_35a9147d)) (fun _ h9 => h9) rfl (by decide +kernel) rfl rfl (Nat.le_of_ble_eq_true rfl) d_M_fill_142 (fun H locs hP hD hS => ?_)
                have hP : va_P D vwCl (Wm am gm sLen sKind sExt sMust rTab (va_up rFil (((cN x) * 6) + (cN y)) true) mNum (va_up rLen (((cN x) * 6) + (cN y)) held) (cpI rItm pItm (if kdR sKind rTab x y = 4 then nI 127 else -1) ((cN x * 6 + cN y) * 12) held) made pItm 0 dByt dLen ver fAdr fTab adr tab lf 0 row mWr mWid mOv mPl mTh mSp mPile mNext mSh mShs mRea mWg mEn mDp mAt mTb mSt) H := hP
                have hD : va_D A (Wm am gm sLen sKind sExt sMust rTab (va_up rFil (((cN x) * 6) + (cN y)) true) mNum (va_up rLen (((cN x) * 6) + (cN y)) held) (cpI rItm pItm (if kdR sKind rTab x y = 4 then nI 127 else -1) ((cN x * 6 + cN y) * 12) held) made pItm 0 dByt dLen ver fAdr fTab adr tab lf 0 row mWr mWid mOv mPl mTh mSp mPile mNext mSh mShs mRea mWg mEn mDp mAt mTb mSt) := hD
                refine lv_aload_n hx hb d_M_fill_145 rfl (lv_at hl 3 rfl) ?_
                refine va_get (D := D) (ci := 8) (C := R_M) (T := T_M) (N := 39) hx hb hts (fun w h => kT w (i_M w h)) hown hK hP 0 rfl rfl 9 (by decide) (hts _ (kT _ wd_561915e7)) (fun _ h9 => h9) rfl d_M_fill_146 ?_
                refine lv_iload hx hb d_M_fill_149 (lv_at hl 1 rfl) ?_
                refine n_iald hx hb hK hP 8 7 rfl rfl (i := (((cN x) * 6) + (cN y))) (by omega) (by decide) d_M_fill_151 ?_
                exact k_iret hx hb hr hlocks hK hP hD hS (trivial) (by rw [hcd, va_up_self]; rfl) (by rw [hcd]; first | done | rfl) d_M_fill_152
              · skip
                have c_93 := mt (nI_leI (by omega) (by omega)).mpr c_93
                refine lv_aload_n hx hb d_M_fill_96 rfl (lv_at hl 3 rfl) ?_
                refine va_get (D := D) (ci := 8) (C := R_M) (T := T_M) (N := 39) hx hb hts (fun w h => kT w (i_M w h)) hown hK hP 0 rfl rfl 10 (by decide) (hts _ (kT _ wd_1d9af4df)) (fun _ h9 => h9) rfl d_M_fill_97 ?_
                refine lv_bipush (v := nI 12) hx hb d_M_fill_100 (by decide) ?_
                refine lv_iload hx hb d_M_fill_102 (lv_at hl 1 rfl) ?_
                refine lv_imul hx hb d_M_fill_104 ?_
                refine lv_eqi ((pk_mul _ _).trans (nI_congr (Nat.mul_comm _ _))) ?_
                refine lv_iload hx hb d_M_fill_105 (lv_at hl 0 rfl) ?_
                refine lv_iadd hx hb d_M_fill_107 ?_
                refine lv_eqi (nI_add _ _) ?_
                refine lv_iload_n hx hb d_M_fill_108 rfl (lv_at hl 2 rfl) ?_
                refine lv_iconst (v := nI 4) hx hb d_M_fill_109 (by decide) ?_
                refine lv_icmp_ne (tgt := 126) hx hb d_M_fill_110 (by decide) (fun c_110 => ?_) (fun c_110 => ?_)
                · skip
                  have c_110 := mt (nI_eq (by omega) (by omega)).mpr c_110
                  refine lv_aload_n hx hb d_M_fill_126 rfl (lv_at hl 3 rfl) ?_
                  refine va_get (D := D) (ci := 8) (C := R_M) (T := T_M) (N := 39) hx hb hts (fun w h => kT w (i_M w h)) hown hK hP 0 rfl rfl 11 (by decide) (hts _ (kT _ wd_80d24df5)) (fun _ h9 => h9) rfl d_M_fill_127 ?_
                  refine lv_iload hx hb d_M_fill_130 (lv_at hl 0 rfl) ?_
                  refine r_iald hx hb hK hP 10 9 rfl rfl (i := i) (by omega) (by decide) d_M_fill_132 ?_
                  refine r_iast hx hb hK hP hD hS 9 8 rfl rfl (i := (((((cN x) * 6) + (cN y)) * 12) + i)) (by omega) (by decide) d_M_fill_133 (fun H locs hP hD hS => ?_)
                  have hP : va_P D vwCl (Wm am gm sLen sKind sExt sMust rTab (va_up rFil (((cN x) * 6) + (cN y)) true) mNum (va_up rLen (((cN x) * 6) + (cN y)) held) (upd (cpI rItm pItm (if kdR sKind rTab x y = 4 then nI 127 else -1) ((cN x * 6 + cN y) * 12) i) (((((cN x) * 6) + (cN y)) * 12) + i) (pItm i)) made pItm held dByt dLen ver fAdr fTab adr tab lf 0 row mWr mWid mOv mPl mTh mSp mPile mNext mSh mShs mRea mWg mEn mDp mAt mTb mSt) H := hP
                  have hD : va_D A (Wm am gm sLen sKind sExt sMust rTab (va_up rFil (((cN x) * 6) + (cN y)) true) mNum (va_up rLen (((cN x) * 6) + (cN y)) held) (upd (cpI rItm pItm (if kdR sKind rTab x y = 4 then nI 127 else -1) ((cN x * 6 + cN y) * 12) i) (((((cN x) * 6) + (cN y)) * 12) + i) (pItm i)) made pItm held dByt dLen ver fAdr fTab adr tab lf 0 row mWr mWid mOv mPl mTh mSp mPile mNext mSh mShs mRea mWg mEn mDp mAt mTb mSt) := hD
                  refine lv_iinc (v := nI (i + 1)) (lv' := [(5, .int (nI (i + 1))), (4, .int (nI (((cN x) * 6) + (cN y)))), (3, .int (nI (sKind (rTab (cN x) * 6 + (cN y))))), (0, .ref (am 0)), (1, .int (nI (cN x))), (2, .int (nI (cN y)))]) hx hb d_M_fill_134 hl (k := 0) rfl (nI_1 _) (by decide) rfl (fun ls hl => ?_)
                  refine lv_goto (tgt := 87) hx hb d_M_fill_137 (by decide) ?_
                  have ec_rItm : upd (cpI rItm pItm (if kdR sKind rTab x y = 4 then nI 127 else -1) ((cN x * 6 + cN y) * 12) i) (((((cN x) * 6) + (cN y)) * 12) + i) (pItm i) = cpI rItm pItm (if kdR sKind rTab x y = 4 then nI 127 else -1) ((cN x * 6 + cN y) * 12) (i + 1) := by first | exact (cpI_4 (kd := kdR sKind rTab x y) c_110).symm | exact (cpI_5 (kd := kdR sKind rTab x y) c_110 (hp _)).symm
                  have hP : va_P D vwCl (Wm am gm sLen sKind sExt sMust rTab (va_up rFil (((cN x) * 6) + (cN y)) true) mNum (va_up rLen (((cN x) * 6) + (cN y)) held) (cpI rItm pItm (if kdR sKind rTab x y = 4 then nI 127 else -1) ((cN x * 6 + cN y) * 12) (i + 1)) made pItm held dByt dLen ver fAdr fTab adr tab lf 0 row mWr mWid mOv mPl mTh mSp mPile mNext mSh mShs mRea mWg mEn mDp mAt mTb mSt) H := by rw [← ec_rItm]; exact hP
                  have hD : va_D A (Wm am gm sLen sKind sExt sMust rTab (va_up rFil (((cN x) * 6) + (cN y)) true) mNum (va_up rLen (((cN x) * 6) + (cN y)) held) (cpI rItm pItm (if kdR sKind rTab x y = 4 then nI 127 else -1) ((cN x * 6 + cN y) * 12) (i + 1)) made pItm held dByt dLen ver fAdr fTab adr tab lf 0 row mWr mWid mOv mPl mTh mSp mPile mNext mSh mShs mRea mWg mEn mDp mAt mTb mSt) := by rw [← ec_rItm]; exact hD
                  exact ih_87 (i + 1) (by omega) (by omega) _ _ _ hP hD hS (lv_sub hl [0, 1, 2, 3, 4, 5] rfl)
                · skip
                  have c_110 := (nI_eq (by omega) (by omega)).mp c_110
                  refine lv_aload_n hx hb d_M_fill_113 rfl (lv_at hl 3 rfl) ?_
                  refine va_get (D := D) (ci := 8) (C := R_M) (T := T_M) (N := 39) hx hb hts (fun w h => kT w (i_M w h)) hown hK hP 0 rfl rfl 11 (by decide) (hts _ (kT _ wd_80d24df5)) (fun _ h9 => h9) rfl d_M_fill_114 ?_
                  refine lv_iload hx hb d_M_fill_117 (lv_at hl 0 rfl) ?_
                  refine r_iald hx hb hK hP 10 9 rfl rfl (i := i) (by omega) (by decide) d_M_fill_119 ?_
                  refine lv_bipush (v := nI 127) hx hb d_M_fill_120 (by decide) ?_
                  refine lv_iand hx hb d_M_fill_122 ?_
                  refine lv_goto (tgt := 133) hx hb d_M_fill_123 (by decide) ?_
                  refine r_iast hx hb hK hP hD hS 9 8 rfl rfl (i := (((((cN x) * 6) + (cN y)) * 12) + i)) (by omega) (by decide) d_M_fill_133 (fun H locs hP hD hS => ?_)
                  have hP : va_P D vwCl (Wm am gm sLen sKind sExt sMust rTab (va_up rFil (((cN x) * 6) + (cN y)) true) mNum (va_up rLen (((cN x) * 6) + (cN y)) held) (upd (cpI rItm pItm (if kdR sKind rTab x y = 4 then nI 127 else -1) ((cN x * 6 + cN y) * 12) i) (((((cN x) * 6) + (cN y)) * 12) + i) ((pItm i) &&& (nI 127))) made pItm held dByt dLen ver fAdr fTab adr tab lf 0 row mWr mWid mOv mPl mTh mSp mPile mNext mSh mShs mRea mWg mEn mDp mAt mTb mSt) H := hP
                  have hD : va_D A (Wm am gm sLen sKind sExt sMust rTab (va_up rFil (((cN x) * 6) + (cN y)) true) mNum (va_up rLen (((cN x) * 6) + (cN y)) held) (upd (cpI rItm pItm (if kdR sKind rTab x y = 4 then nI 127 else -1) ((cN x * 6 + cN y) * 12) i) (((((cN x) * 6) + (cN y)) * 12) + i) ((pItm i) &&& (nI 127))) made pItm held dByt dLen ver fAdr fTab adr tab lf 0 row mWr mWid mOv mPl mTh mSp mPile mNext mSh mShs mRea mWg mEn mDp mAt mTb mSt) := hD
                  refine lv_iinc (v := nI (i + 1)) (lv' := [(5, .int (nI (i + 1))), (4, .int (nI (((cN x) * 6) + (cN y)))), (3, .int (nI (sKind (rTab (cN x) * 6 + (cN y))))), (0, .ref (am 0)), (1, .int (nI (cN x))), (2, .int (nI (cN y)))]) hx hb d_M_fill_134 hl (k := 0) rfl (nI_1 _) (by decide) rfl (fun ls hl => ?_)
                  refine lv_goto (tgt := 87) hx hb d_M_fill_137 (by decide) ?_
                  have ec_rItm : upd (cpI rItm pItm (if kdR sKind rTab x y = 4 then nI 127 else -1) ((cN x * 6 + cN y) * 12) i) (((((cN x) * 6) + (cN y)) * 12) + i) ((pItm i) &&& (nI 127)) = cpI rItm pItm (if kdR sKind rTab x y = 4 then nI 127 else -1) ((cN x * 6 + cN y) * 12) (i + 1) := by first | exact (cpI_4 (kd := kdR sKind rTab x y) c_110).symm | exact (cpI_5 (kd := kdR sKind rTab x y) c_110 (hp _)).symm
                  have hP : va_P D vwCl (Wm am gm sLen sKind sExt sMust rTab (va_up rFil (((cN x) * 6) + (cN y)) true) mNum (va_up rLen (((cN x) * 6) + (cN y)) held) (cpI rItm pItm (if kdR sKind rTab x y = 4 then nI 127 else -1) ((cN x * 6 + cN y) * 12) (i + 1)) made pItm held dByt dLen ver fAdr fTab adr tab lf 0 row mWr mWid mOv mPl mTh mSp mPile mNext mSh mShs mRea mWg mEn mDp mAt mTb mSt) H := by rw [← ec_rItm]; exact hP
                  have hD : va_D A (Wm am gm sLen sKind sExt sMust rTab (va_up rFil (((cN x) * 6) + (cN y)) true) mNum (va_up rLen (((cN x) * 6) + (cN y)) held) (cpI rItm pItm (if kdR sKind rTab x y = 4 then nI 127 else -1) ((cN x * 6 + cN y) * 12) (i + 1)) made pItm held dByt dLen ver fAdr fTab adr tab lf 0 row mWr mWid mOv mPl mTh mSp mPile mNext mSh mShs mRea mWg mEn mDp mAt mTb mSt) := by rw [← ec_rItm]; exact hD
                  exact ih_87 (i + 1) (by omega) (by omega) _ _ _ hP hD hS (lv_sub hl [0, 1, 2, 3, 4, 5] rfl)
          exact L_87 ((held - 0) + 1) 0 (by omega) (by omega) _ _ _ hP hD hS (lv_sub hl [0, 1, 2, 3, 4, 5] rfl)
        · skip
          have c_48 := mt (nI_leI (by omega) (by omega)).mpr c_48
          have hcd : cdFill sLen sKind rTab made held x y = 2 := by rw [cdFill, if_pos hin, if_neg (show ¬ (kdR sKind rTab x y = 4 ∨ (kdR sKind rTab x y = 5 ∧ held ≤ 8)) by omega)]
          refine lv_aload_n hx hb d_M_fill_51 rfl (lv_at hl 1 rfl) ?_
          refine lv_iconst (v := nI 2) hx hb d_M_fill_52 (by decide) ?_
          refine k_callV (m_raise l D am gm tw sLen sKind sExt sMust rTab rFil mNum rLen rItm made pItm held dByt dLen ver fAdr fTab adr tab lf 0 row mWr mWid mOv mPl mTh mSp mPile mNext mSh mShs mRea mWg mEn mDp mAt mTb mSt 2  ) m_M_raise wd_4b1468e4 0 8 rfl rfl rfl kT hx hb hml hown hts ⟨Nat.le_of_ble_eq_true rfl, Nat.le_of_ble_eq_true rfl⟩ ⟨Nat.le_of_ble_eq_true rfl, Nat.le_of_ble_eq_true rfl⟩ hK hP hD hS hA hZ hl.1 rfl rfl (Nat.le_of_ble_eq_true rfl) d_M_fill_53 (fun H locs hP hD hS => ?_)
          have hP : va_P D vwCl (Wm am gm sLen sKind sExt sMust rTab rFil mNum rLen rItm made pItm held dByt dLen ver fAdr fTab adr tab lf 2 row mWr mWid mOv mPl mTh mSp mPile mNext mSh mShs mRea mWg mEn mDp mAt mTb mSt) H := hP
          have hD : va_D A (Wm am gm sLen sKind sExt sMust rTab rFil mNum rLen rItm made pItm held dByt dLen ver fAdr fTab adr tab lf 2 row mWr mWid mOv mPl mTh mSp mPile mNext mSh mShs mRea mWg mEn mDp mAt mTb mSt) := hD
          refine W.eq (g2 := F0 m 56 ls [.int (nI 0)]) rfl ?_
          exact k_iret hx hb hr hlocks hK hP hD hS (trivial) (by rw [hcd]; first | done | rfl) (by rw [hcd]; first | done | rfl) d_M_fill_56
    · skip
      have c_29 := mt (nI_eq (by omega) (by omega)).mpr c_29
      refine lv_iload_n hx hb d_M_fill_32 rfl (lv_at hl 0 rfl) ?_
      refine lv_iconst (v := nI 5) hx hb d_M_fill_33 (by decide) ?_
      refine lv_icmp_ne (tgt := 51) hx hb d_M_fill_34 (by decide) (fun c_34 => ?_) (fun c_34 => ?_)
      · skip
        have c_34 := mt (nI_eq (by omega) (by omega)).mpr c_34
        have hcd : cdFill sLen sKind rTab made held x y = 2 := by rw [cdFill, if_pos hin, if_neg (show ¬ (kdR sKind rTab x y = 4 ∨ (kdR sKind rTab x y = 5 ∧ held ≤ 8)) by omega)]
        refine lv_aload_n hx hb d_M_fill_51 rfl (lv_at hl 1 rfl) ?_
        refine lv_iconst (v := nI 2) hx hb d_M_fill_52 (by decide) ?_
        refine k_callV (m_raise l D am gm tw sLen sKind sExt sMust rTab rFil mNum rLen rItm made pItm held dByt dLen ver fAdr fTab adr tab lf 0 row mWr mWid mOv mPl mTh mSp mPile mNext mSh mShs mRea mWg mEn mDp mAt mTb mSt 2  ) m_M_raise wd_4b1468e4 0 8 rfl rfl rfl kT hx hb hml hown hts ⟨Nat.le_of_ble_eq_true rfl, Nat.le_of_ble_eq_true rfl⟩ ⟨Nat.le_of_ble_eq_true rfl, Nat.le_of_ble_eq_true rfl⟩ hK hP hD hS hA hZ hl.1 rfl rfl (Nat.le_of_ble_eq_true rfl) d_M_fill_53 (fun H locs hP hD hS => ?_)
        have hP : va_P D vwCl (Wm am gm sLen sKind sExt sMust rTab rFil mNum rLen rItm made pItm held dByt dLen ver fAdr fTab adr tab lf 2 row mWr mWid mOv mPl mTh mSp mPile mNext mSh mShs mRea mWg mEn mDp mAt mTb mSt) H := hP
        have hD : va_D A (Wm am gm sLen sKind sExt sMust rTab rFil mNum rLen rItm made pItm held dByt dLen ver fAdr fTab adr tab lf 2 row mWr mWid mOv mPl mTh mSp mPile mNext mSh mShs mRea mWg mEn mDp mAt mTb mSt) := hD
        refine W.eq (g2 := F0 m 56 ls [.int (nI 0)]) rfl ?_
        exact k_iret hx hb hr hlocks hK hP hD hS (trivial) (by rw [hcd]; first | done | rfl) (by rw [hcd]; first | done | rfl) d_M_fill_56
      · skip
        have c_34 := (nI_eq (by omega) (by omega)).mp c_34
        refine lv_iload_n hx hb d_M_fill_37 rfl (lv_at hl 0 rfl) ?_
        refine lv_iconst (v := nI 5) hx hb d_M_fill_38 (by decide) ?_
        refine lv_icmp_ne (tgt := 57) hx hb d_M_fill_39 (by decide) (fun c_39 => ?_) (fun c_39 => ?_)
        · skip
          have c_39 := mt (nI_eq (by omega) (by omega)).mpr c_39
          have hcd : cdFill sLen sKind rTab made held x y = 0 := by rw [cdFill, if_pos hin, if_pos (show kdR sKind rTab x y = 4 ∨ (kdR sKind rTab x y = 5 ∧ held ≤ 8) by omega)]
          refine lv_bipush (v := nI 6) hx hb d_M_fill_57 (by decide) ?_
          refine lv_iload_n hx hb d_M_fill_59 rfl (lv_at hl 2 rfl) ?_
          refine lv_imul hx hb d_M_fill_60 ?_
          refine lv_eqi ((pk_mul _ _).trans (nI_congr (Nat.mul_comm _ _))) ?_
          refine lv_iload_n hx hb d_M_fill_61 rfl (lv_at hl 3 rfl) ?_
          refine lv_iadd hx hb d_M_fill_62 ?_
          refine lv_eqi (nI_add _ _) ?_
          refine lv_istore (lv' := [(4, .int (nI (((cN x) * 6) + (cN y)))), (3, .int (nI (sKind (rTab (cN x) * 6 + (cN y))))), (0, .ref (am 0)), (1, .int (nI (cN x))), (2, .int (nI (cN y)))]) hx hb d_M_fill_63 hl (by decide) rfl (fun ls hl => ?_)
          refine lv_aload_n hx hb d_M_fill_65 rfl (lv_at hl 2 rfl) ?_
          refine va_get (D := D) (ci := 8) (C := R_M) (T := T_M) (N := 39) hx hb hts (fun w h => kT w (i_M w h)) hown hK hP 0 rfl rfl 7 (by decide) (hts _ (kT _ wd_44dadf3a)) (fun _ h9 => h9) rfl d_M_fill_66 ?_
          refine lv_iload hx hb d_M_fill_69 (lv_at hl 0 rfl) ?_
          refine lv_iconst (v := nI 1) hx hb d_M_fill_71 (by decide) ?_
          refine lv_eqi (show nI 1 = bI true by decide) ?_
          refine z_zast hx hb hK hP hD hS 6 5 rfl rfl (i := (((cN x) * 6) + (cN y))) (by omega) (by decide) d_M_fill_72 (fun H locs hP hD hS => ?_)
          have hP : va_P D vwCl (Wm am gm sLen sKind sExt sMust rTab (va_up rFil (((cN x) * 6) + (cN y)) true) mNum rLen rItm made pItm held dByt dLen ver fAdr fTab adr tab lf 0 row mWr mWid mOv mPl mTh mSp mPile mNext mSh mShs mRea mWg mEn mDp mAt mTb mSt) H := hP
          have hD : va_D A (Wm am gm sLen sKind sExt sMust rTab (va_up rFil (((cN x) * 6) + (cN y)) true) mNum rLen rItm made pItm held dByt dLen ver fAdr fTab adr tab lf 0 row mWr mWid mOv mPl mTh mSp mPile mNext mSh mShs mRea mWg mEn mDp mAt mTb mSt) := hD
          refine lv_aload_n hx hb d_M_fill_73 rfl (lv_at hl 2 rfl) ?_
          refine va_get (D := D) (ci := 8) (C := R_M) (T := T_M) (N := 39) hx hb hts (fun w h => kT w (i_M w h)) hown hK hP 0 rfl rfl 9 (by decide) (hts _ (kT _ wd_561915e7)) (fun _ h9 => h9) rfl d_M_fill_74 ?_
          refine lv_iload hx hb d_M_fill_77 (lv_at hl 0 rfl) ?_
          refine lv_aload_n hx hb d_M_fill_79 rfl (lv_at hl 2 rfl) ?_
          refine va_get (D := D) (ci := 8) (C := R_M) (T := T_M) (N := 39) hx hb hts (fun w h => kT w (i_M w h)) hown hK hP 0 rfl rfl 12 (by decide) (hts _ (kT _ wd_35a9147d)) (fun _ h9 => h9) rfl d_M_fill_80 ?_
          refine n_iast hx hb hK hP hD hS 8 7 rfl rfl (i := (((cN x) * 6) + (cN y))) (by omega) (by decide) d_M_fill_83 (fun H locs hP hD hS => ?_)
          have hP : va_P D vwCl (Wm am gm sLen sKind sExt sMust rTab (va_up rFil (((cN x) * 6) + (cN y)) true) mNum (va_up rLen (((cN x) * 6) + (cN y)) held) rItm made pItm held dByt dLen ver fAdr fTab adr tab lf 0 row mWr mWid mOv mPl mTh mSp mPile mNext mSh mShs mRea mWg mEn mDp mAt mTb mSt) H := hP
          have hD : va_D A (Wm am gm sLen sKind sExt sMust rTab (va_up rFil (((cN x) * 6) + (cN y)) true) mNum (va_up rLen (((cN x) * 6) + (cN y)) held) rItm made pItm held dByt dLen ver fAdr fTab adr tab lf 0 row mWr mWid mOv mPl mTh mSp mPile mNext mSh mShs mRea mWg mEn mDp mAt mTb mSt) := hD
          refine lv_iconst (v := nI 0) hx hb d_M_fill_84 (by decide) ?_
          refine lv_istore (lv' := [(5, .int (nI 0)), (4, .int (nI (((cN x) * 6) + (cN y)))), (3, .int (nI (sKind (rTab (cN x) * 6 + (cN y))))), (0, .ref (am 0)), (1, .int (nI (cN x))), (2, .int (nI (cN y)))]) hx hb d_M_fill_85 hl (by decide) rfl (fun ls hl => ?_)
          have hP : va_P D vwCl (Wm am gm sLen sKind sExt sMust rTab (va_up rFil (((cN x) * 6) + (cN y)) true) mNum (va_up rLen (((cN x) * 6) + (cN y)) held) (cpI rItm pItm (if kdR sKind rTab x y = 4 then nI 127 else -1) ((cN x * 6 + cN y) * 12) 0) made pItm held dByt dLen ver fAdr fTab adr tab lf 0 row mWr mWid mOv mPl mTh mSp mPile mNext mSh mShs mRea mWg mEn mDp mAt mTb mSt) _ := hP
          have hD : va_D A (Wm am gm sLen sKind sExt sMust rTab (va_up rFil (((cN x) * 6) + (cN y)) true) mNum (va_up rLen (((cN x) * 6) + (cN y)) held) (cpI rItm pItm (if kdR sKind rTab x y = 4 then nI 127 else -1) ((cN x * 6 + cN y) * 12) 0) made pItm held dByt dLen ver fAdr fTab adr tab lf 0 row mWr mWid mOv mPl mTh mSp mPile mNext mSh mShs mRea mWg mEn mDp mAt mTb mSt) := hD
          have L_87 : ∀ (n : Nat) (i : Nat), (i ≤ held) → held - i < n → ∀ (H : Heap) (locs : List Loc) (ls : Array Slot), va_P D vwCl (Wm am gm sLen sKind sExt sMust rTab (va_up rFil (((cN x) * 6) + (cN y)) true) mNum (va_up rLen (((cN x) * 6) + (cN y)) held) (cpI rItm pItm (if kdR sKind rTab x y = 4 then nI 127 else -1) ((cN x * 6 + cN y) * 12) i) made pItm held dByt dLen ver fAdr fTab adr tab lf 0 row mWr mWid mOv mPl mTh mSp mPile mNext mSh mShs mRea mWg mEn mDp mAt mTb mSt) H → va_D A (Wm am gm sLen sKind sExt sMust rTab (va_up rFil (((cN x) * 6) + (cN y)) true) mNum (va_up rLen (((cN x) * 6) + (cN y)) held) (cpI rItm pItm (if kdR sKind rTab x y = 4 then nI 127 else -1) ((cN x * 6 + cN y) * 12) i) made pItm held dByt dLen ver fAdr fTab adr tab lf 0 row mWr mWid mOv mPl mTh mSp mPile mNext mSh mShs mRea mWg mEn mDp mAt mTb mSt) → va_S A s.heap H locs → lv_has ls 6 [(5, .int (nI i)), (4, .int (nI (((cN x) * 6) + (cN y)))), (3, .int (nI (sKind (rTab (cN x) * 6 + (cN y))))), (0, .ref (am 0)), (1, .int (nI (cN x))), (2, .int (nI (cN y)))] → W p l e ({ frames := 2, cells := 0, slots := 0, locals := 43 }) s m ([.ref (am 0), .int x, .int y] : List Value).toArray below meth c H locs 0 0 (MQ below (kQ D vwCl (WmT gm) A True (some (.int (nI (if cdFill sLen sKind rTab made held x y = 0 then held else 0)))) (Wm am gm sLen sKind sExt sMust rTab (if cdFill sLen sKind rTab made held x y = 0 then va_up rFil (cN x * 6 + cN y) true else rFil) mNum (if cdFill sLen sKind rTab made held x y = 0 then va_up rLen (cN x * 6 + cN y) held else rLen) (if cdFill sLen sKind rTab made held x y = 0 then cpI rItm pItm (if kdR sKind rTab x y = 4 then nI 127 else -1) ((cN x * 6 + cN y) * 12) held else rItm) made pItm (if cdFill sLen sKind rTab made held x y = 0 then 0 else held) dByt dLen ver fAdr fTab adr tab lf (cdFill sLen sKind rTab made held x y) row mWr mWid mOv mPl mTh mSp mPile mNext mSh mShs mRea mWg mEn mDp mAt mTb mSt)) ([.ref (am 0), .int x, .int y] : List Value).toArray s 0 0 A) (F0 m 87 ls []) := by
            intro n
            induction n with
            | zero => intro i hi hm; exact absurd hm (Nat.not_lt_zero _)
            | succ n ih_87 =>
              intro i hi hm_87 H locs ls hP hD hS hl
              refine lv_iload hx hb d_M_fill_87 (lv_at hl 0 rfl) ?_
              refine lv_aload_n hx hb d_M_fill_89 rfl (lv_at hl 3 rfl) ?_
              refine va_get (D := D) (ci := 8) (C := R_M) (T := T_M) (N := 39) hx hb hts (fun w h => kT w (i_M w h)) hown hK hP 0 rfl rfl 12 (by decide) (hts _ (kT _ wd_35a9147d)) (fun _ h9 => h9) rfl d_M_fill_90 ?_
              refine lv_icmp_ge (tgt := 140) hx hb d_M_fill_93 (by decide) (fun c_93 => ?_) (fun c_93 => ?_)
              · skip
                have c_93 := (nI_leI (by omega) (by omega)).mp c_93
                have h_i : held = i := by omega
                subst h_i
                refine lv_aload_n hx hb d_M_fill_140 rfl (lv_at hl 3 rfl) ?_
                refine lv_iconst (v := nI 0) hx hb d_M_fill_141 (by decide) ?_
                refine va_put (D := D) (ci := 8) (ty := .int) (C := R_M) (T := T_M) (N := 39) hx hb hts (fun w h => kT w (i_M w h)) ty_M tyk_M nm_M hown hK hP hD hS 0 rfl rfl 12 (by decide) (hts _ (kT _ wd_35a9147d)) (fun _ h9 => h9) rfl (by decide +kernel) rfl rfl (Nat.le_of_ble_eq_true rfl) d_M_fill_142 (fun H locs hP hD hS => ?_)
                have hP : va_P D vwCl (Wm am gm sLen sKind sExt sMust rTab (va_up rFil (((cN x) * 6) + (cN y)) true) mNum (va_up rLen (((cN x) * 6) + (cN y)) held) (cpI rItm pItm (if kdR sKind rTab x y = 4 then nI 127 else -1) ((cN x * 6 + cN y) * 12) held) made pItm 0 dByt dLen ver fAdr fTab adr tab lf 0 row mWr mWid mOv mPl mTh mSp mPile mNext mSh mShs mRea mWg mEn mDp mAt mTb mSt) H := hP
                have hD : va_D A (Wm am gm sLen sKind sExt sMust rTab (va_up rFil (((cN x) * 6) + (cN y)) true) mNum (va_up rLen (((cN x) * 6) + (cN y)) held) (cpI rItm pItm (if kdR sKind rTab x y = 4 then nI 127 else -1) ((cN x * 6 + cN y) * 12) held) made pItm 0 dByt dLen ver fAdr fTab adr tab lf 0 row mWr mWid mOv mPl mTh mSp mPile mNext mSh mShs mRea mWg mEn mDp mAt mTb mSt) := hD
                refine lv_aload_n hx hb d_M_fill_145 rfl (lv_at hl 3 rfl) ?_
                refine va_get (D := D) (ci := 8) (C := R_M) (T := T_M) (N := 39) hx hb hts (fun w h => kT w (i_M w h)) hown hK hP 0 rfl rfl 9 (by decide) (hts _ (kT _ wd_561915e7)) (fun _ h9 => h9) rfl d_M_fill_146 ?_
                refine lv_iload hx hb d_M_fill_149 (lv_at hl 1 rfl) ?_
                refine n_iald hx hb hK hP 8 7 rfl rfl (i := (((cN x) * 6) + (cN y))) (by omega) (by decide) d_M_fill_151 ?_
                exact k_iret hx hb hr hlocks hK hP hD hS (trivial) (by rw [hcd, va_up_self]; rfl) (by rw [hcd]; first | done | rfl) d_M_fill_152
              · skip
                have c_93 := mt (nI_leI (by omega) (by omega)).mpr c_93
                refine lv_aload_n hx hb d_M_fill_96 rfl (lv_at hl 3 rfl) ?_
                refine va_get (D := D) (ci := 8) (C := R_M) (T := T_M) (N := 39) hx hb hts (fun w h => kT w (i_M w h)) hown hK hP 0 rfl rfl 10 (by decide) (hts _ (kT _ wd_1d9af4df)) (fun _ h9 => h9) rfl d_M_fill_97 ?_
                refine lv_bipush (v := nI 12) hx hb d_M_fill_100 (by decide) ?_
                refine lv_iload hx hb d_M_fill_102 (lv_at hl 1 rfl) ?_
                refine lv_imul hx hb d_M_fill_104 ?_
                refine lv_eqi ((pk_mul _ _).trans (nI_congr (Nat.mul_comm _ _))) ?_
                refine lv_iload hx hb d_M_fill_105 (lv_at hl 0 rfl) ?_
                refine lv_iadd hx hb d_M_fill_107 ?_
                refine lv_eqi (nI_add _ _) ?_
                refine lv_iload_n hx hb d_M_fill_108 rfl (lv_at hl 2 rfl) ?_
                refine lv_iconst (v := nI 4) hx hb d_M_fill_109 (by decide) ?_
                refine lv_icmp_ne (tgt := 126) hx hb d_M_fill_110 (by decide) (fun c_110 => ?_) (fun c_110 => ?_)
                · skip
                  have c_110 := mt (nI_eq (by omega) (by omega)).mpr c_110
                  refine lv_aload_n hx hb d_M_fill_126 rfl (lv_at hl 3 rfl) ?_
                  refine va_get (D := D) (ci := 8) (C := R_M) (T := T_M) (N := 39) hx hb hts (fun w h => kT w (i_M w h)) hown hK hP 0 rfl rfl 11 (by decide) (hts _ (kT _ wd_80d24df5)) (fun _ h9 => h9) rfl d_M_fill_127 ?_
                  refine lv_iload hx hb d_M_fill_130 (lv_at hl 0 rfl) ?_
                  refine r_iald hx hb hK hP 10 9 rfl rfl (i := i) (by omega) (by decide) d_M_fill_132 ?_
                  refine r_iast hx hb hK hP hD hS 9 8 rfl rfl (i := (((((cN x) * 6) + (cN y)) * 12) + i)) (by omega) (by decide) d_M_fill_133 (fun H locs hP hD hS => ?_)
                  have hP : va_P D vwCl (Wm am gm sLen sKind sExt sMust rTab (va_up rFil (((cN x) * 6) + (cN y)) true) mNum (va_up rLen (((cN x) * 6) + (cN y)) held) (upd (cpI rItm pItm (if kdR sKind rTab x y = 4 then nI 127 else -1) ((cN x * 6 + cN y) * 12) i) (((((cN x) * 6) + (cN y)) * 12) + i) (pItm i)) made pItm held dByt dLen ver fAdr fTab adr tab lf 0 row mWr mWid mOv mPl mTh mSp mPile mNext mSh mShs mRea mWg mEn mDp mAt mTb mSt) H := hP
                  have hD : va_D A (Wm am gm sLen sKind sExt sMust rTab (va_up rFil (((cN x) * 6) + (cN y)) true) mNum (va_up rLen (((cN x) * 6) + (cN y)) held) (upd (cpI rItm pItm (if kdR sKind rTab x y = 4 then nI 127 else -1) ((cN x * 6 + cN y) * 12) i) (((((cN x) * 6) + (cN y)) * 12) + i) (pItm i)) made pItm held dByt dLen ver fAdr fTab adr tab lf 0 row mWr mWid mOv mPl mTh mSp mPile mNext mSh mShs mRea mWg mEn mDp mAt mTb mSt) := hD
                  refine lv_iinc (v := nI (i + 1)) (lv' := [(5, .int (nI (i + 1))), (4, .int (nI (((cN x) * 6) + (cN y)))), (3, .int (nI (sKind (rTab (cN x) * 6 + (cN y))))), (0, .ref (am 0)), (1, .int (nI (cN x))), (2, .int (nI (cN y)))]) hx hb d_M_fill_134 hl (k := 0) rfl (nI_1 _) (by decide) rfl (fun ls hl => ?_)
                  refine lv_goto (tgt := 87) hx hb d_M_fill_137 (by decide) ?_
                  have ec_rItm : upd (cpI rItm pItm (if kdR sKind rTab x y = 4 then nI 127 else -1) ((cN x * 6 + cN y) * 12) i) (((((cN x) * 6) + (cN y)) * 12) + i) (pItm i) = cpI rItm pItm (if kdR sKind rTab x y = 4 then nI 127 else -1) ((cN x * 6 + cN y) * 12) (i + 1) := by first | exact (cpI_4 (kd := kdR sKind rTab x y) c_110).symm | exact (cpI_5 (kd := kdR sKind rTab x y) c_110 (hp _)).symm
                  have hP : va_P D vwCl (Wm am gm sLen sKind sExt sMust rTab (va_up rFil (((cN x) * 6) + (cN y)) true) mNum (va_up rLen (((cN x) * 6) + (cN y)) held) (cpI rItm pItm (if kdR sKind rTab x y = 4 then nI 127 else -1) ((cN x * 6 + cN y) * 12) (i + 1)) made pItm held dByt dLen ver fAdr fTab adr tab lf 0 row mWr mWid mOv mPl mTh mSp mPile mNext mSh mShs mRea mWg mEn mDp mAt mTb mSt) H := by rw [← ec_rItm]; exact hP
                  have hD : va_D A (Wm am gm sLen sKind sExt sMust rTab (va_up rFil (((cN x) * 6) + (cN y)) true) mNum (va_up rLen (((cN x) * 6) + (cN y)) held) (cpI rItm pItm (if kdR sKind rTab x y = 4 then nI 127 else -1) ((cN x * 6 + cN y) * 12) (i + 1)) made pItm held dByt dLen ver fAdr fTab adr tab lf 0 row mWr mWid mOv mPl mTh mSp mPile mNext mSh mShs mRea mWg mEn mDp mAt mTb mSt) := by rw [← ec_rItm]; exact hD
                  exact ih_87 (i + 1) (by omega) (by omega) _ _ _ hP hD hS (lv_sub hl [0, 1, 2, 3, 4, 5] rfl)
                · skip
                  have c_110 := (nI_eq (by omega) (by omega)).mp c_110
                  refine lv_aload_n hx hb d_M_fill_113 rfl (lv_at hl 3 rfl) ?_
                  refine va_get (D := D) (ci := 8) (C := R_M) (T := T_M) (N := 39) hx hb hts (fun w h => kT w (i_M w h)) hown hK hP 0 rfl rfl 11 (by decide) (hts _ (kT _ wd_80d24df5)) (fun _ h9 => h9) rfl d_M_fill_114 ?_
                  refine lv_iload hx hb d_M_fill_117 (lv_at hl 0 rfl) ?_
                  refine r_iald hx hb hK hP 10 9 rfl rfl (i := i) (by omega) (by decide) d_M_fill_119 ?_
                  refine lv_bipush (v := nI 127) hx hb d_M_fill_120 (by decide) ?_
                  refine lv_iand hx hb d_M_fill_122 ?_
                  refine lv_goto (tgt := 133) hx hb d_M_fill_123 (by decide) ?_
                  refine r_iast hx hb hK hP hD hS 9 8 rfl rfl (i := (((((cN x) * 6) + (cN y)) * 12) + i)) (by omega) (by decide) d_M_fill_133 (fun H locs hP hD hS => ?_)
                  have hP : va_P D vwCl (Wm am gm sLen sKind sExt sMust rTab (va_up rFil (((cN x) * 6) + (cN y)) true) mNum (va_up rLen (((cN x) * 6) + (cN y)) held) (upd (cpI rItm pItm (if kdR sKind rTab x y = 4 then nI 127 else -1) ((cN x * 6 + cN y) * 12) i) (((((cN x) * 6) + (cN y)) * 12) + i) ((pItm i) &&& (nI 127))) made pItm held dByt dLen ver fAdr fTab adr tab lf 0 row mWr mWid mOv mPl mTh mSp mPile mNext mSh mShs mRea mWg mEn mDp mAt mTb mSt) H := hP
                  have hD : va_D A (Wm am gm sLen sKind sExt sMust rTab (va_up rFil (((cN x) * 6) + (cN y)) true) mNum (va_up rLen (((cN x) * 6) + (cN y)) held) (upd (cpI rItm pItm (if kdR sKind rTab x y = 4 then nI 127 else -1) ((cN x * 6 + cN y) * 12) i) (((((cN x) * 6) + (cN y)) * 12) + i) ((pItm i) &&& (nI 127))) made pItm held dByt dLen ver fAdr fTab adr tab lf 0 row mWr mWid mOv mPl mTh mSp mPile mNext mSh mShs mRea mWg mEn mDp mAt mTb mSt) := hD
                  refine lv_iinc (v := nI (i + 1)) (lv' := [(5, .int (nI (i + 1))), (4, .int (nI (((cN x) * 6) + (cN y)))), (3, .int (nI (sKind (rTab (cN x) * 6 + (cN y))))), (0, .ref (am 0)), (1, .int (nI (cN x))), (2, .int (nI (cN y)))]) hx hb d_M_fill_134 hl (k := 0) rfl (nI_1 _) (by decide) rfl (fun ls hl => ?_)
                  refine lv_goto (tgt := 87) hx hb d_M_fill_137 (by decide) ?_
                  have ec_rItm : upd (cpI rItm pItm (if kdR sKind rTab x y = 4 then nI 127 else -1) ((cN x * 6 + cN y) * 12) i) (((((cN x) * 6) + (cN y)) * 12) + i) ((pItm i) &&& (nI 127)) = cpI rItm pItm (if kdR sKind rTab x y = 4 then nI 127 else -1) ((cN x * 6 + cN y) * 12) (i + 1) := by first | exact (cpI_4 (kd := kdR sKind rTab x y) c_110).symm | exact (cpI_5 (kd := kdR sKind rTab x y) c_110 (hp _)).symm
                  have hP : va_P D vwCl (Wm am gm sLen sKind sExt sMust rTab (va_up rFil (((cN x) * 6) + (cN y)) true) mNum (va_up rLen (((cN x) * 6) + (cN y)) held) (cpI rItm pItm (if kdR sKind rTab x y = 4 then nI 127 else -1) ((cN x * 6 + cN y) * 12) (i + 1)) made pItm held dByt dLen ver fAdr fTab adr tab lf 0 row mWr mWid mOv mPl mTh mSp mPile mNext mSh mShs mRea mWg mEn mDp mAt mTb mSt) H := by rw [← ec_rItm]; exact hP
                  have hD : va_D A (Wm am gm sLen sKind sExt sMust rTab (va_up rFil (((cN x) * 6) + (cN y)) true) mNum (va_up rLen (((cN x) * 6) + (cN y)) held) (cpI rItm pItm (if kdR sKind rTab x y = 4 then nI 127 else -1) ((cN x * 6 + cN y) * 12) (i + 1)) made pItm held dByt dLen ver fAdr fTab adr tab lf 0 row mWr mWid mOv mPl mTh mSp mPile mNext mSh mShs mRea mWg mEn mDp mAt mTb mSt) := by rw [← ec_rItm]; exact hD
                  exact ih_87 (i + 1) (by omega) (by omega) _ _ _ hP hD hS (lv_sub hl [0, 1, 2, 3, 4, 5] rfl)
          exact L_87 ((held - 0) + 1) 0 (by omega) (by omega) _ _ _ hP hD hS (lv_sub hl [0, 1, 2, 3, 4, 5] rfl)
        · skip
          have c_39 := (nI_eq (by omega) (by omega)).mp c_39
          refine lv_aload_n hx hb d_M_fill_42 rfl (lv_at hl 1 rfl) ?_
          refine va_get (D := D) (ci := 8) (C := R_M) (T := T_M) (N := 39) hx hb hts (fun w h => kT w (i_M w h)) hown hK hP 0 rfl rfl 12 (by decide) (hts _ (kT _ wd_35a9147d)) (fun _ h9 => h9) rfl d_M_fill_43 ?_
          refine lv_bipush (v := nI 8) hx hb d_M_fill_46 (by decide) ?_
          refine lv_icmp_le (tgt := 57) hx hb d_M_fill_48 (by decide) (fun c_48 => ?_) (fun c_48 => ?_)
          · skip
            have c_48 := (nI_leI (by omega) (by omega)).mp c_48
            have hcd : cdFill sLen sKind rTab made held x y = 0 := by rw [cdFill, if_pos hin, if_pos (show kdR sKind rTab x y = 4 ∨ (kdR sKind rTab x y = 5 ∧ held ≤ 8) by omega)]
            refine lv_bipush (v := nI 6) hx hb d_M_fill_57 (by decide) ?_
            refine lv_iload_n hx hb d_M_fill_59 rfl (lv_at hl 2 rfl) ?_
            refine lv_imul hx hb d_M_fill_60 ?_
            refine lv_eqi ((pk_mul _ _).trans (nI_congr (Nat.mul_comm _ _))) ?_
            refine lv_iload_n hx hb d_M_fill_61 rfl (lv_at hl 3 rfl) ?_
            refine lv_iadd hx hb d_M_fill_62 ?_
            refine lv_eqi (nI_add _ _) ?_
            refine lv_istore (lv' := [(4, .int (nI (((cN x) * 6) + (cN y)))), (3, .int (nI (sKind (rTab (cN x) * 6 + (cN y))))), (0, .ref (am 0)), (1, .int (nI (cN x))), (2, .int (nI (cN y)))]) hx hb d_M_fill_63 hl (by decide) rfl (fun ls hl => ?_)
            refine lv_aload_n hx hb d_M_fill_65 rfl (lv_at hl 2 rfl) ?_
            refine va_get (D := D) (ci := 8) (C := R_M) (T := T_M) (N := 39) hx hb hts (fun w h => kT w (i_M w h)) hown hK hP 0 rfl rfl 7 (by decide) (hts _ (kT _ wd_44dadf3a)) (fun _ h9 => h9) rfl d_M_fill_66 ?_
            refine lv_iload hx hb d_M_fill_69 (lv_at hl 0 rfl) ?_
            refine lv_iconst (v := nI 1) hx hb d_M_fill_71 (by decide) ?_
            refine lv_eqi (show nI 1 = bI true by decide) ?_
            refine z_zast hx hb hK hP hD hS 6 5 rfl rfl (i := (((cN x) * 6) + (cN y))) (by omega) (by decide) d_M_fill_72 (fun H locs hP hD hS => ?_)
            have hP : va_P D vwCl (Wm am gm sLen sKind sExt sMust rTab (va_up rFil (((cN x) * 6) + (cN y)) true) mNum rLen rItm made pItm held dByt dLen ver fAdr fTab adr tab lf 0 row mWr mWid mOv mPl mTh mSp mPile mNext mSh mShs mRea mWg mEn mDp mAt mTb mSt) H := hP
            have hD : va_D A (Wm am gm sLen sKind sExt sMust rTab (va_up rFil (((cN x) * 6) + (cN y)) true) mNum rLen rItm made pItm held dByt dLen ver fAdr fTab adr tab lf 0 row mWr mWid mOv mPl mTh mSp mPile mNext mSh mShs mRea mWg mEn mDp mAt mTb mSt) := hD
            refine lv_aload_n hx hb d_M_fill_73 rfl (lv_at hl 2 rfl) ?_
            refine va_get (D := D) (ci := 8) (C := R_M) (T := T_M) (N := 39) hx hb hts (fun w h => kT w (i_M w h)) hown hK hP 0 rfl rfl 9 (by decide) (hts _ (kT _ wd_561915e7)) (fun _ h9 => h9) rfl d_M_fill_74 ?_
            refine lv_iload hx hb d_M_fill_77 (lv_at hl 0 rfl) ?_
            refine lv_aload_n hx hb d_M_fill_79 rfl (lv_at hl 2 rfl) ?_
            refine va_get (D := D) (ci := 8) (C := R_M) (T := T_M) (N := 39) hx hb hts (fun w h => kT w (i_M w h)) hown hK hP 0 rfl rfl 12 (by decide) (hts _ (kT _ wd_35a9147d)) (fun _ h9 => h9) rfl d_M_fill_80 ?_
            refine n_iast hx hb hK hP hD hS 8 7 rfl rfl (i := (((cN x) * 6) + (cN y))) (by omega) (by decide) d_M_fill_83 (fun H locs hP hD hS => ?_)
            have hP : va_P D vwCl (Wm am gm sLen sKind sExt sMust rTab (va_up rFil (((cN x) * 6) + (cN y)) true) mNum (va_up rLen (((cN x) * 6) + (cN y)) held) rItm made pItm held dByt dLen ver fAdr fTab adr tab lf 0 row mWr mWid mOv mPl mTh mSp mPile mNext mSh mShs mRea mWg mEn mDp mAt mTb mSt) H := hP
            have hD : va_D A (Wm am gm sLen sKind sExt sMust rTab (va_up rFil (((cN x) * 6) + (cN y)) true) mNum (va_up rLen (((cN x) * 6) + (cN y)) held) rItm made pItm held dByt dLen ver fAdr fTab adr tab lf 0 row mWr mWid mOv mPl mTh mSp mPile mNext mSh mShs mRea mWg mEn mDp mAt mTb mSt) := hD
            refine lv_iconst (v := nI 0) hx hb d_M_fill_84 (by decide) ?_
            refine lv_istore (lv' := [(5, .int (nI 0)), (4, .int (nI (((cN x) * 6) + (cN y)))), (3, .int (nI (sKind (rTab (cN x) * 6 + (cN y))))), (0, .ref (am 0)), (1, .int (nI (cN x))), (2, .int (nI (cN y)))]) hx hb d_M_fill_85 hl (by decide) rfl (fun ls hl => ?_)
            have hP : va_P D vwCl (Wm am gm sLen sKind sExt sMust rTab (va_up rFil (((cN x) * 6) + (cN y)) true) mNum (va_up rLen (((cN x) * 6) + (cN y)) held) (cpI rItm pItm (if kdR sKind rTab x y = 4 then nI 127 else -1) ((cN x * 6 + cN y) * 12) 0) made pItm held dByt dLen ver fAdr fTab adr tab lf 0 row mWr mWid mOv mPl mTh mSp mPile mNext mSh mShs mRea mWg mEn mDp mAt mTb mSt) _ := hP
            have hD : va_D A (Wm am gm sLen sKind sExt sMust rTab (va_up rFil (((cN x) * 6) + (cN y)) true) mNum (va_up rLen (((cN x) * 6) + (cN y)) held) (cpI rItm pItm (if kdR sKind rTab x y = 4 then nI 127 else -1) ((cN x * 6 + cN y) * 12) 0) made pItm held dByt dLen ver fAdr fTab adr tab lf 0 row mWr mWid mOv mPl mTh mSp mPile mNext mSh mShs mRea mWg mEn mDp mAt mTb mSt) := hD
            have L_87 : ∀ (n : Nat) (i : Nat), (i ≤ held) → held - i < n → ∀ (H : Heap) (locs : List Loc) (ls : Array Slot), va_P D vwCl (Wm am gm sLen sKind sExt sMust rTab (va_up rFil (((cN x) * 6) + (cN y)) true) mNum (va_up rLen (((cN x) * 6) + (cN y)) held) (cpI rItm pItm (if kdR sKind rTab x y = 4 then nI 127 else -1) ((cN x * 6 + cN y) * 12) i) made pItm held dByt dLen ver fAdr fTab adr tab lf 0 row mWr mWid mOv mPl mTh mSp mPile mNext mSh mShs mRea mWg mEn mDp mAt mTb mSt) H → va_D A (Wm am gm sLen sKind sExt sMust rTab (va_up rFil (((cN x) * 6) + (cN y)) true) mNum (va_up rLen (((cN x) * 6) + (cN y)) held) (cpI rItm pItm (if kdR sKind rTab x y = 4 then nI 127 else -1) ((cN x * 6 + cN y) * 12) i) made pItm held dByt dLen ver fAdr fTab adr tab lf 0 row mWr mWid mOv mPl mTh mSp mPile mNext mSh mShs mRea mWg mEn mDp mAt mTb mSt) → va_S A s.heap H locs → lv_has ls 6 [(5, .int (nI i)), (4, .int (nI (((cN x) * 6) + (cN y)))), (3, .int (nI (sKind (rTab (cN x) * 6 + (cN y))))), (0, .ref (am 0)), (1, .int (nI (cN x))), (2, .int (nI (cN y)))] → W p l e ({ frames := 2, cells := 0, slots := 0, locals := 43 }) s m ([.ref (am 0), .int x, .int y] : List Value).toArray below meth c H locs 0 0 (MQ below (kQ D vwCl (WmT gm) A True (some (.int (nI (if cdFill sLen sKind rTab made held x y = 0 then held else 0)))) (Wm am gm sLen sKind sExt sMust rTab (if cdFill sLen sKind rTab made held x y = 0 then va_up rFil (cN x * 6 + cN y) true else rFil) mNum (if cdFill sLen sKind rTab made held x y = 0 then va_up rLen (cN x * 6 + cN y) held else rLen) (if cdFill sLen sKind rTab made held x y = 0 then cpI rItm pItm (if kdR sKind rTab x y = 4 then nI 127 else -1) ((cN x * 6 + cN y) * 12) held else rItm) made pItm (if cdFill sLen sKind rTab made held x y = 0 then 0 else held) dByt dLen ver fAdr fTab adr tab lf (cdFill sLen sKind rTab made held x y) row mWr mWid mOv mPl mTh mSp mPile mNext mSh mShs mRea mWg mEn mDp mAt mTb mSt)) ([.ref (am 0), .int x, .int y] : List Value).toArray s 0 0 A) (F0 m 87 ls []) := by
              intro n
              induction n with
              | zero => intro i hi hm; exact absurd hm (Nat.not_lt_zero _)
              | succ n ih_87 =>
                intro i hi hm_87 H locs ls hP hD hS hl
                refine lv_iload hx hb d_M_fill_87 (lv_at hl 0 rfl) ?_
                refine lv_aload_n hx hb d_M_fill_89 rfl (lv_at hl 3 rfl) ?_
                refine va_get (D := D) (ci := 8) (C := R_M) (T := T_M) (N := 39) hx hb hts (fun w h => kT w (i_M w h)) hown hK hP 0 rfl rfl 12 (by decide) (hts _ (kT _ wd_35a9147d)) (fun _ h9 => h9) rfl d_M_fill_90 ?_
                refine lv_icmp_ge (tgt := 140) hx hb d_M_fill_93 (by decide) (fun c_93 => ?_) (fun c_93 => ?_)
                · skip
                  have c_93 := (nI_leI (by omega) (by omega)).mp c_93
                  have h_i : held = i := by omega
                  subst h_i
                  refine lv_aload_n hx hb d_M_fill_140 rfl (lv_at hl 3 rfl) ?_
                  refine lv_iconst (v := nI 0) hx hb d_M_fill_141 (by decide) ?_
                  refine va_put (D := D) (ci := 8) (ty := .int) (C := R_M) (T := T_M) (N := 39) hx hb hts (fun w h => kT w (i_M w h)) ty_M tyk_M nm_M hown hK hP hD hS 0 rfl rfl 12 (by decide) (hts _ (kT _ wd_35a9147d)) (fun _ h9 => h9) rfl (by decide +kernel) rfl rfl (Nat.le_of_ble_eq_true rfl) d_M_fill_142 (fun H locs hP hD hS => ?_)
                  have hP : va_P D vwCl (Wm am gm sLen sKind sExt sMust rTab (va_up rFil (((cN x) * 6) + (cN y)) true) mNum (va_up rLen (((cN x) * 6) + (cN y)) held) (cpI rItm pItm (if kdR sKind rTab x y = 4 then nI 127 else -1) ((cN x * 6 + cN y) * 12) held) made pItm 0 dByt dLen ver fAdr fTab adr tab lf 0 row mWr mWid mOv mPl mTh mSp mPile mNext mSh mShs mRea mWg mEn mDp mAt mTb mSt) H := hP
                  have hD : va_D A (Wm am gm sLen sKind sExt sMust rTab (va_up rFil (((cN x) * 6) + (cN y)) true) mNum (va_up rLen (((cN x) * 6) + (cN y)) held) (cpI rItm pItm (if kdR sKind rTab x y = 4 then nI 127 else -1) ((cN x * 6 + cN y) * 12) held) made pItm 0 dByt dLen ver fAdr fTab adr tab lf 0 row mWr mWid mOv mPl mTh mSp mPile mNext mSh mShs mRea mWg mEn mDp mAt mTb mSt) := hD
                  refine lv_aload_n hx hb d_M_fill_145 rfl (lv_at hl 3 rfl) ?_
                  refine va_get (D := D) (ci := 8) (C := R_M) (T := T_M) (N := 39) hx hb hts (fun w h => kT w (i_M w h)) hown hK hP 0 rfl rfl 9 (by decide) (hts _ (kT _ wd_561915e7)) (fun _ h9 => h9) rfl d_M_fill_146 ?_
                  refine lv_iload hx hb d_M_fill_149 (lv_at hl 1 rfl) ?_
                  refine n_iald hx hb hK hP 8 7 rfl rfl (i := (((cN x) * 6) + (cN y))) (by omega) (by decide) d_M_fill_151 ?_
                  exact k_iret hx hb hr hlocks hK hP hD hS (trivial) (by rw [hcd, va_up_self]; rfl) (by rw [hcd]; first | done | rfl) d_M_fill_152
                · skip
                  have c_93 := mt (nI_leI (by omega) (by omega)).mpr c_93
                  refine lv_aload_n hx hb d_M_fill_96 rfl (lv_at hl 3 rfl) ?_
                  refine va_get (D := D) (ci := 8) (C := R_M) (T := T_M) (N := 39) hx hb hts (fun w h => kT w (i_M w h)) hown hK hP 0 rfl rfl 10 (by decide) (hts _ (kT _ wd_1d9af4df)) (fun _ h9 => h9) rfl d_M_fill_97 ?_
                  refine lv_bipush (v := nI 12) hx hb d_M_fill_100 (by decide) ?_
                  refine lv_iload hx hb d_M_fill_102 (lv_at hl 1 rfl) ?_
                  refine lv_imul hx hb d_M_fill_104 ?_
                  refine lv_eqi ((pk_mul _ _).trans (nI_congr (Nat.mul_comm _ _))) ?_
                  refine lv_iload hx hb d_M_fill_105 (lv_at hl 0 rfl) ?_
                  refine lv_iadd hx hb d_M_fill_107 ?_
                  refine lv_eqi (nI_add _ _) ?_
                  refine lv_iload_n hx hb d_M_fill_108 rfl (lv_at hl 2 rfl) ?_
                  refine lv_iconst (v := nI 4) hx hb d_M_fill_109 (by decide) ?_
                  refine lv_icmp_ne (tgt := 126) hx hb d_M_fill_110 (by decide) (fun c_110 => ?_) (fun c_110 => ?_)
                  · skip
                    have c_110 := mt (nI_eq (by omega) (by omega)).mpr c_110
                    refine lv_aload_n hx hb d_M_fill_126 rfl (lv_at hl 3 rfl) ?_
                    refine va_get (D := D) (ci := 8) (C := R_M) (T := T_M) (N := 39) hx hb hts (fun w h => kT w (i_M w h)) hown hK hP 0 rfl rfl 11 (by decide) (hts _ (kT _ wd_80d24df5)) (fun _ h9 => h9) rfl d_M_fill_127 ?_
                    refine lv_iload hx hb d_M_fill_130 (lv_at hl 0 rfl) ?_
                    refine r_iald hx hb hK hP 10 9 rfl rfl (i := i) (by omega) (by decide) d_M_fill_132 ?_
                    refine r_iast hx hb hK hP hD hS 9 8 rfl rfl (i := (((((cN x) * 6) + (cN y)) * 12) + i)) (by omega) (by decide) d_M_fill_133 (fun H locs hP hD hS => ?_)
                    have hP : va_P D vwCl (Wm am gm sLen sKind sExt sMust rTab (va_up rFil (((cN x) * 6) + (cN y)) true) mNum (va_up rLen (((cN x) * 6) + (cN y)) held) (upd (cpI rItm pItm (if kdR sKind rTab x y = 4 then nI 127 else -1) ((cN x * 6 + cN y) * 12) i) (((((cN x) * 6) + (cN y)) * 12) + i) (pItm i)) made pItm held dByt dLen ver fAdr fTab adr tab lf 0 row mWr mWid mOv mPl mTh mSp mPile mNext mSh mShs mRea mWg mEn mDp mAt mTb mSt) H := hP
                    have hD : va_D A (Wm am gm sLen sKind sExt sMust rTab (va_up rFil (((cN x) * 6) + (cN y)) true) mNum (va_up rLen (((cN x) * 6) + (cN y)) held) (upd (cpI rItm pItm (if kdR sKind rTab x y = 4 then nI 127 else -1) ((cN x * 6 + cN y) * 12) i) (((((cN x) * 6) + (cN y)) * 12) + i) (pItm i)) made pItm held dByt dLen ver fAdr fTab adr tab lf 0 row mWr mWid mOv mPl mTh mSp mPile mNext mSh mShs mRea mWg mEn mDp mAt mTb mSt) := hD
                    refine lv_iinc (v := nI (i + 1)) (lv' := [(5, .int (nI (i + 1))), (4, .int (nI (((cN x) * 6) + (cN y)))), (3, .int (nI (sKind (rTab (cN x) * 6 + (cN y))))), (0, .ref (am 0)), (1, .int (nI (cN x))), (2, .int (nI (cN y)))]) hx hb d_M_fill_134 hl (k := 0) rfl (nI_1 _) (by decide) rfl (fun ls hl => ?_)
                    refine lv_goto (tgt := 87) hx hb d_M_fill_137 (by decide) ?_
                    have ec_rItm : upd (cpI rItm pItm (if kdR sKind rTab x y = 4 then nI 127 else -1) ((cN x * 6 + cN y) * 12) i) (((((cN x) * 6) + (cN y)) * 12) + i) (pItm i) = cpI rItm pItm (if kdR sKind rTab x y = 4 then nI 127 else -1) ((cN x * 6 + cN y) * 12) (i + 1) := by first | exact (cpI_4 (kd := kdR sKind rTab x y) c_110).symm | exact (cpI_5 (kd := kdR sKind rTab x y) c_110 (hp _)).symm
                    have hP : va_P D vwCl (Wm am gm sLen sKind sExt sMust rTab (va_up rFil (((cN x) * 6) + (cN y)) true) mNum (va_up rLen (((cN x) * 6) + (cN y)) held) (cpI rItm pItm (if kdR sKind rTab x y = 4 then nI 127 else -1) ((cN x * 6 + cN y) * 12) (i + 1)) made pItm held dByt dLen ver fAdr fTab adr tab lf 0 row mWr mWid mOv mPl mTh mSp mPile mNext mSh mShs mRea mWg mEn mDp mAt mTb mSt) H := by rw [← ec_rItm]; exact hP
                    have hD : va_D A (Wm am gm sLen sKind sExt sMust rTab (va_up rFil (((cN x) * 6) + (cN y)) true) mNum (va_up rLen (((cN x) * 6) + (cN y)) held) (cpI rItm pItm (if kdR sKind rTab x y = 4 then nI 127 else -1) ((cN x * 6 + cN y) * 12) (i + 1)) made pItm held dByt dLen ver fAdr fTab adr tab lf 0 row mWr mWid mOv mPl mTh mSp mPile mNext mSh mShs mRea mWg mEn mDp mAt mTb mSt) := by rw [← ec_rItm]; exact hD
                    exact ih_87 (i + 1) (by omega) (by omega) _ _ _ hP hD hS (lv_sub hl [0, 1, 2, 3, 4, 5] rfl)
                  · skip
                    have c_110 := (nI_eq (by omega) (by omega)).mp c_110
                    refine lv_aload_n hx hb d_M_fill_113 rfl (lv_at hl 3 rfl) ?_
                    refine va_get (D := D) (ci := 8) (C := R_M) (T := T_M) (N := 39) hx hb hts (fun w h => kT w (i_M w h)) hown hK hP 0 rfl rfl 11 (by decide) (hts _ (kT _ wd_80d24df5)) (fun _ h9 => h9) rfl d_M_fill_114 ?_
                    refine lv_iload hx hb d_M_fill_117 (lv_at hl 0 rfl) ?_
                    refine r_iald hx hb hK hP 10 9 rfl rfl (i := i) (by omega) (by decide) d_M_fill_119 ?_
                    refine lv_bipush (v := nI 127) hx hb d_M_fill_120 (by decide) ?_
                    refine lv_iand hx hb d_M_fill_122 ?_
                    refine lv_goto (tgt := 133) hx hb d_M_fill_123 (by decide) ?_
                    refine r_iast hx hb hK hP hD hS 9 8 rfl rfl (i := (((((cN x) * 6) + (cN y)) * 12) + i)) (by omega) (by decide) d_M_fill_133 (fun H locs hP hD hS => ?_)
                    have hP : va_P D vwCl (Wm am gm sLen sKind sExt sMust rTab (va_up rFil (((cN x) * 6) + (cN y)) true) mNum (va_up rLen (((cN x) * 6) + (cN y)) held) (upd (cpI rItm pItm (if kdR sKind rTab x y = 4 then nI 127 else -1) ((cN x * 6 + cN y) * 12) i) (((((cN x) * 6) + (cN y)) * 12) + i) ((pItm i) &&& (nI 127))) made pItm held dByt dLen ver fAdr fTab adr tab lf 0 row mWr mWid mOv mPl mTh mSp mPile mNext mSh mShs mRea mWg mEn mDp mAt mTb mSt) H := hP
                    have hD : va_D A (Wm am gm sLen sKind sExt sMust rTab (va_up rFil (((cN x) * 6) + (cN y)) true) mNum (va_up rLen (((cN x) * 6) + (cN y)) held) (upd (cpI rItm pItm (if kdR sKind rTab x y = 4 then nI 127 else -1) ((cN x * 6 + cN y) * 12) i) (((((cN x) * 6) + (cN y)) * 12) + i) ((pItm i) &&& (nI 127))) made pItm held dByt dLen ver fAdr fTab adr tab lf 0 row mWr mWid mOv mPl mTh mSp mPile mNext mSh mShs mRea mWg mEn mDp mAt mTb mSt) := hD
                    refine lv_iinc (v := nI (i + 1)) (lv' := [(5, .int (nI (i + 1))), (4, .int (nI (((cN x) * 6) + (cN y)))), (3, .int (nI (sKind (rTab (cN x) * 6 + (cN y))))), (0, .ref (am 0)), (1, .int (nI (cN x))), (2, .int (nI (cN y)))]) hx hb d_M_fill_134 hl (k := 0) rfl (nI_1 _) (by decide) rfl (fun ls hl => ?_)
                    refine lv_goto (tgt := 87) hx hb d_M_fill_137 (by decide) ?_
                    have ec_rItm : upd (cpI rItm pItm (if kdR sKind rTab x y = 4 then nI 127 else -1) ((cN x * 6 + cN y) * 12) i) (((((cN x) * 6) + (cN y)) * 12) + i) ((pItm i) &&& (nI 127)) = cpI rItm pItm (if kdR sKind rTab x y = 4 then nI 127 else -1) ((cN x * 6 + cN y) * 12) (i + 1) := by first | exact (cpI_4 (kd := kdR sKind rTab x y) c_110).symm | exact (cpI_5 (kd := kdR sKind rTab x y) c_110 (hp _)).symm
                    have hP : va_P D vwCl (Wm am gm sLen sKind sExt sMust rTab (va_up rFil (((cN x) * 6) + (cN y)) true) mNum (va_up rLen (((cN x) * 6) + (cN y)) held) (cpI rItm pItm (if kdR sKind rTab x y = 4 then nI 127 else -1) ((cN x * 6 + cN y) * 12) (i + 1)) made pItm held dByt dLen ver fAdr fTab adr tab lf 0 row mWr mWid mOv mPl mTh mSp mPile mNext mSh mShs mRea mWg mEn mDp mAt mTb mSt) H := by rw [← ec_rItm]; exact hP
                    have hD : va_D A (Wm am gm sLen sKind sExt sMust rTab (va_up rFil (((cN x) * 6) + (cN y)) true) mNum (va_up rLen (((cN x) * 6) + (cN y)) held) (cpI rItm pItm (if kdR sKind rTab x y = 4 then nI 127 else -1) ((cN x * 6 + cN y) * 12) (i + 1)) made pItm held dByt dLen ver fAdr fTab adr tab lf 0 row mWr mWid mOv mPl mTh mSp mPile mNext mSh mShs mRea mWg mEn mDp mAt mTb mSt) := by rw [← ec_rItm]; exact hD
                    exact ih_87 (i + 1) (by omega) (by omega) _ _ _ hP hD hS (lv_sub hl [0, 1, 2, 3, 4, 5] rfl)
            exact L_87 ((held - 0) + 1) 0 (by omega) (by omega) _ _ _ hP hD hS (lv_sub hl [0, 1, 2, 3, 4, 5] rfl)
          · skip
            have c_48 := mt (nI_leI (by omega) (by omega)).mpr c_48
            have hcd : cdFill sLen sKind rTab made held x y = 2 := by rw [cdFill, if_pos hin, if_neg (show ¬ (kdR sKind rTab x y = 4 ∨ (kdR sKind rTab x y = 5 ∧ held ≤ 8)) by omega)]
            refine lv_aload_n hx hb d_M_fill_51 rfl (lv_at hl 1 rfl) ?_
            refine lv_iconst (v := nI 2) hx hb d_M_fill_52 (by decide) ?_
            refine k_callV (m_raise l D am gm tw sLen sKind sExt sMust rTab rFil mNum rLen rItm made pItm held dByt dLen ver fAdr fTab adr tab lf 0 row mWr mWid mOv mPl mTh mSp mPile mNext mSh mShs mRea mWg mEn mDp mAt mTb mSt 2  ) m_M_raise wd_4b1468e4 0 8 rfl rfl rfl kT hx hb hml hown hts ⟨Nat.le_of_ble_eq_true rfl, Nat.le_of_ble_eq_true rfl⟩ ⟨Nat.le_of_ble_eq_true rfl, Nat.le_of_ble_eq_true rfl⟩ hK hP hD hS hA hZ hl.1 rfl rfl (Nat.le_of_ble_eq_true rfl) d_M_fill_53 (fun H locs hP hD hS => ?_)
            have hP : va_P D vwCl (Wm am gm sLen sKind sExt sMust rTab rFil mNum rLen rItm made pItm held dByt dLen ver fAdr fTab adr tab lf 2 row mWr mWid mOv mPl mTh mSp mPile mNext mSh mShs mRea mWg mEn mDp mAt mTb mSt) H := hP
            have hD : va_D A (Wm am gm sLen sKind sExt sMust rTab rFil mNum rLen rItm made pItm held dByt dLen ver fAdr fTab adr tab lf 2 row mWr mWid mOv mPl mTh mSp mPile mNext mSh mShs mRea mWg mEn mDp mAt mTb mSt) := hD
            refine W.eq (g2 := F0 m 56 ls [.int (nI 0)]) rfl ?_
            exact k_iret hx hb hr hlocks hK hP hD hS (trivial) (by rw [hcd]; first | done | rfl) (by rw [hcd]; first | done | rfl) d_M_fill_56
  · skip
    have c_11 := mt (bI_0).mpr c_11
    have c_11 := eq_true_of_ne_false c_11
    have hcd : cdFill sLen sKind rTab made held x y = 1 := by rw [cdFill, if_neg (by simpa using c_11)]
    refine lv_aload_n hx hb d_M_fill_14 rfl (lv_at hl 0 rfl) ?_
    refine lv_iconst (v := nI 1) hx hb d_M_fill_15 (by decide) ?_
    refine k_callV (m_raise l D am gm tw sLen sKind sExt sMust rTab rFil mNum rLen rItm made pItm held dByt dLen ver fAdr fTab adr tab lf 0 row mWr mWid mOv mPl mTh mSp mPile mNext mSh mShs mRea mWg mEn mDp mAt mTb mSt 1  ) m_M_raise wd_4b1468e4 0 8 rfl rfl rfl kT hx hb hml hown hts ⟨Nat.le_of_ble_eq_true rfl, Nat.le_of_ble_eq_true rfl⟩ ⟨Nat.le_of_ble_eq_true rfl, Nat.le_of_ble_eq_true rfl⟩ hK hP hD hS hA hZ hl.1 rfl rfl (Nat.le_of_ble_eq_true rfl) d_M_fill_16 (fun H locs hP hD hS => ?_)
    have hP : va_P D vwCl (Wm am gm sLen sKind sExt sMust rTab rFil mNum rLen rItm made pItm held dByt dLen ver fAdr fTab adr tab lf 1 row mWr mWid mOv mPl mTh mSp mPile mNext mSh mShs mRea mWg mEn mDp mAt mTb mSt) H := hP
    have hD : va_D A (Wm am gm sLen sKind sExt sMust rTab rFil mNum rLen rItm made pItm held dByt dLen ver fAdr fTab adr tab lf 1 row mWr mWid mOv mPl mTh mSp mPile mNext mSh mShs mRea mWg mEn mDp mAt mTb mSt) := hD
    refine W.eq (g2 := F0 m 19 ls [.int (nI 0)]) rfl ?_
    exact k_iret hx hb hr hlocks hK hP hD hS (trivial) (by rw [hcd]; first | done | rfl) (by rw [hcd]; first | done | rfl) d_M_fill_19
set_option maxHeartbeats 4000000 in
set_option maxRecDepth 100000 in
theorem m_link (l : Launch) (D : va_G) (am : Nat → Nat) (gm : Nat → ClassId) (tw : Nat) (sLen sKind : Nat → Nat) (sExt : Nat → Int32) (sMust : Nat → Bool) (rTab : Nat → Nat) (rFil : Nat → Bool) (mNum : Nat → Int64) (rLen : Nat → Nat) (rItm : Nat → Int32) (made : Nat) (pItm : Nat → Int32) (held : Nat) (dByt : Nat → Nat) (dLen : Nat) (ver : Bool) (fAdr fTab adr tab : Nat) (lf : Int32) (mCode : Nat) (row : Nat → Nat) (mWr mWid : Nat) (mOv : Bool) (mPl mTh mSp mPile mNext mSh : Nat → Nat) (mShs : Nat) (mRea : Nat → Bool) (mWg : Int32) (mEn mDp : Nat) (mAt mTb mSt : Nat → Nat) (x : Int32) (y : Int32) (z : Int32)  (hm : made ≤ 16) (hT : ∀ r, rTab r < 4) (hL : ∀ t, sLen t ≤ 6) (hk : ∀ j, sKind j < 7) : kM l y_M_link b_M_link 4 (some .int) ({ frames := 2, cells := 0, slots := 0, locals := 43 }) D vwCl (WmT gm) tw [.ref (am 0), .int x, .int y, .int z] (Wm am gm sLen sKind sExt sMust rTab rFil mNum rLen rItm made pItm held dByt dLen ver fAdr fTab adr tab lf mCode row mWr mWid mOv mPl mTh mSp mPile mNext mSh mShs mRea mWg mEn mDp mAt mTb mSt) (some (.int (nI (if cdLink sLen sKind sExt rTab made x y z = 0 then 1 else 0)))) (Wm am gm sLen sKind sExt sMust rTab (if cdLink sLen sKind sExt rTab made x y z = 0 then va_up rFil (cN x * 6 + cN y) true else rFil) (if cdLink sLen sKind sExt rTab made x y z = 0 then vp_updL mNum (cN x * 6 + cN y) (nI (cN z)).toInt64 else mNum) rLen rItm made pItm held dByt dLen ver fAdr fTab adr tab lf (cdLink sLen sKind sExt rTab made x y z) row mWr mWid mOv mPl mTh mSp mPile mNext mSh mShs mRea mWg mEn mDp mAt mTb mSt) := by
  refine k_of (by decide) (Nat.le_of_ble_eq_true rfl) ?_
  intro p e s m below meth c A ls hx hb hr hlocks hml hts hown hin0 hA hP hK hD hS hZ hl
  have hl : lv_has ls 4 [(0, .ref (am 0)), (1, .int x), (2, .int y), (3, .int z)] := hl
  refine lv_aload_n hx hb d_M_link_0 rfl (lv_at hl 0 rfl) ?_
  refine lv_iconst (v := nI 0) hx hb d_M_link_1 (by decide) ?_
  refine va_put (D := D) (ci := 8) (ty := .int) (C := R_M) (T := T_M) (N := 39) hx hb hts (fun w h => kT w (i_M w h)) ty_M tyk_M nm_M hown hK hP hD hS 0 rfl rfl 0 (by decide) (hts _ (kT _ wd_8b8ffda9)) (fun _ h9 => h9) rfl (by decide +kernel) rfl rfl (Nat.le_of_ble_eq_true rfl) d_M_link_2 (fun H locs hP hD hS => ?_)
  have hP : va_P D vwCl (Wm am gm sLen sKind sExt sMust rTab rFil mNum rLen rItm made pItm held dByt dLen ver fAdr fTab adr tab lf 0 row mWr mWid mOv mPl mTh mSp mPile mNext mSh mShs mRea mWg mEn mDp mAt mTb mSt) H := hP
  have hD : va_D A (Wm am gm sLen sKind sExt sMust rTab rFil mNum rLen rItm made pItm held dByt dLen ver fAdr fTab adr tab lf 0 row mWr mWid mOv mPl mTh mSp mPile mNext mSh mShs mRea mWg mEn mDp mAt mTb mSt) := hD
  refine lv_aload_n hx hb d_M_link_5 rfl (lv_at hl 0 rfl) ?_
  refine lv_iload_n hx hb d_M_link_6 rfl (lv_at hl 1 rfl) ?_
  refine lv_iload_n hx hb d_M_link_7 rfl (lv_at hl 2 rfl) ?_
  refine k_callV (m_none l D am gm tw sLen sKind sExt sMust rTab rFil mNum rLen rItm made pItm held dByt dLen ver fAdr fTab adr tab lf 0 row mWr mWid mOv mPl mTh mSp mPile mNext mSh mShs mRea mWg mEn mDp mAt mTb mSt x y  hm hT hL) m_M_none wd_cf2b0413 0 8 rfl rfl rfl kT hx hb hml hown hts ⟨Nat.le_of_ble_eq_true rfl, Nat.le_of_ble_eq_true rfl⟩ ⟨Nat.le_of_ble_eq_true rfl, Nat.le_of_ble_eq_true rfl⟩ hK hP hD hS hA hZ hl.1 rfl rfl (Nat.le_of_ble_eq_true rfl) d_M_link_8 (fun H locs hP hD hS => ?_)
  have hP : va_P D vwCl (Wm am gm sLen sKind sExt sMust rTab rFil mNum rLen rItm made pItm held dByt dLen ver fAdr fTab adr tab lf 0 row mWr mWid mOv mPl mTh mSp mPile mNext mSh mShs mRea mWg mEn mDp mAt mTb mSt) H := hP
  have hD : va_D A (Wm am gm sLen sKind sExt sMust rTab rFil mNum rLen rItm made pItm held dByt dLen ver fAdr fTab adr tab lf 0 row mWr mWid mOv mPl mTh mSp mPile mNext mSh mShs mRea mWg mEn mDp mAt mTb mSt) := hD
  refine W.eq (g2 := F0 m 11 ls [.int (bI (!(inR sLen rTab made x y)))]) rfl ?_
  refine lv_if_ne (tgt := 27) hx hb d_M_link_11 (by decide) (fun c_11 => ?_) (fun c_11 => ?_)
  · skip
    have c_11 := mt (bI_0).mpr c_11
    have c_11 := eq_true_of_ne_false c_11
    have hcd : cdLink sLen sKind sExt rTab made x y z = 1 := by rw [cdLink, if_neg (fun z9 => by have h9 := z9.1; rw [h9] at c_11; cases c_11)]
    refine lv_aload_n hx hb d_M_link_27 rfl (lv_at hl 0 rfl) ?_
    refine lv_iconst (v := nI 1) hx hb d_M_link_28 (by decide) ?_
    refine k_callV (m_raise l D am gm tw sLen sKind sExt sMust rTab rFil mNum rLen rItm made pItm held dByt dLen ver fAdr fTab adr tab lf 0 row mWr mWid mOv mPl mTh mSp mPile mNext mSh mShs mRea mWg mEn mDp mAt mTb mSt 1  ) m_M_raise wd_4b1468e4 0 8 rfl rfl rfl kT hx hb hml hown hts ⟨Nat.le_of_ble_eq_true rfl, Nat.le_of_ble_eq_true rfl⟩ ⟨Nat.le_of_ble_eq_true rfl, Nat.le_of_ble_eq_true rfl⟩ hK hP hD hS hA hZ hl.1 rfl rfl (Nat.le_of_ble_eq_true rfl) d_M_link_29 (fun H locs hP hD hS => ?_)
    have hP : va_P D vwCl (Wm am gm sLen sKind sExt sMust rTab rFil mNum rLen rItm made pItm held dByt dLen ver fAdr fTab adr tab lf 1 row mWr mWid mOv mPl mTh mSp mPile mNext mSh mShs mRea mWg mEn mDp mAt mTb mSt) H := hP
    have hD : va_D A (Wm am gm sLen sKind sExt sMust rTab rFil mNum rLen rItm made pItm held dByt dLen ver fAdr fTab adr tab lf 1 row mWr mWid mOv mPl mTh mSp mPile mNext mSh mShs mRea mWg mEn mDp mAt mTb mSt) := hD
    refine W.eq (g2 := F0 m 32 ls [.int (nI 0)]) rfl ?_
    exact k_iret hx hb hr hlocks hK hP hD hS (trivial) (by rw [hcd]; first | done | rfl) (by rw [hcd]; first | done | rfl) d_M_link_32
  · skip
    have c_11 := (bI_0).mp c_11
    refine lv_iload_n hx hb d_M_link_14 rfl (lv_at hl 3 rfl) ?_
    refine lv_aload_n hx hb d_M_link_15 rfl (lv_at hl 0 rfl) ?_
    refine va_get (D := D) (ci := 8) (C := R_M) (T := T_M) (N := 39) hx hb hts (fun w h => kT w (i_M w h)) hown hK hP 0 rfl rfl 6 (by decide) (hts _ (kT _ wd_2434e5fd)) (fun _ h9 => h9) rfl d_M_link_16 ?_
    refine lv_iconst (v := nI 1) hx hb d_M_link_19 (by decide) ?_
    refine lv_isub hx hb d_M_link_20 ?_
    refine k_callS (m_out l D am gm tw sLen sKind sExt sMust rTab rFil mNum rLen rItm made pItm held dByt dLen ver fAdr fTab adr tab lf 0 row mWr mWid mOv mPl mTh mSp mPile mNext mSh mShs mRea mWg mEn mDp mAt mTb mSt z ((nI made) - (nI 1))  ) m_M_out wd_0c68f9ea kT hx hb hml hown hts ⟨Nat.le_of_ble_eq_true rfl, Nat.le_of_ble_eq_true rfl⟩ ⟨Nat.le_of_ble_eq_true rfl, Nat.le_of_ble_eq_true rfl⟩ hK hP hD hS hA hZ hl.1 rfl rfl (Nat.le_of_ble_eq_true rfl) d_M_link_21 (fun H locs hP hD hS => ?_)
    have hP : va_P D vwCl (Wm am gm sLen sKind sExt sMust rTab rFil mNum rLen rItm made pItm held dByt dLen ver fAdr fTab adr tab lf 0 row mWr mWid mOv mPl mTh mSp mPile mNext mSh mShs mRea mWg mEn mDp mAt mTb mSt) H := hP
    have hD : va_D A (Wm am gm sLen sKind sExt sMust rTab rFil mNum rLen rItm made pItm held dByt dLen ver fAdr fTab adr tab lf 0 row mWr mWid mOv mPl mTh mSp mPile mNext mSh mShs mRea mWg mEn mDp mAt mTb mSt) := hD
    refine W.eq (g2 := F0 m 24 ls [.int (bI (outB z ((nI made) - (nI 1))))]) rfl ?_
    refine lv_if_eq (tgt := 33) hx hb d_M_link_24 (by decide) (fun c_24 => ?_) (fun c_24 => ?_)
    · skip
      have c_24 := (bI_0).mp c_24
      have hin : inR sLen rTab made x y = true := by simpa using c_11
      obtain ⟨⟨n_x, b_x⟩, ⟨n_y, b_y⟩, hT1, hL1⟩ := inR_spec hm (fun r _ => hT r) (fun t _ => hL t) hin
      have hl : lv_has ls 4 [(0, .ref (am 0)), (1, .int (nI (cN x))), (2, .int y), (3, .int z)] := by rw [← n_x]; exact hl
      have hl : lv_has ls 4 [(0, .ref (am 0)), (1, .int (nI (cN x))), (2, .int (nI (cN y))), (3, .int z)] := by rw [← n_y]; exact hl
      have hkd : kdR sKind rTab x y = sKind (rTab (cN x) * 6 + cN y) := rfl
      have hk1 : sKind (rTab (cN x) * 6 + cN y) < 7 := hk _
      obtain ⟨n_z, b_z⟩ := hasF_spec (by omega) (out_y (by omega) c_24)
      have hl : lv_has ls 4 [(0, .ref (am 0)), (1, .int (nI (cN x))), (2, .int (nI (cN y))), (3, .int (nI (cN z)))] := by rw [← n_z]; exact hl
      have hTz := hT (cN z)
      refine lv_aload_n hx hb d_M_link_33 rfl (lv_at hl 0 rfl) ?_
      refine lv_iload_n hx hb d_M_link_34 rfl (lv_at hl 1 rfl) ?_
      refine lv_iload_n hx hb d_M_link_35 rfl (lv_at hl 2 rfl) ?_
      refine k_callV (m_kindOf l D am gm tw sLen sKind sExt sMust rTab rFil mNum rLen rItm made pItm held dByt dLen ver fAdr fTab adr tab lf 0 row mWr mWid mOv mPl mTh mSp mPile mNext mSh mShs mRea mWg mEn mDp mAt mTb mSt (cN x) (cN y)  (by omega) hT1 (by omega)) m_M_kindOf wd_58b6b8e7 0 8 rfl rfl rfl kT hx hb hml hown hts ⟨Nat.le_of_ble_eq_true rfl, Nat.le_of_ble_eq_true rfl⟩ ⟨Nat.le_of_ble_eq_true rfl, Nat.le_of_ble_eq_true rfl⟩ hK hP hD hS hA hZ hl.1 rfl rfl (Nat.le_of_ble_eq_true rfl) d_M_link_36 (fun H locs hP hD hS => ?_)
      have hP : va_P D vwCl (Wm am gm sLen sKind sExt sMust rTab rFil mNum rLen rItm made pItm held dByt dLen ver fAdr fTab adr tab lf 0 row mWr mWid mOv mPl mTh mSp mPile mNext mSh mShs mRea mWg mEn mDp mAt mTb mSt) H := hP
      have hD : va_D A (Wm am gm sLen sKind sExt sMust rTab rFil mNum rLen rItm made pItm held dByt dLen ver fAdr fTab adr tab lf 0 row mWr mWid mOv mPl mTh mSp mPile mNext mSh mShs mRea mWg mEn mDp mAt mTb mSt) := hD
      refine W.eq (g2 := F0 m 39 ls [.int (nI (sKind (rTab (cN x) * 6 + (cN y))))]) rfl ?_
      refine lv_bipush (v := nI 6) hx hb d_M_link_39 (by decide) ?_
      refine lv_icmp_ne (tgt := 74) hx hb d_M_link_41 (by decide) (fun c_41 => ?_) (fun c_41 => ?_)
      · skip
        have c_41 := mt (nI_eq (by omega) (by omega)).mpr c_41
        have hcd : cdLink sLen sKind sExt rTab made x y z = 2 := by rw [cdLink, if_pos ⟨hin, out_y (by omega) c_24⟩, if_neg (fun z9 => c_41 z9.1)]
        refine lv_aload_n hx hb d_M_link_74 rfl (lv_at hl 0 rfl) ?_
        refine lv_iconst (v := nI 2) hx hb d_M_link_75 (by decide) ?_
        refine k_callV (m_raise l D am gm tw sLen sKind sExt sMust rTab rFil mNum rLen rItm made pItm held dByt dLen ver fAdr fTab adr tab lf 0 row mWr mWid mOv mPl mTh mSp mPile mNext mSh mShs mRea mWg mEn mDp mAt mTb mSt 2  ) m_M_raise wd_4b1468e4 0 8 rfl rfl rfl kT hx hb hml hown hts ⟨Nat.le_of_ble_eq_true rfl, Nat.le_of_ble_eq_true rfl⟩ ⟨Nat.le_of_ble_eq_true rfl, Nat.le_of_ble_eq_true rfl⟩ hK hP hD hS hA hZ hl.1 rfl rfl (Nat.le_of_ble_eq_true rfl) d_M_link_76 (fun H locs hP hD hS => ?_)
        have hP : va_P D vwCl (Wm am gm sLen sKind sExt sMust rTab rFil mNum rLen rItm made pItm held dByt dLen ver fAdr fTab adr tab lf 2 row mWr mWid mOv mPl mTh mSp mPile mNext mSh mShs mRea mWg mEn mDp mAt mTb mSt) H := hP
        have hD : va_D A (Wm am gm sLen sKind sExt sMust rTab rFil mNum rLen rItm made pItm held dByt dLen ver fAdr fTab adr tab lf 2 row mWr mWid mOv mPl mTh mSp mPile mNext mSh mShs mRea mWg mEn mDp mAt mTb mSt) := hD
        refine W.eq (g2 := F0 m 79 ls [.int (nI 0)]) rfl ?_
        exact k_iret hx hb hr hlocks hK hP hD hS (trivial) (by rw [hcd]; first | done | rfl) (by rw [hcd]; first | done | rfl) d_M_link_79
      · skip
        have c_41 := (nI_eq (by omega) (by omega)).mp c_41
        refine lv_aload_n hx hb d_M_link_44 rfl (lv_at hl 0 rfl) ?_
        refine va_get (D := D) (ci := 8) (C := R_M) (T := T_M) (N := 39) hx hb hts (fun w h => kT w (i_M w h)) hown hK hP 0 rfl rfl 5 (by decide) (hts _ (kT _ wd_83fb424b)) (fun _ h9 => h9) rfl d_M_link_45 ?_
        refine lv_iload_n hx hb d_M_link_48 rfl (lv_at hl 3 rfl) ?_
        refine n_iald hx hb hK hP 5 4 rfl rfl (i := (cN z)) (by omega) (by decide) d_M_link_49 ?_
        refine lv_aload_n hx hb d_M_link_50 rfl (lv_at hl 0 rfl) ?_
        refine va_get (D := D) (ci := 8) (C := R_M) (T := T_M) (N := 39) hx hb hts (fun w h => kT w (i_M w h)) hown hK hP 0 rfl rfl 3 (by decide) (hts _ (kT _ wd_74a62eb0)) (fun _ h9 => h9) rfl d_M_link_51 ?_
        refine lv_bipush (v := nI 6) hx hb d_M_link_54 (by decide) ?_
        refine lv_aload_n hx hb d_M_link_56 rfl (lv_at hl 0 rfl) ?_
        refine va_get (D := D) (ci := 8) (C := R_M) (T := T_M) (N := 39) hx hb hts (fun w h => kT w (i_M w h)) hown hK hP 0 rfl rfl 5 (by decide) (hts _ (kT _ wd_83fb424b)) (fun _ h9 => h9) rfl d_M_link_57 ?_
        refine lv_iload_n hx hb d_M_link_60 rfl (lv_at hl 1 rfl) ?_
        refine n_iald hx hb hK hP 5 4 rfl rfl (i := (cN x)) (by omega) (by decide) d_M_link_61 ?_
        refine lv_imul hx hb d_M_link_62 ?_
        refine lv_eqi ((pk_mul _ _).trans (nI_congr (Nat.mul_comm _ _))) ?_
        refine lv_iload_n hx hb d_M_link_63 rfl (lv_at hl 2 rfl) ?_
        refine lv_iadd hx hb d_M_link_64 ?_
        refine lv_eqi (nI_add _ _) ?_
        refine r_iald hx hb hK hP 3 2 rfl rfl (i := (((rTab (cN x)) * 6) + (cN y))) (by omega) (by decide) d_M_link_65 ?_
        refine lv_icmp_ne (tgt := 74) hx hb d_M_link_66 (by decide) (fun c_66 => ?_) (fun c_66 => ?_)
        · skip
          have hcd : cdLink sLen sKind sExt rTab made x y z = 2 := by rw [cdLink, if_pos ⟨hin, out_y (by omega) c_24⟩, if_neg (fun z9 => c_66 z9.2.2)]
          refine lv_aload_n hx hb d_M_link_74 rfl (lv_at hl 0 rfl) ?_
          refine lv_iconst (v := nI 2) hx hb d_M_link_75 (by decide) ?_
          refine k_callV (m_raise l D am gm tw sLen sKind sExt sMust rTab rFil mNum rLen rItm made pItm held dByt dLen ver fAdr fTab adr tab lf 0 row mWr mWid mOv mPl mTh mSp mPile mNext mSh mShs mRea mWg mEn mDp mAt mTb mSt 2  ) m_M_raise wd_4b1468e4 0 8 rfl rfl rfl kT hx hb hml hown hts ⟨Nat.le_of_ble_eq_true rfl, Nat.le_of_ble_eq_true rfl⟩ ⟨Nat.le_of_ble_eq_true rfl, Nat.le_of_ble_eq_true rfl⟩ hK hP hD hS hA hZ hl.1 rfl rfl (Nat.le_of_ble_eq_true rfl) d_M_link_76 (fun H locs hP hD hS => ?_)
          have hP : va_P D vwCl (Wm am gm sLen sKind sExt sMust rTab rFil mNum rLen rItm made pItm held dByt dLen ver fAdr fTab adr tab lf 2 row mWr mWid mOv mPl mTh mSp mPile mNext mSh mShs mRea mWg mEn mDp mAt mTb mSt) H := hP
          have hD : va_D A (Wm am gm sLen sKind sExt sMust rTab rFil mNum rLen rItm made pItm held dByt dLen ver fAdr fTab adr tab lf 2 row mWr mWid mOv mPl mTh mSp mPile mNext mSh mShs mRea mWg mEn mDp mAt mTb mSt) := hD
          refine W.eq (g2 := F0 m 79 ls [.int (nI 0)]) rfl ?_
          exact k_iret hx hb hr hlocks hK hP hD hS (trivial) (by rw [hcd]; first | done | rfl) (by rw [hcd]; first | done | rfl) d_M_link_79
        · skip
          refine lv_iload_n hx hb d_M_link_69 rfl (lv_at hl 3 rfl) ?_
          refine lv_iload_n hx hb d_M_link_70 rfl (lv_at hl 1 rfl) ?_
          refine lv_icmp_lt (tgt := 80) hx hb d_M_link_71 (by decide) (fun c_71 => ?_) (fun c_71 => ?_)
          · skip
            have c_71 := (nI_ltI (by omega) (by omega)).mp c_71
            have hcd : cdLink sLen sKind sExt rTab made x y z = 0 := by rw [cdLink, if_pos ⟨hin, out_y (by omega) c_24⟩, if_pos ⟨c_41, c_71, c_66⟩]
            refine lv_aload_n hx hb d_M_link_80 rfl (lv_at hl 0 rfl) ?_
            refine va_get (D := D) (ci := 8) (C := R_M) (T := T_M) (N := 39) hx hb hts (fun w h => kT w (i_M w h)) hown hK hP 0 rfl rfl 7 (by decide) (hts _ (kT _ wd_44dadf3a)) (fun _ h9 => h9) rfl d_M_link_81 ?_
            refine lv_bipush (v := nI 6) hx hb d_M_link_84 (by decide) ?_
            refine lv_iload_n hx hb d_M_link_86 rfl (lv_at hl 1 rfl) ?_
            refine lv_imul hx hb d_M_link_87 ?_
            refine lv_eqi ((pk_mul _ _).trans (nI_congr (Nat.mul_comm _ _))) ?_
            refine lv_iload_n hx hb d_M_link_88 rfl (lv_at hl 2 rfl) ?_
            refine lv_iadd hx hb d_M_link_89 ?_
            refine lv_eqi (nI_add _ _) ?_
            refine lv_iconst (v := nI 1) hx hb d_M_link_90 (by decide) ?_
            refine lv_eqi (show nI 1 = bI true by decide) ?_
            refine z_zast hx hb hK hP hD hS 6 5 rfl rfl (i := (((cN x) * 6) + (cN y))) (by omega) (by decide) d_M_link_91 (fun H locs hP hD hS => ?_)
            have hP : va_P D vwCl (Wm am gm sLen sKind sExt sMust rTab (va_up rFil (((cN x) * 6) + (cN y)) true) mNum rLen rItm made pItm held dByt dLen ver fAdr fTab adr tab lf 0 row mWr mWid mOv mPl mTh mSp mPile mNext mSh mShs mRea mWg mEn mDp mAt mTb mSt) H := hP
            have hD : va_D A (Wm am gm sLen sKind sExt sMust rTab (va_up rFil (((cN x) * 6) + (cN y)) true) mNum rLen rItm made pItm held dByt dLen ver fAdr fTab adr tab lf 0 row mWr mWid mOv mPl mTh mSp mPile mNext mSh mShs mRea mWg mEn mDp mAt mTb mSt) := hD
            refine lv_aload_n hx hb d_M_link_92 rfl (lv_at hl 0 rfl) ?_
            refine va_get (D := D) (ci := 8) (C := R_M) (T := T_M) (N := 39) hx hb hts (fun w h => kT w (i_M w h)) hown hK hP 0 rfl rfl 8 (by decide) (hts _ (kT _ wd_9eb9f8e4)) (fun _ h9 => h9) rfl d_M_link_93 ?_
            refine lv_bipush (v := nI 6) hx hb d_M_link_96 (by decide) ?_
            refine lv_iload_n hx hb d_M_link_98 rfl (lv_at hl 1 rfl) ?_
            refine lv_imul hx hb d_M_link_99 ?_
            refine lv_eqi ((pk_mul _ _).trans (nI_congr (Nat.mul_comm _ _))) ?_
            refine lv_iload_n hx hb d_M_link_100 rfl (lv_at hl 2 rfl) ?_
            refine lv_iadd hx hb d_M_link_101 ?_
            refine lv_eqi (nI_add _ _) ?_
            refine lv_iload_n hx hb d_M_link_102 rfl (lv_at hl 3 rfl) ?_
            refine lv_i2l hx hb d_M_link_103 rfl ?_
            refine l_last hx hb hK hP hD hS 7 6 rfl rfl (i := (((cN x) * 6) + (cN y))) (by omega) (by decide) d_M_link_104 (fun H locs hP hD hS => ?_)
            have hP : va_P D vwCl (Wm am gm sLen sKind sExt sMust rTab (va_up rFil (((cN x) * 6) + (cN y)) true) (vp_updL mNum (((cN x) * 6) + (cN y)) ((nI (cN z)).toInt64)) rLen rItm made pItm held dByt dLen ver fAdr fTab adr tab lf 0 row mWr mWid mOv mPl mTh mSp mPile mNext mSh mShs mRea mWg mEn mDp mAt mTb mSt) H := hP
            have hD : va_D A (Wm am gm sLen sKind sExt sMust rTab (va_up rFil (((cN x) * 6) + (cN y)) true) (vp_updL mNum (((cN x) * 6) + (cN y)) ((nI (cN z)).toInt64)) rLen rItm made pItm held dByt dLen ver fAdr fTab adr tab lf 0 row mWr mWid mOv mPl mTh mSp mPile mNext mSh mShs mRea mWg mEn mDp mAt mTb mSt) := hD
            refine lv_iconst (v := nI 1) hx hb d_M_link_105 (by decide) ?_
            exact k_iret hx hb hr hlocks hK hP hD hS (trivial) (by rw [hcd]; first | done | rfl) (by rw [hcd]; first | done | rfl) d_M_link_106
          · skip
            have c_71 := mt (nI_ltI (by omega) (by omega)).mpr c_71
            have hcd : cdLink sLen sKind sExt rTab made x y z = 2 := by rw [cdLink, if_pos ⟨hin, out_y (by omega) c_24⟩, if_neg (fun z9 => c_71 z9.2.1)]
            refine lv_aload_n hx hb d_M_link_74 rfl (lv_at hl 0 rfl) ?_
            refine lv_iconst (v := nI 2) hx hb d_M_link_75 (by decide) ?_
            refine k_callV (m_raise l D am gm tw sLen sKind sExt sMust rTab rFil mNum rLen rItm made pItm held dByt dLen ver fAdr fTab adr tab lf 0 row mWr mWid mOv mPl mTh mSp mPile mNext mSh mShs mRea mWg mEn mDp mAt mTb mSt 2  ) m_M_raise wd_4b1468e4 0 8 rfl rfl rfl kT hx hb hml hown hts ⟨Nat.le_of_ble_eq_true rfl, Nat.le_of_ble_eq_true rfl⟩ ⟨Nat.le_of_ble_eq_true rfl, Nat.le_of_ble_eq_true rfl⟩ hK hP hD hS hA hZ hl.1 rfl rfl (Nat.le_of_ble_eq_true rfl) d_M_link_76 (fun H locs hP hD hS => ?_)
            have hP : va_P D vwCl (Wm am gm sLen sKind sExt sMust rTab rFil mNum rLen rItm made pItm held dByt dLen ver fAdr fTab adr tab lf 2 row mWr mWid mOv mPl mTh mSp mPile mNext mSh mShs mRea mWg mEn mDp mAt mTb mSt) H := hP
            have hD : va_D A (Wm am gm sLen sKind sExt sMust rTab rFil mNum rLen rItm made pItm held dByt dLen ver fAdr fTab adr tab lf 2 row mWr mWid mOv mPl mTh mSp mPile mNext mSh mShs mRea mWg mEn mDp mAt mTb mSt) := hD
            refine W.eq (g2 := F0 m 79 ls [.int (nI 0)]) rfl ?_
            exact k_iret hx hb hr hlocks hK hP hD hS (trivial) (by rw [hcd]; first | done | rfl) (by rw [hcd]; first | done | rfl) d_M_link_79
    · skip
      have c_24 := mt (bI_0).mpr c_24
      have c_24 := eq_true_of_ne_false c_24
      have hcd : cdLink sLen sKind sExt rTab made x y z = 1 := by rw [cdLink, if_neg (fun z9 => by have h9 := z9.2; rw [out_n (by omega) c_24] at h9; cases h9)]
      refine lv_aload_n hx hb d_M_link_27 rfl (lv_at hl 0 rfl) ?_
      refine lv_iconst (v := nI 1) hx hb d_M_link_28 (by decide) ?_
      refine k_callV (m_raise l D am gm tw sLen sKind sExt sMust rTab rFil mNum rLen rItm made pItm held dByt dLen ver fAdr fTab adr tab lf 0 row mWr mWid mOv mPl mTh mSp mPile mNext mSh mShs mRea mWg mEn mDp mAt mTb mSt 1  ) m_M_raise wd_4b1468e4 0 8 rfl rfl rfl kT hx hb hml hown hts ⟨Nat.le_of_ble_eq_true rfl, Nat.le_of_ble_eq_true rfl⟩ ⟨Nat.le_of_ble_eq_true rfl, Nat.le_of_ble_eq_true rfl⟩ hK hP hD hS hA hZ hl.1 rfl rfl (Nat.le_of_ble_eq_true rfl) d_M_link_29 (fun H locs hP hD hS => ?_)
      have hP : va_P D vwCl (Wm am gm sLen sKind sExt sMust rTab rFil mNum rLen rItm made pItm held dByt dLen ver fAdr fTab adr tab lf 1 row mWr mWid mOv mPl mTh mSp mPile mNext mSh mShs mRea mWg mEn mDp mAt mTb mSt) H := hP
      have hD : va_D A (Wm am gm sLen sKind sExt sMust rTab rFil mNum rLen rItm made pItm held dByt dLen ver fAdr fTab adr tab lf 1 row mWr mWid mOv mPl mTh mSp mPile mNext mSh mShs mRea mWg mEn mDp mAt mTb mSt) := hD
      refine W.eq (g2 := F0 m 32 ls [.int (nI 0)]) rfl ?_
      exact k_iret hx hb hr hlocks hK hP hD hS (trivial) (by rw [hcd]; first | done | rfl) (by rw [hcd]; first | done | rfl) d_M_link_32
set_option maxHeartbeats 4000000 in
set_option maxRecDepth 100000 in
theorem m_unset (l : Launch) (D : va_G) (am : Nat → Nat) (gm : Nat → ClassId) (tw : Nat) (sLen sKind : Nat → Nat) (sExt : Nat → Int32) (sMust : Nat → Bool) (rTab : Nat → Nat) (rFil : Nat → Bool) (mNum : Nat → Int64) (rLen : Nat → Nat) (rItm : Nat → Int32) (made : Nat) (pItm : Nat → Int32) (held : Nat) (dByt : Nat → Nat) (dLen : Nat) (ver : Bool) (fAdr fTab adr tab : Nat) (lf : Int32) (mCode : Nat) (row : Nat → Nat) (mWr mWid : Nat) (mOv : Bool) (mPl mTh mSp mPile mNext mSh : Nat → Nat) (mShs : Nat) (mRea : Nat → Bool) (mWg : Int32) (mEn mDp : Nat) (mAt mTb mSt : Nat → Nat) (x : Int32) (y : Int32)  (hm : made ≤ 16) (hT : ∀ r, rTab r < 4) (hL : ∀ t, sLen t ≤ 6) : kM l y_M_unset b_M_unset 4 (some .int) ({ frames := 2, cells := 0, slots := 0, locals := 43 }) D vwCl (WmT gm) tw [.ref (am 0), .int x, .int y] (Wm am gm sLen sKind sExt sMust rTab rFil mNum rLen rItm made pItm held dByt dLen ver fAdr fTab adr tab lf mCode row mWr mWid mOv mPl mTh mSp mPile mNext mSh mShs mRea mWg mEn mDp mAt mTb mSt) (some (.int (if cdUnset sLen rTab made x y = 0 then bI (rFil (cN x * 6 + cN y)) else 0))) (Wm am gm sLen sKind sExt sMust rTab (if cdUnset sLen rTab made x y = 0 then va_up rFil (cN x * 6 + cN y) false else rFil) mNum rLen rItm made pItm held dByt dLen ver fAdr fTab adr tab lf (cdUnset sLen rTab made x y) row mWr mWid mOv mPl mTh mSp mPile mNext mSh mShs mRea mWg mEn mDp mAt mTb mSt) := by
  refine k_of (by decide) (Nat.le_of_ble_eq_true rfl) ?_
  intro p e s m below meth c A ls hx hb hr hlocks hml hts hown hin0 hA hP hK hD hS hZ hl
  have hl : lv_has ls 4 [(0, .ref (am 0)), (1, .int x), (2, .int y)] := hl
  refine lv_aload_n hx hb d_M_unset_0 rfl (lv_at hl 0 rfl) ?_
  refine lv_iconst (v := nI 0) hx hb d_M_unset_1 (by decide) ?_
  refine va_put (D := D) (ci := 8) (ty := .int) (C := R_M) (T := T_M) (N := 39) hx hb hts (fun w h => kT w (i_M w h)) ty_M tyk_M nm_M hown hK hP hD hS 0 rfl rfl 0 (by decide) (hts _ (kT _ wd_8b8ffda9)) (fun _ h9 => h9) rfl (by decide +kernel) rfl rfl (Nat.le_of_ble_eq_true rfl) d_M_unset_2 (fun H locs hP hD hS => ?_)
  have hP : va_P D vwCl (Wm am gm sLen sKind sExt sMust rTab rFil mNum rLen rItm made pItm held dByt dLen ver fAdr fTab adr tab lf 0 row mWr mWid mOv mPl mTh mSp mPile mNext mSh mShs mRea mWg mEn mDp mAt mTb mSt) H := hP
  have hD : va_D A (Wm am gm sLen sKind sExt sMust rTab rFil mNum rLen rItm made pItm held dByt dLen ver fAdr fTab adr tab lf 0 row mWr mWid mOv mPl mTh mSp mPile mNext mSh mShs mRea mWg mEn mDp mAt mTb mSt) := hD
  refine lv_aload_n hx hb d_M_unset_5 rfl (lv_at hl 0 rfl) ?_
  refine lv_iload_n hx hb d_M_unset_6 rfl (lv_at hl 1 rfl) ?_
  refine lv_iload_n hx hb d_M_unset_7 rfl (lv_at hl 2 rfl) ?_
  refine k_callV (m_none l D am gm tw sLen sKind sExt sMust rTab rFil mNum rLen rItm made pItm held dByt dLen ver fAdr fTab adr tab lf 0 row mWr mWid mOv mPl mTh mSp mPile mNext mSh mShs mRea mWg mEn mDp mAt mTb mSt x y  hm hT hL) m_M_none wd_cf2b0413 0 8 rfl rfl rfl kT hx hb hml hown hts ⟨Nat.le_of_ble_eq_true rfl, Nat.le_of_ble_eq_true rfl⟩ ⟨Nat.le_of_ble_eq_true rfl, Nat.le_of_ble_eq_true rfl⟩ hK hP hD hS hA hZ hl.1 rfl rfl (Nat.le_of_ble_eq_true rfl) d_M_unset_8 (fun H locs hP hD hS => ?_)
  have hP : va_P D vwCl (Wm am gm sLen sKind sExt sMust rTab rFil mNum rLen rItm made pItm held dByt dLen ver fAdr fTab adr tab lf 0 row mWr mWid mOv mPl mTh mSp mPile mNext mSh mShs mRea mWg mEn mDp mAt mTb mSt) H := hP
  have hD : va_D A (Wm am gm sLen sKind sExt sMust rTab rFil mNum rLen rItm made pItm held dByt dLen ver fAdr fTab adr tab lf 0 row mWr mWid mOv mPl mTh mSp mPile mNext mSh mShs mRea mWg mEn mDp mAt mTb mSt) := hD
  refine W.eq (g2 := F0 m 11 ls [.int (bI (!(inR sLen rTab made x y)))]) rfl ?_
  refine lv_if_eq (tgt := 20) hx hb d_M_unset_11 (by decide) (fun c_11 => ?_) (fun c_11 => ?_)
  · skip
    have c_11 := (bI_0).mp c_11
    have hin : inR sLen rTab made x y = true := by simpa using c_11
    obtain ⟨⟨n_x, b_x⟩, ⟨n_y, b_y⟩, hT1, hL1⟩ := inR_spec hm (fun r _ => hT r) (fun t _ => hL t) hin
    have hl : lv_has ls 4 [(0, .ref (am 0)), (1, .int (nI (cN x))), (2, .int y)] := by rw [← n_x]; exact hl
    have hl : lv_has ls 4 [(0, .ref (am 0)), (1, .int (nI (cN x))), (2, .int (nI (cN y)))] := by rw [← n_y]; exact hl
    have hkd : kdR sKind rTab x y = sKind (rTab (cN x) * 6 + cN y) := rfl
    have hcd : cdUnset sLen rTab made x y = 0 := by rw [cdUnset, if_pos hin]
    refine lv_aload_n hx hb d_M_unset_20 rfl (lv_at hl 0 rfl) ?_
    refine va_get (D := D) (ci := 8) (C := R_M) (T := T_M) (N := 39) hx hb hts (fun w h => kT w (i_M w h)) hown hK hP 0 rfl rfl 7 (by decide) (hts _ (kT _ wd_44dadf3a)) (fun _ h9 => h9) rfl d_M_unset_21 ?_
    refine lv_bipush (v := nI 6) hx hb d_M_unset_24 (by decide) ?_
    refine lv_iload_n hx hb d_M_unset_26 rfl (lv_at hl 1 rfl) ?_
    refine lv_imul hx hb d_M_unset_27 ?_
    refine lv_eqi ((pk_mul _ _).trans (nI_congr (Nat.mul_comm _ _))) ?_
    refine lv_iload_n hx hb d_M_unset_28 rfl (lv_at hl 2 rfl) ?_
    refine lv_iadd hx hb d_M_unset_29 ?_
    refine lv_eqi (nI_add _ _) ?_
    refine z_zald hx hb hK hP 6 5 rfl rfl (i := (((cN x) * 6) + (cN y))) (by omega) (by decide) d_M_unset_30 ?_
    refine lv_if_eq (tgt := 38) hx hb d_M_unset_31 (by decide) (fun c_31 => ?_) (fun c_31 => ?_)
    · skip
      have c_31 := (bI_0).mp c_31
      refine lv_iconst (v := nI 0) hx hb d_M_unset_38 (by decide) ?_
      refine lv_istore_n (lv' := [(3, .int (nI 0)), (0, .ref (am 0)), (1, .int (nI (cN x))), (2, .int (nI (cN y)))]) hx hb d_M_unset_39 rfl hl (by decide) rfl (fun ls hl => ?_)
      refine lv_aload_n hx hb d_M_unset_40 rfl (lv_at hl 1 rfl) ?_
      refine va_get (D := D) (ci := 8) (C := R_M) (T := T_M) (N := 39) hx hb hts (fun w h => kT w (i_M w h)) hown hK hP 0 rfl rfl 7 (by decide) (hts _ (kT _ wd_44dadf3a)) (fun _ h9 => h9) rfl d_M_unset_41 ?_
      refine lv_bipush (v := nI 6) hx hb d_M_unset_44 (by decide) ?_
      refine lv_iload_n hx hb d_M_unset_46 rfl (lv_at hl 2 rfl) ?_
      refine lv_imul hx hb d_M_unset_47 ?_
      refine lv_eqi ((pk_mul _ _).trans (nI_congr (Nat.mul_comm _ _))) ?_
      refine lv_iload_n hx hb d_M_unset_48 rfl (lv_at hl 3 rfl) ?_
      refine lv_iadd hx hb d_M_unset_49 ?_
      refine lv_eqi (nI_add _ _) ?_
      refine lv_iconst (v := nI 0) hx hb d_M_unset_50 (by decide) ?_
      refine lv_eqi (show nI 0 = bI false by decide) ?_
      refine z_zast hx hb hK hP hD hS 6 5 rfl rfl (i := (((cN x) * 6) + (cN y))) (by omega) (by decide) d_M_unset_51 (fun H locs hP hD hS => ?_)
      have hP : va_P D vwCl (Wm am gm sLen sKind sExt sMust rTab (va_up rFil (((cN x) * 6) + (cN y)) false) mNum rLen rItm made pItm held dByt dLen ver fAdr fTab adr tab lf 0 row mWr mWid mOv mPl mTh mSp mPile mNext mSh mShs mRea mWg mEn mDp mAt mTb mSt) H := hP
      have hD : va_D A (Wm am gm sLen sKind sExt sMust rTab (va_up rFil (((cN x) * 6) + (cN y)) false) mNum rLen rItm made pItm held dByt dLen ver fAdr fTab adr tab lf 0 row mWr mWid mOv mPl mTh mSp mPile mNext mSh mShs mRea mWg mEn mDp mAt mTb mSt) := hD
      refine lv_iload_n hx hb d_M_unset_52 rfl (lv_at hl 0 rfl) ?_
      exact k_iret hx hb hr hlocks hK hP hD hS (trivial) (by rw [hcd, if_pos rfl, c_31]; rfl) (by rw [hcd]; first | done | rfl) d_M_unset_53
    · skip
      have c_31 := mt (bI_0).mpr c_31
      have c_31 := eq_true_of_ne_false c_31
      refine lv_iconst (v := nI 1) hx hb d_M_unset_34 (by decide) ?_
      refine lv_goto (tgt := 39) hx hb d_M_unset_35 (by decide) ?_
      refine lv_istore_n (lv' := [(3, .int (nI 1)), (0, .ref (am 0)), (1, .int (nI (cN x))), (2, .int (nI (cN y)))]) hx hb d_M_unset_39 rfl hl (by decide) rfl (fun ls hl => ?_)
      refine lv_aload_n hx hb d_M_unset_40 rfl (lv_at hl 1 rfl) ?_
      refine va_get (D := D) (ci := 8) (C := R_M) (T := T_M) (N := 39) hx hb hts (fun w h => kT w (i_M w h)) hown hK hP 0 rfl rfl 7 (by decide) (hts _ (kT _ wd_44dadf3a)) (fun _ h9 => h9) rfl d_M_unset_41 ?_
      refine lv_bipush (v := nI 6) hx hb d_M_unset_44 (by decide) ?_
      refine lv_iload_n hx hb d_M_unset_46 rfl (lv_at hl 2 rfl) ?_
      refine lv_imul hx hb d_M_unset_47 ?_
      refine lv_eqi ((pk_mul _ _).trans (nI_congr (Nat.mul_comm _ _))) ?_
      refine lv_iload_n hx hb d_M_unset_48 rfl (lv_at hl 3 rfl) ?_
      refine lv_iadd hx hb d_M_unset_49 ?_
      refine lv_eqi (nI_add _ _) ?_
      refine lv_iconst (v := nI 0) hx hb d_M_unset_50 (by decide) ?_
      refine lv_eqi (show nI 0 = bI false by decide) ?_
      refine z_zast hx hb hK hP hD hS 6 5 rfl rfl (i := (((cN x) * 6) + (cN y))) (by omega) (by decide) d_M_unset_51 (fun H locs hP hD hS => ?_)
      have hP : va_P D vwCl (Wm am gm sLen sKind sExt sMust rTab (va_up rFil (((cN x) * 6) + (cN y)) false) mNum rLen rItm made pItm held dByt dLen ver fAdr fTab adr tab lf 0 row mWr mWid mOv mPl mTh mSp mPile mNext mSh mShs mRea mWg mEn mDp mAt mTb mSt) H := hP
      have hD : va_D A (Wm am gm sLen sKind sExt sMust rTab (va_up rFil (((cN x) * 6) + (cN y)) false) mNum rLen rItm made pItm held dByt dLen ver fAdr fTab adr tab lf 0 row mWr mWid mOv mPl mTh mSp mPile mNext mSh mShs mRea mWg mEn mDp mAt mTb mSt) := hD
      refine lv_iload_n hx hb d_M_unset_52 rfl (lv_at hl 0 rfl) ?_
      exact k_iret hx hb hr hlocks hK hP hD hS (trivial) (by rw [hcd, if_pos rfl, c_31]; rfl) (by rw [hcd]; first | done | rfl) d_M_unset_53
  · skip
    have c_11 := mt (bI_0).mpr c_11
    have c_11 := eq_true_of_ne_false c_11
    have hcd : cdUnset sLen rTab made x y = 1 := by rw [cdUnset, if_neg (by simpa using c_11)]
    refine lv_aload_n hx hb d_M_unset_14 rfl (lv_at hl 0 rfl) ?_
    refine lv_iconst (v := nI 1) hx hb d_M_unset_15 (by decide) ?_
    refine k_callV (m_raise l D am gm tw sLen sKind sExt sMust rTab rFil mNum rLen rItm made pItm held dByt dLen ver fAdr fTab adr tab lf 0 row mWr mWid mOv mPl mTh mSp mPile mNext mSh mShs mRea mWg mEn mDp mAt mTb mSt 1  ) m_M_raise wd_4b1468e4 0 8 rfl rfl rfl kT hx hb hml hown hts ⟨Nat.le_of_ble_eq_true rfl, Nat.le_of_ble_eq_true rfl⟩ ⟨Nat.le_of_ble_eq_true rfl, Nat.le_of_ble_eq_true rfl⟩ hK hP hD hS hA hZ hl.1 rfl rfl (Nat.le_of_ble_eq_true rfl) d_M_unset_16 (fun H locs hP hD hS => ?_)
    have hP : va_P D vwCl (Wm am gm sLen sKind sExt sMust rTab rFil mNum rLen rItm made pItm held dByt dLen ver fAdr fTab adr tab lf 1 row mWr mWid mOv mPl mTh mSp mPile mNext mSh mShs mRea mWg mEn mDp mAt mTb mSt) H := hP
    have hD : va_D A (Wm am gm sLen sKind sExt sMust rTab rFil mNum rLen rItm made pItm held dByt dLen ver fAdr fTab adr tab lf 1 row mWr mWid mOv mPl mTh mSp mPile mNext mSh mShs mRea mWg mEn mDp mAt mTb mSt) := hD
    refine W.eq (g2 := F0 m 19 ls [.int (nI 0)]) rfl ?_
    exact k_iret hx hb hr hlocks hK hP hD hS (trivial) (by rw [hcd]; first | done | rfl) (by rw [hcd]; first | done | rfl) d_M_unset_19
set_option maxHeartbeats 4000000 in
set_option maxRecDepth 100000 in
theorem m_at (l : Launch) (D : va_G) (am : Nat → Nat) (gm : Nat → ClassId) (tw : Nat) (sLen sKind : Nat → Nat) (sExt : Nat → Int32) (sMust : Nat → Bool) (rTab : Nat → Nat) (rFil : Nat → Bool) (mNum : Nat → Int64) (rLen : Nat → Nat) (rItm : Nat → Int32) (made : Nat) (pItm : Nat → Int32) (held : Nat) (dByt : Nat → Nat) (dLen : Nat) (ver : Bool) (fAdr fTab adr tab : Nat) (lf : Int32) (mCode : Nat) (row : Nat → Nat) (mWr mWid : Nat) (mOv : Bool) (mPl mTh mSp mPile mNext mSh : Nat → Nat) (mShs : Nat) (mRea : Nat → Bool) (mWg : Int32) (mEn mDp : Nat) (mAt mTb mSt : Nat → Nat) (x : Int32)  (hB : ∀ k, dByt k < 256) (hd : dLen ≤ 240) : kM l y_M_at b_M_at 2 (some .int) ({ frames := 1, cells := 0, slots := 0, locals := 21 }) D vwCl (WmT gm) tw [.ref (am 0), .int x] (Wm am gm sLen sKind sExt sMust rTab rFil mNum rLen rItm made pItm held dByt dLen ver fAdr fTab adr tab lf mCode row mWr mWid mOv mPl mTh mSp mPile mNext mSh mShs mRea mWg mEn mDp mAt mTb mSt) (some (.int (nI (if cdAt dLen x = 0 then leN dByt dLen x 1 else 0)))) (Wm am gm sLen sKind sExt sMust rTab rFil mNum rLen rItm made pItm held dByt dLen ver fAdr fTab adr tab lf (cdAt dLen x) row mWr mWid mOv mPl mTh mSp mPile mNext mSh mShs mRea mWg mEn mDp mAt mTb mSt) := by
  refine k_of (by decide) (Nat.le_of_ble_eq_true rfl) ?_
  intro p e s m below meth c A ls hx hb hr hlocks hml hts hown hin0 hA hP hK hD hS hZ hl
  have hl : lv_has ls 2 [(0, .ref (am 0)), (1, .int x)] := hl
  refine lv_aload_n hx hb d_M_at_0 rfl (lv_at hl 0 rfl) ?_
  refine lv_iconst (v := nI 0) hx hb d_M_at_1 (by decide) ?_
  refine va_put (D := D) (ci := 8) (ty := .int) (C := R_M) (T := T_M) (N := 39) hx hb hts (fun w h => kT w (i_M w h)) ty_M tyk_M nm_M hown hK hP hD hS 0 rfl rfl 0 (by decide) (hts _ (kT _ wd_8b8ffda9)) (fun _ h9 => h9) rfl (by decide +kernel) rfl rfl (Nat.le_of_ble_eq_true rfl) d_M_at_2 (fun H locs hP hD hS => ?_)
  have hP : va_P D vwCl (Wm am gm sLen sKind sExt sMust rTab rFil mNum rLen rItm made pItm held dByt dLen ver fAdr fTab adr tab lf 0 row mWr mWid mOv mPl mTh mSp mPile mNext mSh mShs mRea mWg mEn mDp mAt mTb mSt) H := hP
  have hD : va_D A (Wm am gm sLen sKind sExt sMust rTab rFil mNum rLen rItm made pItm held dByt dLen ver fAdr fTab adr tab lf 0 row mWr mWid mOv mPl mTh mSp mPile mNext mSh mShs mRea mWg mEn mDp mAt mTb mSt) := hD
  refine lv_iload_n hx hb d_M_at_5 rfl (lv_at hl 1 rfl) ?_
  refine lv_aload_n hx hb d_M_at_6 rfl (lv_at hl 0 rfl) ?_
  refine va_get (D := D) (ci := 8) (C := R_M) (T := T_M) (N := 39) hx hb hts (fun w h => kT w (i_M w h)) hown hK hP 0 rfl rfl 26 (by decide) (hts _ (kT _ wd_3139de6a)) (fun _ h9 => h9) rfl d_M_at_7 ?_
  refine lv_iconst (v := nI 1) hx hb d_M_at_10 (by decide) ?_
  refine lv_isub hx hb d_M_at_11 ?_
  refine k_callS (m_out l D am gm tw sLen sKind sExt sMust rTab rFil mNum rLen rItm made pItm held dByt dLen ver fAdr fTab adr tab lf 0 row mWr mWid mOv mPl mTh mSp mPile mNext mSh mShs mRea mWg mEn mDp mAt mTb mSt x ((nI dLen) - (nI 1))  ) m_M_out wd_0c68f9ea kT hx hb hml hown hts ⟨Nat.le_of_ble_eq_true rfl, Nat.le_of_ble_eq_true rfl⟩ ⟨Nat.le_of_ble_eq_true rfl, Nat.le_of_ble_eq_true rfl⟩ hK hP hD hS hA hZ hl.1 rfl rfl (Nat.le_of_ble_eq_true rfl) d_M_at_12 (fun H locs hP hD hS => ?_)
  have hP : va_P D vwCl (Wm am gm sLen sKind sExt sMust rTab rFil mNum rLen rItm made pItm held dByt dLen ver fAdr fTab adr tab lf 0 row mWr mWid mOv mPl mTh mSp mPile mNext mSh mShs mRea mWg mEn mDp mAt mTb mSt) H := hP
  have hD : va_D A (Wm am gm sLen sKind sExt sMust rTab rFil mNum rLen rItm made pItm held dByt dLen ver fAdr fTab adr tab lf 0 row mWr mWid mOv mPl mTh mSp mPile mNext mSh mShs mRea mWg mEn mDp mAt mTb mSt) := hD
  refine W.eq (g2 := F0 m 15 ls [.int (bI (outB x ((nI dLen) - (nI 1))))]) rfl ?_
  refine lv_if_eq (tgt := 26) hx hb d_M_at_15 (by decide) (fun c_15 => ?_) (fun c_15 => ?_)
  · skip
    have c_15 := (bI_0).mp c_15
    have hcd : cdAt dLen x = 0 := by rw [cdAt, if_pos (out_y (by omega) c_15)]
    obtain ⟨n_x, b_x⟩ := hasF_spec (by omega) (out_y (by omega) c_15)
    have hl : lv_has ls 2 [(0, .ref (am 0)), (1, .int (nI (cN x)))] := by rw [← n_x]; exact hl
    refine lv_aload_n hx hb d_M_at_26 rfl (lv_at hl 0 rfl) ?_
    refine va_get (D := D) (ci := 8) (C := R_M) (T := T_M) (N := 39) hx hb hts (fun w h => kT w (i_M w h)) hown hK hP 0 rfl rfl 25 (by decide) (hts _ (kT _ wd_2dbf250b)) (fun _ h9 => h9) rfl d_M_at_27 ?_
    refine lv_iload_n hx hb d_M_at_30 rfl (lv_at hl 1 rfl) ?_
    refine n_iald hx hb hK hP 19 18 rfl rfl (i := (cN x)) (by omega) (by decide) d_M_at_31 ?_
    exact k_iret hx hb hr hlocks hK hP hD hS (trivial) (by rw [hcd, if_pos rfl, le1 (out_y (by omega) c_15)]) (by rw [hcd]; first | done | rfl) d_M_at_32
  · skip
    have c_15 := mt (bI_0).mpr c_15
    have c_15 := eq_true_of_ne_false c_15
    have hcd : cdAt dLen x = 1 := by rw [cdAt, if_neg (by simp [out_n (n := dLen) (by omega) c_15])]
    refine lv_aload_n hx hb d_M_at_18 rfl (lv_at hl 0 rfl) ?_
    refine lv_iconst (v := nI 1) hx hb d_M_at_19 (by decide) ?_
    refine k_callV (m_raise l D am gm tw sLen sKind sExt sMust rTab rFil mNum rLen rItm made pItm held dByt dLen ver fAdr fTab adr tab lf 0 row mWr mWid mOv mPl mTh mSp mPile mNext mSh mShs mRea mWg mEn mDp mAt mTb mSt 1  ) m_M_raise wd_4b1468e4 0 8 rfl rfl rfl kT hx hb hml hown hts ⟨Nat.le_of_ble_eq_true rfl, Nat.le_of_ble_eq_true rfl⟩ ⟨Nat.le_of_ble_eq_true rfl, Nat.le_of_ble_eq_true rfl⟩ hK hP hD hS hA hZ hl.1 rfl rfl (Nat.le_of_ble_eq_true rfl) d_M_at_20 (fun H locs hP hD hS => ?_)
    have hP : va_P D vwCl (Wm am gm sLen sKind sExt sMust rTab rFil mNum rLen rItm made pItm held dByt dLen ver fAdr fTab adr tab lf 1 row mWr mWid mOv mPl mTh mSp mPile mNext mSh mShs mRea mWg mEn mDp mAt mTb mSt) H := hP
    have hD : va_D A (Wm am gm sLen sKind sExt sMust rTab rFil mNum rLen rItm made pItm held dByt dLen ver fAdr fTab adr tab lf 1 row mWr mWid mOv mPl mTh mSp mPile mNext mSh mShs mRea mWg mEn mDp mAt mTb mSt) := hD
    refine W.eq (g2 := F0 m 23 ls [.int (nI 0)]) rfl ?_
    refine lv_goto (tgt := 32) hx hb d_M_at_23 (by decide) ?_
    exact k_iret hx hb hr hlocks hK hP hD hS (trivial) (by rw [hcd]; first | done | rfl) (by rw [hcd]; first | done | rfl) d_M_at_32
set_option maxHeartbeats 4000000 in
set_option maxRecDepth 100000 in
theorem m_patch (l : Launch) (D : va_G) (am : Nat → Nat) (gm : Nat → ClassId) (tw : Nat) (sLen sKind : Nat → Nat) (sExt : Nat → Int32) (sMust : Nat → Bool) (rTab : Nat → Nat) (rFil : Nat → Bool) (mNum : Nat → Int64) (rLen : Nat → Nat) (rItm : Nat → Int32) (made : Nat) (pItm : Nat → Int32) (held : Nat) (dByt : Nat → Nat) (dLen : Nat) (ver : Bool) (fAdr fTab adr tab : Nat) (lf : Int32) (mCode : Nat) (row : Nat → Nat) (mWr mWid : Nat) (mOv : Bool) (mPl mTh mSp mPile mNext mSh : Nat → Nat) (mShs : Nat) (mRea : Nat → Bool) (mWg : Int32) (mEn mDp : Nat) (mAt mTb mSt : Nat → Nat) (x : Int32) (v : Int32)  (hB : ∀ k, dByt k < 256) (hd : dLen ≤ 240) : kM l y_M_patch b_M_patch 4 (some .int) ({ frames := 1, cells := 0, slots := 0, locals := 21 }) D vwCl (WmT gm) tw [.ref (am 0), .int x, .int v] (Wm am gm sLen sKind sExt sMust rTab rFil mNum rLen rItm made pItm held dByt dLen ver fAdr fTab adr tab lf mCode row mWr mWid mOv mPl mTh mSp mPile mNext mSh mShs mRea mWg mEn mDp mAt mTb mSt) (some (.int (nI (if cdAt dLen x = 0 then leN dByt dLen x 1 else 0)))) (Wm am gm sLen sKind sExt sMust rTab rFil mNum rLen rItm made pItm held (if cdAt dLen x = 0 then va_up dByt (cN x) (u8 v) else dByt) dLen (if cdAt dLen x = 0 then false else ver) fAdr fTab adr tab lf (cdAt dLen x) row mWr mWid mOv mPl mTh mSp mPile mNext mSh mShs mRea mWg mEn mDp mAt mTb mSt) := by
  refine k_of (by decide) (Nat.le_of_ble_eq_true rfl) ?_
  intro p e s m below meth c A ls hx hb hr hlocks hml hts hown hin0 hA hP hK hD hS hZ hl
  have hl : lv_has ls 4 [(0, .ref (am 0)), (1, .int x), (2, .int v)] := hl
  refine lv_aload_n hx hb d_M_patch_0 rfl (lv_at hl 0 rfl) ?_
  refine lv_iconst (v := nI 0) hx hb d_M_patch_1 (by decide) ?_
  refine va_put (D := D) (ci := 8) (ty := .int) (C := R_M) (T := T_M) (N := 39) hx hb hts (fun w h => kT w (i_M w h)) ty_M tyk_M nm_M hown hK hP hD hS 0 rfl rfl 0 (by decide) (hts _ (kT _ wd_8b8ffda9)) (fun _ h9 => h9) rfl (by decide +kernel) rfl rfl (Nat.le_of_ble_eq_true rfl) d_M_patch_2 (fun H locs hP hD hS => ?_)
  have hP : va_P D vwCl (Wm am gm sLen sKind sExt sMust rTab rFil mNum rLen rItm made pItm held dByt dLen ver fAdr fTab adr tab lf 0 row mWr mWid mOv mPl mTh mSp mPile mNext mSh mShs mRea mWg mEn mDp mAt mTb mSt) H := hP
  have hD : va_D A (Wm am gm sLen sKind sExt sMust rTab rFil mNum rLen rItm made pItm held dByt dLen ver fAdr fTab adr tab lf 0 row mWr mWid mOv mPl mTh mSp mPile mNext mSh mShs mRea mWg mEn mDp mAt mTb mSt) := hD
  refine lv_iload_n hx hb d_M_patch_5 rfl (lv_at hl 1 rfl) ?_
  refine lv_aload_n hx hb d_M_patch_6 rfl (lv_at hl 0 rfl) ?_
  refine va_get (D := D) (ci := 8) (C := R_M) (T := T_M) (N := 39) hx hb hts (fun w h => kT w (i_M w h)) hown hK hP 0 rfl rfl 26 (by decide) (hts _ (kT _ wd_3139de6a)) (fun _ h9 => h9) rfl d_M_patch_7 ?_
  refine lv_iconst (v := nI 1) hx hb d_M_patch_10 (by decide) ?_
  refine lv_isub hx hb d_M_patch_11 ?_
  refine k_callS (m_out l D am gm tw sLen sKind sExt sMust rTab rFil mNum rLen rItm made pItm held dByt dLen ver fAdr fTab adr tab lf 0 row mWr mWid mOv mPl mTh mSp mPile mNext mSh mShs mRea mWg mEn mDp mAt mTb mSt x ((nI dLen) - (nI 1))  ) m_M_out wd_0c68f9ea kT hx hb hml hown hts ⟨Nat.le_of_ble_eq_true rfl, Nat.le_of_ble_eq_true rfl⟩ ⟨Nat.le_of_ble_eq_true rfl, Nat.le_of_ble_eq_true rfl⟩ hK hP hD hS hA hZ hl.1 rfl rfl (Nat.le_of_ble_eq_true rfl) d_M_patch_12 (fun H locs hP hD hS => ?_)
  have hP : va_P D vwCl (Wm am gm sLen sKind sExt sMust rTab rFil mNum rLen rItm made pItm held dByt dLen ver fAdr fTab adr tab lf 0 row mWr mWid mOv mPl mTh mSp mPile mNext mSh mShs mRea mWg mEn mDp mAt mTb mSt) H := hP
  have hD : va_D A (Wm am gm sLen sKind sExt sMust rTab rFil mNum rLen rItm made pItm held dByt dLen ver fAdr fTab adr tab lf 0 row mWr mWid mOv mPl mTh mSp mPile mNext mSh mShs mRea mWg mEn mDp mAt mTb mSt) := hD
  refine W.eq (g2 := F0 m 15 ls [.int (bI (outB x ((nI dLen) - (nI 1))))]) rfl ?_
  refine lv_if_eq (tgt := 24) hx hb d_M_patch_15 (by decide) (fun c_15 => ?_) (fun c_15 => ?_)
  · skip
    have c_15 := (bI_0).mp c_15
    have hcd : cdAt dLen x = 0 := by rw [cdAt, if_pos (out_y (by omega) c_15)]
    obtain ⟨n_x, b_x⟩ := hasF_spec (by omega) (out_y (by omega) c_15)
    have hl : lv_has ls 4 [(0, .ref (am 0)), (1, .int (nI (cN x))), (2, .int v)] := by rw [← n_x]; exact hl
    refine lv_aload_n hx hb d_M_patch_24 rfl (lv_at hl 0 rfl) ?_
    refine va_get (D := D) (ci := 8) (C := R_M) (T := T_M) (N := 39) hx hb hts (fun w h => kT w (i_M w h)) hown hK hP 0 rfl rfl 25 (by decide) (hts _ (kT _ wd_2dbf250b)) (fun _ h9 => h9) rfl d_M_patch_25 ?_
    refine lv_iload_n hx hb d_M_patch_28 rfl (lv_at hl 1 rfl) ?_
    refine n_iald hx hb hK hP 19 18 rfl rfl (i := (cN x)) (by omega) (by decide) d_M_patch_29 ?_
    refine lv_istore_n (lv' := [(3, .int (nI (dByt (cN x)))), (0, .ref (am 0)), (1, .int (nI (cN x))), (2, .int v)]) hx hb d_M_patch_30 rfl hl (by decide) rfl (fun ls hl => ?_)
    refine lv_aload_n hx hb d_M_patch_31 rfl (lv_at hl 1 rfl) ?_
    refine va_get (D := D) (ci := 8) (C := R_M) (T := T_M) (N := 39) hx hb hts (fun w h => kT w (i_M w h)) hown hK hP 0 rfl rfl 25 (by decide) (hts _ (kT _ wd_2dbf250b)) (fun _ h9 => h9) rfl d_M_patch_32 ?_
    refine lv_iload_n hx hb d_M_patch_35 rfl (lv_at hl 2 rfl) ?_
    refine lv_iload_n hx hb d_M_patch_36 rfl (lv_at hl 3 rfl) ?_
    refine lv_sipush (v := nI 255) hx hb d_M_patch_37 (by decide) ?_
    refine lv_iand hx hb d_M_patch_40 ?_
    refine lv_eqi (b255 v) ?_
    refine n_iast hx hb hK hP hD hS 19 18 rfl rfl (i := (cN x)) (by omega) (by decide) d_M_patch_41 (fun H locs hP hD hS => ?_)
    have hP : va_P D vwCl (Wm am gm sLen sKind sExt sMust rTab rFil mNum rLen rItm made pItm held (va_up dByt (cN x) (u8 v)) dLen ver fAdr fTab adr tab lf 0 row mWr mWid mOv mPl mTh mSp mPile mNext mSh mShs mRea mWg mEn mDp mAt mTb mSt) H := hP
    have hD : va_D A (Wm am gm sLen sKind sExt sMust rTab rFil mNum rLen rItm made pItm held (va_up dByt (cN x) (u8 v)) dLen ver fAdr fTab adr tab lf 0 row mWr mWid mOv mPl mTh mSp mPile mNext mSh mShs mRea mWg mEn mDp mAt mTb mSt) := hD
    refine lv_aload_n hx hb d_M_patch_42 rfl (lv_at hl 1 rfl) ?_
    refine lv_iconst (v := nI 0) hx hb d_M_patch_43 (by decide) ?_
    refine lv_eqi (show nI 0 = bI false by decide) ?_
    refine va_put (D := D) (ci := 8) (ty := .boolean) (C := R_M) (T := T_M) (N := 39) hx hb hts (fun w h => kT w (i_M w h)) ty_M tyk_M nm_M hown hK hP hD hS 0 rfl rfl 27 (by decide) (hts _ (kT _ wd_a47358da)) (fun _ h9 => h9) rfl (by decide +kernel) (bI_nar _) (bI_fits _) (Nat.le_of_ble_eq_true rfl) d_M_patch_44 (fun H locs hP hD hS => ?_)
    have hP : va_P D vwCl (Wm am gm sLen sKind sExt sMust rTab rFil mNum rLen rItm made pItm held (va_up dByt (cN x) (u8 v)) dLen false fAdr fTab adr tab lf 0 row mWr mWid mOv mPl mTh mSp mPile mNext mSh mShs mRea mWg mEn mDp mAt mTb mSt) H := hP
    have hD : va_D A (Wm am gm sLen sKind sExt sMust rTab rFil mNum rLen rItm made pItm held (va_up dByt (cN x) (u8 v)) dLen false fAdr fTab adr tab lf 0 row mWr mWid mOv mPl mTh mSp mPile mNext mSh mShs mRea mWg mEn mDp mAt mTb mSt) := hD
    refine lv_iload_n hx hb d_M_patch_47 rfl (lv_at hl 0 rfl) ?_
    exact k_iret hx hb hr hlocks hK hP hD hS (trivial) (by rw [hcd, if_pos rfl, le1 (out_y (by omega) c_15)]) (by rw [hcd]; first | done | rfl) d_M_patch_48
  · skip
    have c_15 := mt (bI_0).mpr c_15
    have c_15 := eq_true_of_ne_false c_15
    have hcd : cdAt dLen x = 1 := by rw [cdAt, if_neg (by simp [out_n (n := dLen) (by omega) c_15])]
    refine lv_aload_n hx hb d_M_patch_18 rfl (lv_at hl 0 rfl) ?_
    refine lv_iconst (v := nI 1) hx hb d_M_patch_19 (by decide) ?_
    refine k_callV (m_raise l D am gm tw sLen sKind sExt sMust rTab rFil mNum rLen rItm made pItm held dByt dLen ver fAdr fTab adr tab lf 0 row mWr mWid mOv mPl mTh mSp mPile mNext mSh mShs mRea mWg mEn mDp mAt mTb mSt 1  ) m_M_raise wd_4b1468e4 0 8 rfl rfl rfl kT hx hb hml hown hts ⟨Nat.le_of_ble_eq_true rfl, Nat.le_of_ble_eq_true rfl⟩ ⟨Nat.le_of_ble_eq_true rfl, Nat.le_of_ble_eq_true rfl⟩ hK hP hD hS hA hZ hl.1 rfl rfl (Nat.le_of_ble_eq_true rfl) d_M_patch_20 (fun H locs hP hD hS => ?_)
    have hP : va_P D vwCl (Wm am gm sLen sKind sExt sMust rTab rFil mNum rLen rItm made pItm held dByt dLen ver fAdr fTab adr tab lf 1 row mWr mWid mOv mPl mTh mSp mPile mNext mSh mShs mRea mWg mEn mDp mAt mTb mSt) H := hP
    have hD : va_D A (Wm am gm sLen sKind sExt sMust rTab rFil mNum rLen rItm made pItm held dByt dLen ver fAdr fTab adr tab lf 1 row mWr mWid mOv mPl mTh mSp mPile mNext mSh mShs mRea mWg mEn mDp mAt mTb mSt) := hD
    refine W.eq (g2 := F0 m 23 ls [.int (nI 0)]) rfl ?_
    exact k_iret hx hb hr hlocks hK hP hD hS (trivial) (by rw [hcd]; first | done | rfl) (by rw [hcd]; first | done | rfl) d_M_patch_23
set_option maxHeartbeats 4000000 in
set_option maxRecDepth 100000 in
theorem m_cut (l : Launch) (D : va_G) (am : Nat → Nat) (gm : Nat → ClassId) (tw : Nat) (sLen sKind : Nat → Nat) (sExt : Nat → Int32) (sMust : Nat → Bool) (rTab : Nat → Nat) (rFil : Nat → Bool) (mNum : Nat → Int64) (rLen : Nat → Nat) (rItm : Nat → Int32) (made : Nat) (pItm : Nat → Int32) (held : Nat) (dByt : Nat → Nat) (dLen : Nat) (ver : Bool) (fAdr fTab adr tab : Nat) (lf : Int32) (mCode : Nat) (row : Nat → Nat) (mWr mWid : Nat) (mOv : Bool) (mPl mTh mSp mPile mNext mSh : Nat → Nat) (mShs : Nat) (mRea : Nat → Bool) (mWg : Int32) (mEn mDp : Nat) (mAt mTb mSt : Nat → Nat) (x : Int32)  (hd : dLen ≤ 240) : kM l y_M_cut b_M_cut 3 (some .int) ({ frames := 1, cells := 0, slots := 0, locals := 21 }) D vwCl (WmT gm) tw [.ref (am 0), .int x] (Wm am gm sLen sKind sExt sMust rTab rFil mNum rLen rItm made pItm held dByt dLen ver fAdr fTab adr tab lf mCode row mWr mWid mOv mPl mTh mSp mPile mNext mSh mShs mRea mWg mEn mDp mAt mTb mSt) (some (.int (nI (if cdCut dLen x = 0 then dLen - cN x else 0)))) (Wm am gm sLen sKind sExt sMust rTab rFil mNum rLen rItm made pItm held dByt (if cdCut dLen x = 0 then cN x else dLen) (if cdCut dLen x = 0 then false else ver) fAdr fTab adr tab lf (cdCut dLen x) row mWr mWid mOv mPl mTh mSp mPile mNext mSh mShs mRea mWg mEn mDp mAt mTb mSt) := by
  refine k_of (by decide) (Nat.le_of_ble_eq_true rfl) ?_
  intro p e s m below meth c A ls hx hb hr hlocks hml hts hown hin0 hA hP hK hD hS hZ hl
  have hl : lv_has ls 3 [(0, .ref (am 0)), (1, .int x)] := hl
  refine lv_aload_n hx hb d_M_cut_0 rfl (lv_at hl 0 rfl) ?_
  refine lv_iconst (v := nI 0) hx hb d_M_cut_1 (by decide) ?_
  refine va_put (D := D) (ci := 8) (ty := .int) (C := R_M) (T := T_M) (N := 39) hx hb hts (fun w h => kT w (i_M w h)) ty_M tyk_M nm_M hown hK hP hD hS 0 rfl rfl 0 (by decide) (hts _ (kT _ wd_8b8ffda9)) (fun _ h9 => h9) rfl (by decide +kernel) rfl rfl (Nat.le_of_ble_eq_true rfl) d_M_cut_2 (fun H locs hP hD hS => ?_)
  have hP : va_P D vwCl (Wm am gm sLen sKind sExt sMust rTab rFil mNum rLen rItm made pItm held dByt dLen ver fAdr fTab adr tab lf 0 row mWr mWid mOv mPl mTh mSp mPile mNext mSh mShs mRea mWg mEn mDp mAt mTb mSt) H := hP
  have hD : va_D A (Wm am gm sLen sKind sExt sMust rTab rFil mNum rLen rItm made pItm held dByt dLen ver fAdr fTab adr tab lf 0 row mWr mWid mOv mPl mTh mSp mPile mNext mSh mShs mRea mWg mEn mDp mAt mTb mSt) := hD
  refine lv_iload_n hx hb d_M_cut_5 rfl (lv_at hl 1 rfl) ?_
  refine lv_aload_n hx hb d_M_cut_6 rfl (lv_at hl 0 rfl) ?_
  refine va_get (D := D) (ci := 8) (C := R_M) (T := T_M) (N := 39) hx hb hts (fun w h => kT w (i_M w h)) hown hK hP 0 rfl rfl 26 (by decide) (hts _ (kT _ wd_3139de6a)) (fun _ h9 => h9) rfl d_M_cut_7 ?_
  refine k_callS (m_out l D am gm tw sLen sKind sExt sMust rTab rFil mNum rLen rItm made pItm held dByt dLen ver fAdr fTab adr tab lf 0 row mWr mWid mOv mPl mTh mSp mPile mNext mSh mShs mRea mWg mEn mDp mAt mTb mSt x (nI dLen)  ) m_M_out wd_0c68f9ea kT hx hb hml hown hts ⟨Nat.le_of_ble_eq_true rfl, Nat.le_of_ble_eq_true rfl⟩ ⟨Nat.le_of_ble_eq_true rfl, Nat.le_of_ble_eq_true rfl⟩ hK hP hD hS hA hZ hl.1 rfl rfl (Nat.le_of_ble_eq_true rfl) d_M_cut_10 (fun H locs hP hD hS => ?_)
  have hP : va_P D vwCl (Wm am gm sLen sKind sExt sMust rTab rFil mNum rLen rItm made pItm held dByt dLen ver fAdr fTab adr tab lf 0 row mWr mWid mOv mPl mTh mSp mPile mNext mSh mShs mRea mWg mEn mDp mAt mTb mSt) H := hP
  have hD : va_D A (Wm am gm sLen sKind sExt sMust rTab rFil mNum rLen rItm made pItm held dByt dLen ver fAdr fTab adr tab lf 0 row mWr mWid mOv mPl mTh mSp mPile mNext mSh mShs mRea mWg mEn mDp mAt mTb mSt) := hD
  refine W.eq (g2 := F0 m 13 ls [.int (bI (outB x (nI dLen)))]) rfl ?_
  refine lv_if_eq (tgt := 22) hx hb d_M_cut_13 (by decide) (fun c_13 => ?_) (fun c_13 => ?_)
  · skip
    have c_13 := (bI_0).mp c_13
    have hcd : cdCut dLen x = 0 := by rw [cdCut, if_pos (o_y c_13)]
    obtain ⟨n_x, b_x⟩ := le_spec (by omega) (o_y c_13).1 (o_y c_13).2
    have hl : lv_has ls 3 [(0, .ref (am 0)), (1, .int (nI (cN x)))] := by rw [← n_x]; exact hl
    refine lv_aload_n hx hb d_M_cut_22 rfl (lv_at hl 0 rfl) ?_
    refine va_get (D := D) (ci := 8) (C := R_M) (T := T_M) (N := 39) hx hb hts (fun w h => kT w (i_M w h)) hown hK hP 0 rfl rfl 26 (by decide) (hts _ (kT _ wd_3139de6a)) (fun _ h9 => h9) rfl d_M_cut_23 ?_
    refine lv_iload_n hx hb d_M_cut_26 rfl (lv_at hl 1 rfl) ?_
    refine lv_isub hx hb d_M_cut_27 ?_
    refine lv_eqi (pk_sub (by omega)) ?_
    refine lv_istore_n (lv' := [(2, .int (nI (dLen - (cN x)))), (0, .ref (am 0)), (1, .int (nI (cN x)))]) hx hb d_M_cut_28 rfl hl (by decide) rfl (fun ls hl => ?_)
    refine lv_aload_n hx hb d_M_cut_29 rfl (lv_at hl 1 rfl) ?_
    refine lv_iload_n hx hb d_M_cut_30 rfl (lv_at hl 2 rfl) ?_
    refine va_put (D := D) (ci := 8) (ty := .int) (C := R_M) (T := T_M) (N := 39) hx hb hts (fun w h => kT w (i_M w h)) ty_M tyk_M nm_M hown hK hP hD hS 0 rfl rfl 26 (by decide) (hts _ (kT _ wd_3139de6a)) (fun _ h9 => h9) rfl (by decide +kernel) rfl rfl (Nat.le_of_ble_eq_true rfl) d_M_cut_31 (fun H locs hP hD hS => ?_)
    have hP : va_P D vwCl (Wm am gm sLen sKind sExt sMust rTab rFil mNum rLen rItm made pItm held dByt (cN x) ver fAdr fTab adr tab lf 0 row mWr mWid mOv mPl mTh mSp mPile mNext mSh mShs mRea mWg mEn mDp mAt mTb mSt) H := hP
    have hD : va_D A (Wm am gm sLen sKind sExt sMust rTab rFil mNum rLen rItm made pItm held dByt (cN x) ver fAdr fTab adr tab lf 0 row mWr mWid mOv mPl mTh mSp mPile mNext mSh mShs mRea mWg mEn mDp mAt mTb mSt) := hD
    refine lv_aload_n hx hb d_M_cut_34 rfl (lv_at hl 1 rfl) ?_
    refine lv_iconst (v := nI 0) hx hb d_M_cut_35 (by decide) ?_
    refine lv_eqi (show nI 0 = bI false by decide) ?_
    refine va_put (D := D) (ci := 8) (ty := .boolean) (C := R_M) (T := T_M) (N := 39) hx hb hts (fun w h => kT w (i_M w h)) ty_M tyk_M nm_M hown hK hP hD hS 0 rfl rfl 27 (by decide) (hts _ (kT _ wd_a47358da)) (fun _ h9 => h9) rfl (by decide +kernel) (bI_nar _) (bI_fits _) (Nat.le_of_ble_eq_true rfl) d_M_cut_36 (fun H locs hP hD hS => ?_)
    have hP : va_P D vwCl (Wm am gm sLen sKind sExt sMust rTab rFil mNum rLen rItm made pItm held dByt (cN x) false fAdr fTab adr tab lf 0 row mWr mWid mOv mPl mTh mSp mPile mNext mSh mShs mRea mWg mEn mDp mAt mTb mSt) H := hP
    have hD : va_D A (Wm am gm sLen sKind sExt sMust rTab rFil mNum rLen rItm made pItm held dByt (cN x) false fAdr fTab adr tab lf 0 row mWr mWid mOv mPl mTh mSp mPile mNext mSh mShs mRea mWg mEn mDp mAt mTb mSt) := hD
    refine lv_iload_n hx hb d_M_cut_39 rfl (lv_at hl 0 rfl) ?_
    exact k_iret hx hb hr hlocks hK hP hD hS (trivial) (by rw [hcd]; first | done | rfl) (by rw [hcd]; first | done | rfl) d_M_cut_40
  · skip
    have c_13 := mt (bI_0).mpr c_13
    have c_13 := eq_true_of_ne_false c_13
    have hcd : cdCut dLen x = 1 := by rw [cdCut, if_neg (fun z => (o_n c_13).elim z.1 (fun w => w z.2))]
    refine lv_aload_n hx hb d_M_cut_16 rfl (lv_at hl 0 rfl) ?_
    refine lv_iconst (v := nI 1) hx hb d_M_cut_17 (by decide) ?_
    refine k_callV (m_raise l D am gm tw sLen sKind sExt sMust rTab rFil mNum rLen rItm made pItm held dByt dLen ver fAdr fTab adr tab lf 0 row mWr mWid mOv mPl mTh mSp mPile mNext mSh mShs mRea mWg mEn mDp mAt mTb mSt 1  ) m_M_raise wd_4b1468e4 0 8 rfl rfl rfl kT hx hb hml hown hts ⟨Nat.le_of_ble_eq_true rfl, Nat.le_of_ble_eq_true rfl⟩ ⟨Nat.le_of_ble_eq_true rfl, Nat.le_of_ble_eq_true rfl⟩ hK hP hD hS hA hZ hl.1 rfl rfl (Nat.le_of_ble_eq_true rfl) d_M_cut_18 (fun H locs hP hD hS => ?_)
    have hP : va_P D vwCl (Wm am gm sLen sKind sExt sMust rTab rFil mNum rLen rItm made pItm held dByt dLen ver fAdr fTab adr tab lf 1 row mWr mWid mOv mPl mTh mSp mPile mNext mSh mShs mRea mWg mEn mDp mAt mTb mSt) H := hP
    have hD : va_D A (Wm am gm sLen sKind sExt sMust rTab rFil mNum rLen rItm made pItm held dByt dLen ver fAdr fTab adr tab lf 1 row mWr mWid mOv mPl mTh mSp mPile mNext mSh mShs mRea mWg mEn mDp mAt mTb mSt) := hD
    refine W.eq (g2 := F0 m 21 ls [.int (nI 0)]) rfl ?_
    exact k_iret hx hb hr hlocks hK hP hD hS (trivial) (by rw [hcd]; first | done | rfl) (by rw [hcd]; first | done | rfl) d_M_cut_21
set_option maxHeartbeats 4000000 in
set_option maxRecDepth 100000 in
theorem m_fault (l : Launch) (D : va_G) (am : Nat → Nat) (gm : Nat → ClassId) (tw : Nat) (sLen sKind : Nat → Nat) (sExt : Nat → Int32) (sMust : Nat → Bool) (rTab : Nat → Nat) (rFil : Nat → Bool) (mNum : Nat → Int64) (rLen : Nat → Nat) (rItm : Nat → Int32) (made : Nat) (pItm : Nat → Int32) (held : Nat) (dByt : Nat → Nat) (dLen : Nat) (ver : Bool) (fAdr fTab adr tab : Nat) (lf : Int32) (mCode : Nat) (row : Nat → Nat) (mWr mWid : Nat) (mOv : Bool) (mPl mTh mSp mPile mNext mSh : Nat → Nat) (mShs : Nat) (mRea : Nat → Bool) (mWg : Int32) (mEn mDp : Nat) (mAt mTb mSt : Nat → Nat)    : kM l y_M_fault b_M_fault 1 (some .int) ({ frames := 0, cells := 0, slots := 0, locals := 0 }) D vwCl (WmT gm) tw [.ref (am 0)] (Wm am gm sLen sKind sExt sMust rTab rFil mNum rLen rItm made pItm held dByt dLen ver fAdr fTab adr tab lf mCode row mWr mWid mOv mPl mTh mSp mPile mNext mSh mShs mRea mWg mEn mDp mAt mTb mSt) (some (.int lf)) (Wm am gm sLen sKind sExt sMust rTab rFil mNum rLen rItm made pItm held dByt dLen ver fAdr fTab adr tab lf 0 row mWr mWid mOv mPl mTh mSp mPile mNext mSh mShs mRea mWg mEn mDp mAt mTb mSt) := by
  refine k_of (by decide) (Nat.le_of_ble_eq_true rfl) ?_
  intro p e s m below meth c A ls hx hb hr hlocks hml hts hown hin0 hA hP hK hD hS hZ hl
  have hl : lv_has ls 1 [(0, .ref (am 0))] := hl
  refine lv_aload_n hx hb d_M_fault_0 rfl (lv_at hl 0 rfl) ?_
  refine lv_iconst (v := nI 0) hx hb d_M_fault_1 (by decide) ?_
  refine va_put (D := D) (ci := 8) (ty := .int) (C := R_M) (T := T_M) (N := 39) hx hb hts (fun w h => kT w (i_M w h)) ty_M tyk_M nm_M hown hK hP hD hS 0 rfl rfl 0 (by decide) (hts _ (kT _ wd_8b8ffda9)) (fun _ h9 => h9) rfl (by decide +kernel) rfl rfl (Nat.le_of_ble_eq_true rfl) d_M_fault_2 (fun H locs hP hD hS => ?_)
  have hP : va_P D vwCl (Wm am gm sLen sKind sExt sMust rTab rFil mNum rLen rItm made pItm held dByt dLen ver fAdr fTab adr tab lf 0 row mWr mWid mOv mPl mTh mSp mPile mNext mSh mShs mRea mWg mEn mDp mAt mTb mSt) H := hP
  have hD : va_D A (Wm am gm sLen sKind sExt sMust rTab rFil mNum rLen rItm made pItm held dByt dLen ver fAdr fTab adr tab lf 0 row mWr mWid mOv mPl mTh mSp mPile mNext mSh mShs mRea mWg mEn mDp mAt mTb mSt) := hD
  refine lv_aload_n hx hb d_M_fault_5 rfl (lv_at hl 0 rfl) ?_
  refine va_get (D := D) (ci := 8) (C := R_M) (T := T_M) (N := 39) hx hb hts (fun w h => kT w (i_M w h)) hown hK hP 0 rfl rfl 32 (by decide) (hts _ (kT _ wd_85573464)) (fun _ h9 => h9) rfl d_M_fault_6 ?_
  exact k_iret hx hb hr hlocks hK hP hD hS (trivial) (rfl) (rfl) d_M_fault_9
set_option maxHeartbeats 4000000 in
set_option maxRecDepth 100000 in
theorem m_top (l : Launch) (D : va_G) (am : Nat → Nat) (gm : Nat → ClassId) (tw : Nat) (sLen sKind : Nat → Nat) (sExt : Nat → Int32) (sMust : Nat → Bool) (rTab : Nat → Nat) (rFil : Nat → Bool) (mNum : Nat → Int64) (rLen : Nat → Nat) (rItm : Nat → Int32) (made : Nat) (pItm : Nat → Int32) (held : Nat) (dByt : Nat → Nat) (dLen : Nat) (ver : Bool) (fAdr fTab adr tab : Nat) (lf : Int32) (mCode : Nat) (row : Nat → Nat) (mWr mWid : Nat) (mOv : Bool) (mPl mTh mSp mPile mNext mSh : Nat → Nat) (mShs : Nat) (mRea : Nat → Bool) (mWg : Int32) (mEn mDp : Nat) (mAt mTb mSt : Nat → Nat)    : kM l y_M_top b_M_top 1 (some .int) ({ frames := 1, cells := 0, slots := 0, locals := 21 }) D vwCl (WmT gm) tw [.ref (am 0)] (Wm am gm sLen sKind sExt sMust rTab rFil mNum rLen rItm made pItm held dByt dLen ver fAdr fTab adr tab lf mCode row mWr mWid mOv mPl mTh mSp mPile mNext mSh mShs mRea mWg mEn mDp mAt mTb mSt) (some (.int (nI (if cdTop ver = 0 then 1 else 0)))) (Wm am gm sLen sKind sExt sMust rTab rFil mNum rLen rItm made pItm held dByt dLen ver fAdr fTab (if cdTop ver = 0 then fAdr else adr) (if cdTop ver = 0 then fTab else tab) lf (cdTop ver) row mWr mWid mOv mPl mTh mSp mPile mNext mSh mShs mRea mWg mEn mDp mAt mTb mSt) := by
  refine k_of (by decide) (Nat.le_of_ble_eq_true rfl) ?_
  intro p e s m below meth c A ls hx hb hr hlocks hml hts hown hin0 hA hP hK hD hS hZ hl
  have hl : lv_has ls 1 [(0, .ref (am 0))] := hl
  refine lv_aload_n hx hb d_M_top_0 rfl (lv_at hl 0 rfl) ?_
  refine lv_iconst (v := nI 0) hx hb d_M_top_1 (by decide) ?_
  refine va_put (D := D) (ci := 8) (ty := .int) (C := R_M) (T := T_M) (N := 39) hx hb hts (fun w h => kT w (i_M w h)) ty_M tyk_M nm_M hown hK hP hD hS 0 rfl rfl 0 (by decide) (hts _ (kT _ wd_8b8ffda9)) (fun _ h9 => h9) rfl (by decide +kernel) rfl rfl (Nat.le_of_ble_eq_true rfl) d_M_top_2 (fun H locs hP hD hS => ?_)
  have hP : va_P D vwCl (Wm am gm sLen sKind sExt sMust rTab rFil mNum rLen rItm made pItm held dByt dLen ver fAdr fTab adr tab lf 0 row mWr mWid mOv mPl mTh mSp mPile mNext mSh mShs mRea mWg mEn mDp mAt mTb mSt) H := hP
  have hD : va_D A (Wm am gm sLen sKind sExt sMust rTab rFil mNum rLen rItm made pItm held dByt dLen ver fAdr fTab adr tab lf 0 row mWr mWid mOv mPl mTh mSp mPile mNext mSh mShs mRea mWg mEn mDp mAt mTb mSt) := hD
  refine lv_aload_n hx hb d_M_top_5 rfl (lv_at hl 0 rfl) ?_
  refine va_get (D := D) (ci := 8) (C := R_M) (T := T_M) (N := 39) hx hb hts (fun w h => kT w (i_M w h)) hown hK hP 0 rfl rfl 27 (by decide) (hts _ (kT _ wd_a47358da)) (fun _ h9 => h9) rfl d_M_top_6 ?_
  refine lv_if_ne (tgt := 18) hx hb d_M_top_9 (by decide) (fun c_9 => ?_) (fun c_9 => ?_)
  · skip
    have c_9 := mt (bI_0).mpr c_9
    have c_9 := eq_true_of_ne_false c_9
    have hcd : cdTop ver = 0 := by rw [cdTop, if_pos c_9]
    refine lv_aload_n hx hb d_M_top_18 rfl (lv_at hl 0 rfl) ?_
    refine lv_aload_n hx hb d_M_top_19 rfl (lv_at hl 0 rfl) ?_
    refine va_get (D := D) (ci := 8) (C := R_M) (T := T_M) (N := 39) hx hb hts (fun w h => kT w (i_M w h)) hown hK hP 0 rfl rfl 28 (by decide) (hts _ (kT _ wd_dbe346e2)) (fun _ h9 => h9) rfl d_M_top_20 ?_
    refine va_put (D := D) (ci := 8) (ty := .int) (C := R_M) (T := T_M) (N := 39) hx hb hts (fun w h => kT w (i_M w h)) ty_M tyk_M nm_M hown hK hP hD hS 0 rfl rfl 30 (by decide) (hts _ (kT _ wd_cd6c8e1d)) (fun _ h9 => h9) rfl (by decide +kernel) rfl rfl (Nat.le_of_ble_eq_true rfl) d_M_top_23 (fun H locs hP hD hS => ?_)
    have hP : va_P D vwCl (Wm am gm sLen sKind sExt sMust rTab rFil mNum rLen rItm made pItm held dByt dLen ver fAdr fTab fAdr tab lf 0 row mWr mWid mOv mPl mTh mSp mPile mNext mSh mShs mRea mWg mEn mDp mAt mTb mSt) H := hP
    have hD : va_D A (Wm am gm sLen sKind sExt sMust rTab rFil mNum rLen rItm made pItm held dByt dLen ver fAdr fTab fAdr tab lf 0 row mWr mWid mOv mPl mTh mSp mPile mNext mSh mShs mRea mWg mEn mDp mAt mTb mSt) := hD
    refine lv_aload_n hx hb d_M_top_26 rfl (lv_at hl 0 rfl) ?_
    refine lv_aload_n hx hb d_M_top_27 rfl (lv_at hl 0 rfl) ?_
    refine va_get (D := D) (ci := 8) (C := R_M) (T := T_M) (N := 39) hx hb hts (fun w h => kT w (i_M w h)) hown hK hP 0 rfl rfl 29 (by decide) (hts _ (kT _ wd_258176f0)) (fun _ h9 => h9) rfl d_M_top_28 ?_
    refine va_put (D := D) (ci := 8) (ty := .int) (C := R_M) (T := T_M) (N := 39) hx hb hts (fun w h => kT w (i_M w h)) ty_M tyk_M nm_M hown hK hP hD hS 0 rfl rfl 31 (by decide) (hts _ (kT _ wd_e5a19dfd)) (fun _ h9 => h9) rfl (by decide +kernel) rfl rfl (Nat.le_of_ble_eq_true rfl) d_M_top_31 (fun H locs hP hD hS => ?_)
    have hP : va_P D vwCl (Wm am gm sLen sKind sExt sMust rTab rFil mNum rLen rItm made pItm held dByt dLen ver fAdr fTab fAdr fTab lf 0 row mWr mWid mOv mPl mTh mSp mPile mNext mSh mShs mRea mWg mEn mDp mAt mTb mSt) H := hP
    have hD : va_D A (Wm am gm sLen sKind sExt sMust rTab rFil mNum rLen rItm made pItm held dByt dLen ver fAdr fTab fAdr fTab lf 0 row mWr mWid mOv mPl mTh mSp mPile mNext mSh mShs mRea mWg mEn mDp mAt mTb mSt) := hD
    refine lv_iconst (v := nI 1) hx hb d_M_top_34 (by decide) ?_
    exact k_iret hx hb hr hlocks hK hP hD hS (trivial) (by rw [hcd]; first | done | rfl) (by rw [hcd]; first | done | rfl) d_M_top_35
  · skip
    have c_9 := (bI_0).mp c_9
    have hcd : cdTop ver = 1 := by rw [cdTop, if_neg (by simp [c_9])]
    refine lv_aload_n hx hb d_M_top_12 rfl (lv_at hl 0 rfl) ?_
    refine lv_iconst (v := nI 1) hx hb d_M_top_13 (by decide) ?_
    refine k_callV (m_raise l D am gm tw sLen sKind sExt sMust rTab rFil mNum rLen rItm made pItm held dByt dLen ver fAdr fTab adr tab lf 0 row mWr mWid mOv mPl mTh mSp mPile mNext mSh mShs mRea mWg mEn mDp mAt mTb mSt 1  ) m_M_raise wd_4b1468e4 0 8 rfl rfl rfl kT hx hb hml hown hts ⟨Nat.le_of_ble_eq_true rfl, Nat.le_of_ble_eq_true rfl⟩ ⟨Nat.le_of_ble_eq_true rfl, Nat.le_of_ble_eq_true rfl⟩ hK hP hD hS hA hZ hl.1 rfl rfl (Nat.le_of_ble_eq_true rfl) d_M_top_14 (fun H locs hP hD hS => ?_)
    have hP : va_P D vwCl (Wm am gm sLen sKind sExt sMust rTab rFil mNum rLen rItm made pItm held dByt dLen ver fAdr fTab adr tab lf 1 row mWr mWid mOv mPl mTh mSp mPile mNext mSh mShs mRea mWg mEn mDp mAt mTb mSt) H := hP
    have hD : va_D A (Wm am gm sLen sKind sExt sMust rTab rFil mNum rLen rItm made pItm held dByt dLen ver fAdr fTab adr tab lf 1 row mWr mWid mOv mPl mTh mSp mPile mNext mSh mShs mRea mWg mEn mDp mAt mTb mSt) := hD
    refine W.eq (g2 := F0 m 17 ls [.int (nI 0)]) rfl ?_
    exact k_iret hx hb hr hlocks hK hP hD hS (trivial) (by rw [hcd]; first | done | rfl) (by rw [hcd]; first | done | rfl) d_M_top_17
set_option maxHeartbeats 4000000 in
set_option maxRecDepth 100000 in
theorem m_count (l : Launch) (D : va_G) (am : Nat → Nat) (gm : Nat → ClassId) (tw : Nat) (sLen sKind : Nat → Nat) (sExt : Nat → Int32) (sMust : Nat → Bool) (rTab : Nat → Nat) (rFil : Nat → Bool) (mNum : Nat → Int64) (rLen : Nat → Nat) (rItm : Nat → Int32) (made : Nat) (pItm : Nat → Int32) (held : Nat) (dByt : Nat → Nat) (dLen : Nat) (ver : Bool) (fAdr fTab adr tab : Nat) (lf : Int32) (mCode : Nat) (row : Nat → Nat) (mWr mWid : Nat) (mOv : Bool) (mPl mTh mSp mPile mNext mSh : Nat → Nat) (mShs : Nat) (mRea : Nat → Bool) (mWg : Int32) (mEn mDp : Nat) (mAt mTb mSt : Nat → Nat) (x : Int32)   : kM l y_M_count b_M_count 2 (some .int) ({ frames := 1, cells := 0, slots := 0, locals := 21 }) D vwCl (WmT gm) tw [.ref (am 0), .int x] (Wm am gm sLen sKind sExt sMust rTab rFil mNum rLen rItm made pItm held dByt dLen ver fAdr fTab adr tab lf mCode row mWr mWid mOv mPl mTh mSp mPile mNext mSh mShs mRea mWg mEn mDp mAt mTb mSt) (some (.int (if cdCount x = 0 then rvCount sLen made held dLen ver tab x else 0))) (Wm am gm sLen sKind sExt sMust rTab rFil mNum rLen rItm made pItm held dByt dLen ver fAdr fTab adr tab lf (cdCount x) row mWr mWid mOv mPl mTh mSp mPile mNext mSh mShs mRea mWg mEn mDp mAt mTb mSt) := by
  refine k_of (by decide) (Nat.le_of_ble_eq_true rfl) ?_
  intro p e s m below meth c A ls hx hb hr hlocks hml hts hown hin0 hA hP hK hD hS hZ hl
  have hl : lv_has ls 2 [(0, .ref (am 0)), (1, .int x)] := hl
  refine lv_aload_n hx hb d_M_count_0 rfl (lv_at hl 0 rfl) ?_
  refine lv_iconst (v := nI 0) hx hb d_M_count_1 (by decide) ?_
  refine va_put (D := D) (ci := 8) (ty := .int) (C := R_M) (T := T_M) (N := 39) hx hb hts (fun w h => kT w (i_M w h)) ty_M tyk_M nm_M hown hK hP hD hS 0 rfl rfl 0 (by decide) (hts _ (kT _ wd_8b8ffda9)) (fun _ h9 => h9) rfl (by decide +kernel) rfl rfl (Nat.le_of_ble_eq_true rfl) d_M_count_2 (fun H locs hP hD hS => ?_)
  have hP : va_P D vwCl (Wm am gm sLen sKind sExt sMust rTab rFil mNum rLen rItm made pItm held dByt dLen ver fAdr fTab adr tab lf 0 row mWr mWid mOv mPl mTh mSp mPile mNext mSh mShs mRea mWg mEn mDp mAt mTb mSt) H := hP
  have hD : va_D A (Wm am gm sLen sKind sExt sMust rTab rFil mNum rLen rItm made pItm held dByt dLen ver fAdr fTab adr tab lf 0 row mWr mWid mOv mPl mTh mSp mPile mNext mSh mShs mRea mWg mEn mDp mAt mTb mSt) := hD
  refine lv_iload_n hx hb d_M_count_5 rfl (lv_at hl 1 rfl) ?_
  by_cases s_6_0 : x = (0 : Int32)
  · skip
    refine lv_eqi (y := nI 0) (by rw [s_6_0]; decide) ?_
    refine lv_tableIn (off := 38) (tgt := 44) hx hb d_M_count_6 (by decide) (by decide) (by decide) (by decide) ?_
    have hcd : cdCount x = 0 := by rw [cdCount, if_pos (by simp [s_6_0])]
    refine lv_aload_n hx hb d_M_count_44 rfl (lv_at hl 0 rfl) ?_
    refine va_get (D := D) (ci := 8) (C := R_M) (T := T_M) (N := 39) hx hb hts (fun w h => kT w (i_M w h)) hown hK hP 0 rfl rfl 26 (by decide) (hts _ (kT _ wd_3139de6a)) (fun _ h9 => h9) rfl d_M_count_45 ?_
    exact k_iret hx hb hr hlocks hK hP hD hS (trivial) (by rw [hcd, if_pos rfl]; first | done | (simp [rvCount, s_6_0]; try rfl)) (by rw [hcd]; first | done | rfl) d_M_count_48
  by_cases s_6_1 : x = (1 : Int32)
  · skip
    refine lv_eqi (y := nI 1) (by rw [s_6_1]; decide) ?_
    refine lv_tableIn (off := 43) (tgt := 49) hx hb d_M_count_6 (by decide) (by decide) (by decide) (by decide) ?_
    have hcd : cdCount x = 0 := by rw [cdCount, if_pos (by simp [s_6_1])]
    refine lv_aload_n hx hb d_M_count_49 rfl (lv_at hl 0 rfl) ?_
    refine va_get (D := D) (ci := 8) (C := R_M) (T := T_M) (N := 39) hx hb hts (fun w h => kT w (i_M w h)) hown hK hP 0 rfl rfl 6 (by decide) (hts _ (kT _ wd_2434e5fd)) (fun _ h9 => h9) rfl d_M_count_50 ?_
    exact k_iret hx hb hr hlocks hK hP hD hS (trivial) (by rw [hcd, if_pos rfl]; first | done | (simp [rvCount, s_6_0, s_6_1]; try rfl)) (by rw [hcd]; first | done | rfl) d_M_count_53
  by_cases s_6_2 : x = (2 : Int32)
  · skip
    refine lv_eqi (y := nI 2) (by rw [s_6_2]; decide) ?_
    refine lv_tableIn (off := 48) (tgt := 54) hx hb d_M_count_6 (by decide) (by decide) (by decide) (by decide) ?_
    have hcd : cdCount x = 0 := by rw [cdCount, if_pos (by simp [s_6_2])]
    refine lv_aload_n hx hb d_M_count_54 rfl (lv_at hl 0 rfl) ?_
    refine va_get (D := D) (ci := 8) (C := R_M) (T := T_M) (N := 39) hx hb hts (fun w h => kT w (i_M w h)) hown hK hP 0 rfl rfl 1 (by decide) (hts _ (kT _ wd_4d2260e1)) (fun _ h9 => h9) rfl d_M_count_55 ?_
    refine lv_iconst (v := nI 0) hx hb d_M_count_58 (by decide) ?_
    refine n_iald hx hb hK hP 1 0 rfl rfl (i := 0) (by omega) (by decide) d_M_count_59 ?_
    refine lv_aload_n hx hb d_M_count_60 rfl (lv_at hl 0 rfl) ?_
    refine va_get (D := D) (ci := 8) (C := R_M) (T := T_M) (N := 39) hx hb hts (fun w h => kT w (i_M w h)) hown hK hP 0 rfl rfl 1 (by decide) (hts _ (kT _ wd_4d2260e1)) (fun _ h9 => h9) rfl d_M_count_61 ?_
    refine lv_iconst (v := nI 1) hx hb d_M_count_64 (by decide) ?_
    refine n_iald hx hb hK hP 1 0 rfl rfl (i := 1) (by omega) (by decide) d_M_count_65 ?_
    refine lv_iadd hx hb d_M_count_66 ?_
    refine lv_eqi (nI_add _ _) ?_
    refine lv_aload_n hx hb d_M_count_67 rfl (lv_at hl 0 rfl) ?_
    refine va_get (D := D) (ci := 8) (C := R_M) (T := T_M) (N := 39) hx hb hts (fun w h => kT w (i_M w h)) hown hK hP 0 rfl rfl 1 (by decide) (hts _ (kT _ wd_4d2260e1)) (fun _ h9 => h9) rfl d_M_count_68 ?_
    refine lv_iconst (v := nI 2) hx hb d_M_count_71 (by decide) ?_
    refine n_iald hx hb hK hP 1 0 rfl rfl (i := 2) (by omega) (by decide) d_M_count_72 ?_
    refine lv_iadd hx hb d_M_count_73 ?_
    refine lv_eqi (nI_add _ _) ?_
    refine lv_aload_n hx hb d_M_count_74 rfl (lv_at hl 0 rfl) ?_
    refine va_get (D := D) (ci := 8) (C := R_M) (T := T_M) (N := 39) hx hb hts (fun w h => kT w (i_M w h)) hown hK hP 0 rfl rfl 1 (by decide) (hts _ (kT _ wd_4d2260e1)) (fun _ h9 => h9) rfl d_M_count_75 ?_
    refine lv_iconst (v := nI 3) hx hb d_M_count_78 (by decide) ?_
    refine n_iald hx hb hK hP 1 0 rfl rfl (i := 3) (by omega) (by decide) d_M_count_79 ?_
    refine lv_iadd hx hb d_M_count_80 ?_
    refine lv_eqi (nI_add _ _) ?_
    exact k_iret hx hb hr hlocks hK hP hD hS (trivial) (by rw [hcd, if_pos rfl]; first | done | (simp [rvCount, s_6_0, s_6_1, s_6_2]; try rfl)) (by rw [hcd]; first | done | rfl) d_M_count_81
  by_cases s_6_3 : x = (3 : Int32)
  · skip
    refine lv_eqi (y := nI 3) (by rw [s_6_3]; decide) ?_
    refine lv_tableIn (off := 76) (tgt := 82) hx hb d_M_count_6 (by decide) (by decide) (by decide) (by decide) ?_
    have hcd : cdCount x = 0 := by rw [cdCount, if_pos (by simp [s_6_3])]
    refine lv_aload_n hx hb d_M_count_82 rfl (lv_at hl 0 rfl) ?_
    refine va_get (D := D) (ci := 8) (C := R_M) (T := T_M) (N := 39) hx hb hts (fun w h => kT w (i_M w h)) hown hK hP 0 rfl rfl 12 (by decide) (hts _ (kT _ wd_35a9147d)) (fun _ h9 => h9) rfl d_M_count_83 ?_
    exact k_iret hx hb hr hlocks hK hP hD hS (trivial) (by rw [hcd, if_pos rfl]; first | done | (simp [rvCount, s_6_0, s_6_1, s_6_2, s_6_3]; try rfl)) (by rw [hcd]; first | done | rfl) d_M_count_86
  by_cases s_6_4 : x = (4 : Int32)
  · skip
    refine lv_eqi (y := nI 4) (by rw [s_6_4]; decide) ?_
    refine lv_tableIn (off := 81) (tgt := 87) hx hb d_M_count_6 (by decide) (by decide) (by decide) (by decide) ?_
    have hcd : cdCount x = 0 := by rw [cdCount, if_pos (by simp [s_6_4])]
    refine lv_aload_n hx hb d_M_count_87 rfl (lv_at hl 0 rfl) ?_
    refine va_get (D := D) (ci := 8) (C := R_M) (T := T_M) (N := 39) hx hb hts (fun w h => kT w (i_M w h)) hown hK hP 0 rfl rfl 27 (by decide) (hts _ (kT _ wd_a47358da)) (fun _ h9 => h9) rfl d_M_count_88 ?_
    refine lv_if_eq (tgt := 98) hx hb d_M_count_91 (by decide) (fun c_91 => ?_) (fun c_91 => ?_)
    · skip
      have c_91 := (bI_0).mp c_91
      refine lv_iconst (v := nI 0) hx hb d_M_count_98 (by decide) ?_
      exact k_iret hx hb hr hlocks hK hP hD hS (trivial) (by rw [hcd, if_pos rfl]; first | done | (simp [rvCount, s_6_0, s_6_1, s_6_2, s_6_3, s_6_4, c_91] <;> decide)) (by rw [hcd]; first | done | rfl) d_M_count_99
    · skip
      have c_91 := mt (bI_0).mpr c_91
      have c_91 := eq_true_of_ne_false c_91
      refine lv_iconst (v := nI 1) hx hb d_M_count_94 (by decide) ?_
      refine lv_goto (tgt := 99) hx hb d_M_count_95 (by decide) ?_
      exact k_iret hx hb hr hlocks hK hP hD hS (trivial) (by rw [hcd, if_pos rfl]; first | done | (simp [rvCount, s_6_0, s_6_1, s_6_2, s_6_3, s_6_4, c_91] <;> decide)) (by rw [hcd]; first | done | rfl) d_M_count_99
  by_cases s_6_5 : x = (5 : Int32)
  · skip
    refine lv_eqi (y := nI 5) (by rw [s_6_5]; decide) ?_
    refine lv_tableIn (off := 94) (tgt := 100) hx hb d_M_count_6 (by decide) (by decide) (by decide) (by decide) ?_
    have hcd : cdCount x = 0 := by rw [cdCount, if_pos (by simp [s_6_5])]
    refine lv_aload_n hx hb d_M_count_100 rfl (lv_at hl 0 rfl) ?_
    refine va_get (D := D) (ci := 8) (C := R_M) (T := T_M) (N := 39) hx hb hts (fun w h => kT w (i_M w h)) hown hK hP 0 rfl rfl 27 (by decide) (hts _ (kT _ wd_a47358da)) (fun _ h9 => h9) rfl d_M_count_101 ?_
    refine lv_if_eq (tgt := 114) hx hb d_M_count_104 (by decide) (fun c_104 => ?_) (fun c_104 => ?_)
    · skip
      have c_104 := (bI_0).mp c_104
      refine lv_iconst (v := -1) hx hb d_M_count_114 (by decide) ?_
      exact k_iret hx hb hr hlocks hK hP hD hS (trivial) (by rw [hcd, if_pos rfl]; first | done | (simp [rvCount, s_6_0, s_6_1, s_6_2, s_6_3, s_6_4, s_6_5, c_104]; try rfl)) (by rw [hcd]; first | done | rfl) d_M_count_115
    · skip
      have c_104 := mt (bI_0).mpr c_104
      have c_104 := eq_true_of_ne_false c_104
      refine lv_aload_n hx hb d_M_count_107 rfl (lv_at hl 0 rfl) ?_
      refine va_get (D := D) (ci := 8) (C := R_M) (T := T_M) (N := 39) hx hb hts (fun w h => kT w (i_M w h)) hown hK hP 0 rfl rfl 31 (by decide) (hts _ (kT _ wd_e5a19dfd)) (fun _ h9 => h9) rfl d_M_count_108 ?_
      refine lv_goto (tgt := 115) hx hb d_M_count_111 (by decide) ?_
      exact k_iret hx hb hr hlocks hK hP hD hS (trivial) (by rw [hcd, if_pos rfl]; first | done | (simp [rvCount, s_6_0, s_6_1, s_6_2, s_6_3, s_6_4, s_6_5, c_104]; try rfl)) (by rw [hcd]; first | done | rfl) d_M_count_115
  refine lv_tableOut (tgt := 116) hx hb d_M_count_6 (by have q0 := lv_neT (a := 0) s_6_0 (by decide); have q1 := lv_neT (a := 1) s_6_1 (by decide); have q2 := lv_neT (a := 2) s_6_2 (by decide); have q3 := lv_neT (a := 3) s_6_3 (by decide); have q4 := lv_neT (a := 4) s_6_4 (by decide); have q5 := lv_neT (a := 5) s_6_5 (by decide); omega) (by decide) ?_
  have hcd : cdCount x = 1 := by rw [cdCount, if_neg (by simp [s_6_0, s_6_1, s_6_2, s_6_3, s_6_4, s_6_5])]
  refine lv_aload_n hx hb d_M_count_116 rfl (lv_at hl 0 rfl) ?_
  refine lv_iconst (v := nI 1) hx hb d_M_count_117 (by decide) ?_
  refine k_callV (m_raise l D am gm tw sLen sKind sExt sMust rTab rFil mNum rLen rItm made pItm held dByt dLen ver fAdr fTab adr tab lf 0 row mWr mWid mOv mPl mTh mSp mPile mNext mSh mShs mRea mWg mEn mDp mAt mTb mSt 1  ) m_M_raise wd_4b1468e4 0 8 rfl rfl rfl kT hx hb hml hown hts ⟨Nat.le_of_ble_eq_true rfl, Nat.le_of_ble_eq_true rfl⟩ ⟨Nat.le_of_ble_eq_true rfl, Nat.le_of_ble_eq_true rfl⟩ hK hP hD hS hA hZ hl.1 rfl rfl (Nat.le_of_ble_eq_true rfl) d_M_count_118 (fun H locs hP hD hS => ?_)
  have hP : va_P D vwCl (Wm am gm sLen sKind sExt sMust rTab rFil mNum rLen rItm made pItm held dByt dLen ver fAdr fTab adr tab lf 1 row mWr mWid mOv mPl mTh mSp mPile mNext mSh mShs mRea mWg mEn mDp mAt mTb mSt) H := hP
  have hD : va_D A (Wm am gm sLen sKind sExt sMust rTab rFil mNum rLen rItm made pItm held dByt dLen ver fAdr fTab adr tab lf 1 row mWr mWid mOv mPl mTh mSp mPile mNext mSh mShs mRea mWg mEn mDp mAt mTb mSt) := hD
  refine W.eq (g2 := F0 m 121 ls [.int (nI 0)]) rfl ?_
  exact k_iret hx hb hr hlocks hK hP hD hS (trivial) (by rw [hcd]; first | done | rfl) (by rw [hcd]; first | done | rfl) d_M_count_121
set_option maxHeartbeats 4000000 in
set_option maxRecDepth 100000 in
theorem m_two (l : Launch) (D : va_G) (am : Nat → Nat) (gm : Nat → ClassId) (tw : Nat) (sLen sKind : Nat → Nat) (sExt : Nat → Int32) (sMust : Nat → Bool) (rTab : Nat → Nat) (rFil : Nat → Bool) (mNum : Nat → Int64) (rLen : Nat → Nat) (rItm : Nat → Int32) (made : Nat) (pItm : Nat → Int32) (held : Nat) (dByt : Nat → Nat) (dLen : Nat) (ver : Bool) (fAdr fTab adr tab : Nat) (lf : Int32) (mCode : Nat) (row : Nat → Nat) (mWr mWid : Nat) (mOv : Bool) (mPl mTh mSp mPile mNext mSh : Nat → Nat) (mShs : Nat) (mRea : Nat → Bool) (mWg : Int32) (mEn mDp : Nat) (mAt mTb mSt : Nat → Nat) (a0 : Nat)  (ha : a0 + 2 ≤ dLen) (hB : ∀ k, dByt k < 256) (hd : dLen ≤ 240) : kM l y_M_two b_M_two 2 (some .int) ({ frames := 0, cells := 0, slots := 0, locals := 0 }) D vwCl (WmT gm) tw [.ref (am 0), .int (nI a0)] (Wm am gm sLen sKind sExt sMust rTab rFil mNum rLen rItm made pItm held dByt dLen ver fAdr fTab adr tab lf mCode row mWr mWid mOv mPl mTh mSp mPile mNext mSh mShs mRea mWg mEn mDp mAt mTb mSt) (some (.int (nI (leN dByt dLen (nI a0) 2)))) (Wm am gm sLen sKind sExt sMust rTab rFil mNum rLen rItm made pItm held dByt dLen ver fAdr fTab adr tab lf mCode row mWr mWid mOv mPl mTh mSp mPile mNext mSh mShs mRea mWg mEn mDp mAt mTb mSt) := by
  refine k_of (by decide) (Nat.le_of_ble_eq_true rfl) ?_
  intro p e s m below meth c A ls hx hb hr hlocks hml hts hown hin0 hA hP hK hD hS hZ hl
  have hl : lv_has ls 2 [(0, .ref (am 0)), (1, .int (nI a0))] := hl
  refine lv_aload_n hx hb d_M_two_0 rfl (lv_at hl 0 rfl) ?_
  refine va_get (D := D) (ci := 8) (C := R_M) (T := T_M) (N := 39) hx hb hts (fun w h => kT w (i_M w h)) hown hK hP 0 rfl rfl 25 (by decide) (hts _ (kT _ wd_2dbf250b)) (fun _ h9 => h9) rfl d_M_two_1 ?_
  refine lv_iload_n hx hb d_M_two_4 rfl (lv_at hl 1 rfl) ?_
  refine n_iald hx hb hK hP 19 18 rfl rfl (i := a0) (by omega) (by decide) d_M_two_5 ?_
  refine lv_sipush (v := nI 256) hx hb d_M_two_6 (by decide) ?_
  refine lv_aload_n hx hb d_M_two_9 rfl (lv_at hl 0 rfl) ?_
  refine va_get (D := D) (ci := 8) (C := R_M) (T := T_M) (N := 39) hx hb hts (fun w h => kT w (i_M w h)) hown hK hP 0 rfl rfl 25 (by decide) (hts _ (kT _ wd_2dbf250b)) (fun _ h9 => h9) rfl d_M_two_10 ?_
  refine lv_iload_n hx hb d_M_two_13 rfl (lv_at hl 1 rfl) ?_
  refine lv_iconst (v := nI 1) hx hb d_M_two_14 (by decide) ?_
  refine lv_iadd hx hb d_M_two_15 ?_
  refine lv_eqi (nI_add _ _) ?_
  refine n_iald hx hb hK hP 19 18 rfl rfl (i := (a0 + 1)) (by omega) (by decide) d_M_two_16 ?_
  refine lv_imul hx hb d_M_two_17 ?_
  refine lv_eqi (pk_mul _ _) ?_
  refine lv_iadd hx hb d_M_two_18 ?_
  refine lv_eqi (nI_add _ _) ?_
  exact k_iret hx hb hr hlocks hK hP hD hS (trivial) (nI_congr (le2 ha (by omega)).symm) (rfl) d_M_two_19
set_option maxHeartbeats 4000000 in
set_option maxRecDepth 100000 in
theorem m_four (l : Launch) (D : va_G) (am : Nat → Nat) (gm : Nat → ClassId) (tw : Nat) (sLen sKind : Nat → Nat) (sExt : Nat → Int32) (sMust : Nat → Bool) (rTab : Nat → Nat) (rFil : Nat → Bool) (mNum : Nat → Int64) (rLen : Nat → Nat) (rItm : Nat → Int32) (made : Nat) (pItm : Nat → Int32) (held : Nat) (dByt : Nat → Nat) (dLen : Nat) (ver : Bool) (fAdr fTab adr tab : Nat) (lf : Int32) (mCode : Nat) (row : Nat → Nat) (mWr mWid : Nat) (mOv : Bool) (mPl mTh mSp mPile mNext mSh : Nat → Nat) (mShs : Nat) (mRea : Nat → Bool) (mWg : Int32) (mEn mDp : Nat) (mAt mTb mSt : Nat → Nat) (a0 : Nat)  (ha : a0 + 4 ≤ dLen) (hB : ∀ k, dByt k < 256) (hd : dLen ≤ 240) : kM l y_M_four b_M_four 2 (some .long) ({ frames := 1, cells := 0, slots := 0, locals := 21 }) D vwCl (WmT gm) tw [.ref (am 0), .int (nI a0)] (Wm am gm sLen sKind sExt sMust rTab rFil mNum rLen rItm made pItm held dByt dLen ver fAdr fTab adr tab lf mCode row mWr mWid mOv mPl mTh mSp mPile mNext mSh mShs mRea mWg mEn mDp mAt mTb mSt) (some (.long (lN (leN dByt dLen (nI a0) 4)))) (Wm am gm sLen sKind sExt sMust rTab rFil mNum rLen rItm made pItm held dByt dLen ver fAdr fTab adr tab lf mCode row mWr mWid mOv mPl mTh mSp mPile mNext mSh mShs mRea mWg mEn mDp mAt mTb mSt) := by
  refine k_of (by decide) (Nat.le_of_ble_eq_true rfl) ?_
  intro p e s m below meth c A ls hx hb hr hlocks hml hts hown hin0 hA hP hK hD hS hZ hl
  have hl : lv_has ls 2 [(0, .ref (am 0)), (1, .int (nI a0))] := hl
  refine lv_aload_n hx hb d_M_four_0 rfl (lv_at hl 0 rfl) ?_
  refine lv_iload_n hx hb d_M_four_1 rfl (lv_at hl 1 rfl) ?_
  refine k_callV (m_two l D am gm tw sLen sKind sExt sMust rTab rFil mNum rLen rItm made pItm held dByt dLen ver fAdr fTab adr tab lf mCode row mWr mWid mOv mPl mTh mSp mPile mNext mSh mShs mRea mWg mEn mDp mAt mTb mSt a0  (by omega) hB hd) m_M_two wd_f4633fa4 0 8 rfl rfl rfl kT hx hb hml hown hts ⟨Nat.le_of_ble_eq_true rfl, Nat.le_of_ble_eq_true rfl⟩ ⟨Nat.le_of_ble_eq_true rfl, Nat.le_of_ble_eq_true rfl⟩ hK hP hD hS hA hZ hl.1 rfl rfl (Nat.le_of_ble_eq_true rfl) d_M_four_2 (fun H locs hP hD hS => ?_)
  have hP : va_P D vwCl (Wm am gm sLen sKind sExt sMust rTab rFil mNum rLen rItm made pItm held dByt dLen ver fAdr fTab adr tab lf mCode row mWr mWid mOv mPl mTh mSp mPile mNext mSh mShs mRea mWg mEn mDp mAt mTb mSt) H := hP
  have hD : va_D A (Wm am gm sLen sKind sExt sMust rTab rFil mNum rLen rItm made pItm held dByt dLen ver fAdr fTab adr tab lf mCode row mWr mWid mOv mPl mTh mSp mPile mNext mSh mShs mRea mWg mEn mDp mAt mTb mSt) := hD
  refine W.eq (g2 := F0 m 5 ls [.int (nI (leN dByt dLen (nI a0) 2))]) rfl ?_
  refine lv_i2l hx hb d_M_four_5 rfl ?_
  refine lv_ldc2 (v := 65536) hx hb hown (hts _ (kT _ wd_3b252c6b)) d_M_four_6 ?_
  refine lv_aload_n hx hb d_M_four_9 rfl (lv_at hl 0 rfl) ?_
  refine lv_iload_n hx hb d_M_four_10 rfl (lv_at hl 1 rfl) ?_
  refine lv_iconst (v := nI 2) hx hb d_M_four_11 (by decide) ?_
  refine lv_iadd hx hb d_M_four_12 ?_
  refine lv_eqi (nI_add _ _) ?_
  refine k_callV (m_two l D am gm tw sLen sKind sExt sMust rTab rFil mNum rLen rItm made pItm held dByt dLen ver fAdr fTab adr tab lf mCode row mWr mWid mOv mPl mTh mSp mPile mNext mSh mShs mRea mWg mEn mDp mAt mTb mSt (a0 + 2)  (by omega) hB hd) m_M_two wd_f4633fa4 0 8 rfl rfl rfl kT hx hb hml hown hts ⟨Nat.le_of_ble_eq_true rfl, Nat.le_of_ble_eq_true rfl⟩ ⟨Nat.le_of_ble_eq_true rfl, Nat.le_of_ble_eq_true rfl⟩ hK hP hD hS hA hZ hl.1 rfl rfl (Nat.le_of_ble_eq_true rfl) d_M_four_13 (fun H locs hP hD hS => ?_)
  have hP : va_P D vwCl (Wm am gm sLen sKind sExt sMust rTab rFil mNum rLen rItm made pItm held dByt dLen ver fAdr fTab adr tab lf mCode row mWr mWid mOv mPl mTh mSp mPile mNext mSh mShs mRea mWg mEn mDp mAt mTb mSt) H := hP
  have hD : va_D A (Wm am gm sLen sKind sExt sMust rTab rFil mNum rLen rItm made pItm held dByt dLen ver fAdr fTab adr tab lf mCode row mWr mWid mOv mPl mTh mSp mPile mNext mSh mShs mRea mWg mEn mDp mAt mTb mSt) := hD
  refine W.eq (g2 := F0 m 16 ls [.int (nI (leN dByt dLen (nI (a0 + 2)) 2)), .long (65536 : Int64), .long ((nI (leN dByt dLen (nI a0) 2)).toInt64)]) rfl ?_
  refine lv_i2l hx hb d_M_four_16 rfl ?_
  refine lv_lmul hx hb d_M_four_17 ?_
  refine lv_ladd hx hb d_M_four_18 ?_
  exact k_lret hx hb hr hlocks hK hP hD hS (trivial) (by rw [le4 ha (by omega)]; exact four_eq (leN_lt hB 2) (leN_lt hB 2)) (rfl) d_M_four_19
set_option maxHeartbeats 4000000 in
set_option maxRecDepth 100000 in
theorem m_offset4 (l : Launch) (D : va_G) (am : Nat → Nat) (gm : Nat → ClassId) (tw : Nat) (sLen sKind : Nat → Nat) (sExt : Nat → Int32) (sMust : Nat → Bool) (rTab : Nat → Nat) (rFil : Nat → Bool) (mNum : Nat → Int64) (rLen : Nat → Nat) (rItm : Nat → Int32) (made : Nat) (pItm : Nat → Int32) (held : Nat) (dByt : Nat → Nat) (dLen : Nat) (ver : Bool) (fAdr fTab adr tab : Nat) (lf : Int32) (mCode : Nat) (row : Nat → Nat) (mWr mWid : Nat) (mOv : Bool) (mPl mTh mSp mPile mNext mSh : Nat → Nat) (mShs : Nat) (mRea : Nat → Bool) (mWg : Int32) (mEn mDp : Nat) (mAt mTb mSt : Nat → Nat) (a0 : Nat)  (ha : a0 + 4 ≤ dLen) (hB : ∀ k, dByt k < 256) (hd : dLen ≤ 240) : kM l y_M_offset4 b_M_offset4 2 (some .int) ({ frames := 2, cells := 0, slots := 0, locals := 42 }) D vwCl (WmT gm) tw [.ref (am 0), .int (nI a0)] (Wm am gm sLen sKind sExt sMust rTab rFil mNum rLen rItm made pItm held dByt dLen ver fAdr fTab adr tab lf mCode row mWr mWid mOv mPl mTh mSp mPile mNext mSh mShs mRea mWg mEn mDp mAt mTb mSt) (some (.int (nI (min (leN dByt dLen (nI a0) 4) 100000)))) (Wm am gm sLen sKind sExt sMust rTab rFil mNum rLen rItm made pItm held dByt dLen ver fAdr fTab adr tab lf mCode row mWr mWid mOv mPl mTh mSp mPile mNext mSh mShs mRea mWg mEn mDp mAt mTb mSt) := by
  refine k_of (by decide) (Nat.le_of_ble_eq_true rfl) ?_
  intro p e s m below meth c A ls hx hb hr hlocks hml hts hown hin0 hA hP hK hD hS hZ hl
  have hl : lv_has ls 2 [(0, .ref (am 0)), (1, .int (nI a0))] := hl
  refine lv_aload_n hx hb d_M_offset4_0 rfl (lv_at hl 0 rfl) ?_
  refine lv_iload_n hx hb d_M_offset4_1 rfl (lv_at hl 1 rfl) ?_
  refine k_callV (m_four l D am gm tw sLen sKind sExt sMust rTab rFil mNum rLen rItm made pItm held dByt dLen ver fAdr fTab adr tab lf mCode row mWr mWid mOv mPl mTh mSp mPile mNext mSh mShs mRea mWg mEn mDp mAt mTb mSt a0  ha hB hd) m_M_four wd_bcc5a5aa 0 8 rfl rfl rfl kT hx hb hml hown hts ⟨Nat.le_of_ble_eq_true rfl, Nat.le_of_ble_eq_true rfl⟩ ⟨Nat.le_of_ble_eq_true rfl, Nat.le_of_ble_eq_true rfl⟩ hK hP hD hS hA hZ hl.1 rfl rfl (Nat.le_of_ble_eq_true rfl) d_M_offset4_2 (fun H locs hP hD hS => ?_)
  have hP : va_P D vwCl (Wm am gm sLen sKind sExt sMust rTab rFil mNum rLen rItm made pItm held dByt dLen ver fAdr fTab adr tab lf mCode row mWr mWid mOv mPl mTh mSp mPile mNext mSh mShs mRea mWg mEn mDp mAt mTb mSt) H := hP
  have hD : va_D A (Wm am gm sLen sKind sExt sMust rTab rFil mNum rLen rItm made pItm held dByt dLen ver fAdr fTab adr tab lf mCode row mWr mWid mOv mPl mTh mSp mPile mNext mSh mShs mRea mWg mEn mDp mAt mTb mSt) := hD
  refine W.eq (g2 := F0 m 5 ls [.long (lN (leN dByt dLen (nI a0) 4))]) rfl ?_
  refine lv_ldc2 (v := 100000) hx hb hown (hts _ (kT _ wd_77e7ca53)) d_M_offset4_5 ?_
  refine W.lcmp hx hb d_M_offset4_8 ?_
  refine lv_if_le (tgt := 17) hx hb d_M_offset4_9 (by decide) (fun c_9 => ?_) (fun c_9 => ?_)
  · skip
    have c_9 := (lg_cmp_le _ _).mp c_9
    refine lv_aload_n hx hb d_M_offset4_17 rfl (lv_at hl 0 rfl) ?_
    refine lv_iload_n hx hb d_M_offset4_18 rfl (lv_at hl 1 rfl) ?_
    refine k_callV (m_four l D am gm tw sLen sKind sExt sMust rTab rFil mNum rLen rItm made pItm held dByt dLen ver fAdr fTab adr tab lf mCode row mWr mWid mOv mPl mTh mSp mPile mNext mSh mShs mRea mWg mEn mDp mAt mTb mSt a0  ha hB hd) m_M_four wd_bcc5a5aa 0 8 rfl rfl rfl kT hx hb hml hown hts ⟨Nat.le_of_ble_eq_true rfl, Nat.le_of_ble_eq_true rfl⟩ ⟨Nat.le_of_ble_eq_true rfl, Nat.le_of_ble_eq_true rfl⟩ hK hP hD hS hA hZ hl.1 rfl rfl (Nat.le_of_ble_eq_true rfl) d_M_offset4_19 (fun H locs hP hD hS => ?_)
    have hP : va_P D vwCl (Wm am gm sLen sKind sExt sMust rTab rFil mNum rLen rItm made pItm held dByt dLen ver fAdr fTab adr tab lf mCode row mWr mWid mOv mPl mTh mSp mPile mNext mSh mShs mRea mWg mEn mDp mAt mTb mSt) H := hP
    have hD : va_D A (Wm am gm sLen sKind sExt sMust rTab rFil mNum rLen rItm made pItm held dByt dLen ver fAdr fTab adr tab lf mCode row mWr mWid mOv mPl mTh mSp mPile mNext mSh mShs mRea mWg mEn mDp mAt mTb mSt) := hD
    refine W.eq (g2 := F0 m 22 ls [.long (lN (leN dByt dLen (nI a0) 4))]) rfl ?_
    refine lv_l2i hx hb d_M_offset4_22 rfl ?_
    exact k_iret hx hb hr hlocks hK hP hD hS (trivial) (by rw [lN_i32]; exact nI_congr (by have := (l_le (leN_lt hB 4)).mp c_9; omega)) (rfl) d_M_offset4_23
  · skip
    have c_9 := mt (lg_cmp_le _ _).mpr c_9
    refine lv_ldc (v := 100000) hx hb hown (hts _ (kT _ wd_cc28c981)) d_M_offset4_12 ?_
    refine lv_eqi (show (100000 : Int32) = nI 100000 by decide) ?_
    refine lv_goto (tgt := 23) hx hb d_M_offset4_14 (by decide) ?_
    exact k_iret hx hb hr hlocks hK hP hD hS (trivial) (nI_congr (by have := mt (l_le (leN_lt hB 4)).mpr c_9; omega)) (rfl) d_M_offset4_23
set_option maxHeartbeats 4000000 in
set_option maxRecDepth 100000 in
theorem m_fail (l : Launch) (D : va_G) (am : Nat → Nat) (gm : Nat → ClassId) (tw : Nat) (sLen sKind : Nat → Nat) (sExt : Nat → Int32) (sMust : Nat → Bool) (rTab : Nat → Nat) (rFil : Nat → Bool) (mNum : Nat → Int64) (rLen : Nat → Nat) (rItm : Nat → Int32) (made : Nat) (pItm : Nat → Int32) (held : Nat) (dByt : Nat → Nat) (dLen : Nat) (ver : Bool) (fAdr fTab adr tab : Nat) (lf : Int32) (mCode : Nat) (row : Nat → Nat) (mWr mWid : Nat) (mOv : Bool) (mPl mTh mSp mPile mNext mSh : Nat → Nat) (mShs : Nat) (mRea : Nat → Bool) (mWg : Int32) (mEn mDp : Nat) (mAt mTb mSt : Nat → Nat) (z : Int32)   : kM l y_M_fail b_M_fail 2 none ({ frames := 0, cells := 0, slots := 0, locals := 0 }) D vwCl (WmT gm) tw [.ref (am 0), .int z] (Wm am gm sLen sKind sExt sMust rTab rFil mNum rLen rItm made pItm held dByt dLen ver fAdr fTab adr tab lf mCode row mWr mWid mOv mPl mTh mSp mPile mNext mSh mShs mRea mWg mEn mDp mAt mTb mSt) none (Wm am gm sLen sKind sExt sMust rTab rFil mNum rLen rItm made pItm held dByt dLen ver fAdr fTab adr tab lf mCode row mWr mWid mOv mPl mTh mSp mPile mNext mSh mShs mRea (if mWg < 0 then z else mWg) mEn mDp mAt mTb mSt) := by
  refine k_of (by decide) (Nat.le_of_ble_eq_true rfl) ?_
  intro p e s m below meth c A ls hx hb hr hlocks hml hts hown hin0 hA hP hK hD hS hZ hl
  have hl : lv_has ls 2 [(0, .ref (am 0)), (1, .int z)] := hl
  refine lv_aload_n hx hb d_M_fail_0 rfl (lv_at hl 0 rfl) ?_
  refine va_get (D := D) (ci := 8) (C := R_M) (T := T_M) (N := 39) hx hb hts (fun w h => kT w (i_M w h)) hown hK hP 0 rfl rfl 33 (by decide) (hts _ (kT _ wd_de5033cc)) (fun _ h9 => h9) rfl d_M_fail_1 ?_
  refine lv_if_ge (tgt := 12) hx hb d_M_fail_4 (by decide) (fun c_4 => ?_) (fun c_4 => ?_)
  · skip
    exact k_vret hx hb hr hlocks hK hP hD hS (trivial) (by first | rw [if_pos (i_lt c_4)] | rw [if_neg (i_nlt c_4)]) d_M_fail_12
  · skip
    refine lv_aload_n hx hb d_M_fail_7 rfl (lv_at hl 0 rfl) ?_
    refine lv_iload_n hx hb d_M_fail_8 rfl (lv_at hl 1 rfl) ?_
    refine va_put (D := D) (ci := 8) (ty := .int) (C := R_M) (T := T_M) (N := 39) hx hb hts (fun w h => kT w (i_M w h)) ty_M tyk_M nm_M hown hK hP hD hS 0 rfl rfl 33 (by decide) (hts _ (kT _ wd_de5033cc)) (fun _ h9 => h9) rfl (by decide +kernel) rfl rfl (Nat.le_of_ble_eq_true rfl) d_M_fail_9 (fun H locs hP hD hS => ?_)
    have hP : va_P D vwCl (Wm am gm sLen sKind sExt sMust rTab rFil mNum rLen rItm made pItm held dByt dLen ver fAdr fTab adr tab lf mCode row mWr mWid mOv mPl mTh mSp mPile mNext mSh mShs mRea z mEn mDp mAt mTb mSt) H := hP
    have hD : va_D A (Wm am gm sLen sKind sExt sMust rTab rFil mNum rLen rItm made pItm held dByt dLen ver fAdr fTab adr tab lf mCode row mWr mWid mOv mPl mTh mSp mPile mNext mSh mShs mRea z mEn mDp mAt mTb mSt) := hD
    exact k_vret hx hb hr hlocks hK hP hD hS (trivial) (by first | rw [if_pos (i_lt c_4)] | rw [if_neg (i_nlt c_4)]) d_M_fail_12
set_option maxHeartbeats 4000000 in
set_option maxRecDepth 100000 in
theorem m_tableAt (l : Launch) (D : va_G) (am : Nat → Nat) (gm : Nat → ClassId) (tw : Nat) (sLen sKind : Nat → Nat) (sExt : Nat → Int32) (sMust : Nat → Bool) (rTab : Nat → Nat) (rFil : Nat → Bool) (mNum : Nat → Int64) (rLen : Nat → Nat) (rItm : Nat → Int32) (made : Nat) (pItm : Nat → Int32) (held : Nat) (dByt : Nat → Nat) (dLen : Nat) (ver : Bool) (fAdr fTab adr tab : Nat) (lf : Int32) (mCode : Nat) (row : Nat → Nat) (mWr mWid : Nat) (mOv : Bool) (mPl mTh mSp mPile mNext mSh : Nat → Nat) (mShs : Nat) (mRea : Nat → Bool) (mWg : Int32) (mEn mDp : Nat) (mAt mTb mSt : Nat → Nat) (a0 : Nat)  (ha : a0 + 4 ≤ dLen) (hB : ∀ k, dByt k < 256) (hd : dLen ≤ 240) : kM l y_M_tableAt b_M_tableAt 2 (some .int) ({ frames := 2, cells := 0, slots := 0, locals := 42 }) D vwCl (WmT gm) tw [.ref (am 0), .int (nI a0)] (Wm am gm sLen sKind sExt sMust rTab rFil mNum rLen rItm made pItm held dByt dLen ver fAdr fTab adr tab lf mCode row mWr mWid mOv mPl mTh mSp mPile mNext mSh mShs mRea mWg mEn mDp mAt mTb mSt) (some (.int (vOf dByt dLen a0))) (Wm am gm sLen sKind sExt sMust rTab rFil mNum rLen rItm made pItm held dByt dLen ver fAdr fTab adr tab lf mCode row mWr mWid mOv mPl mTh mSp mPile mNext mSh mShs mRea mWg mEn mDp mAt mTb mSt) := by
  refine k_of (by decide) (Nat.le_of_ble_eq_true rfl) ?_
  intro p e s m below meth c A ls hx hb hr hlocks hml hts hown hin0 hA hP hK hD hS hZ hl
  have hl : lv_has ls 2 [(0, .ref (am 0)), (1, .int (nI a0))] := hl
  refine lv_iload_n hx hb d_M_tableAt_0 rfl (lv_at hl 1 rfl) ?_
  refine lv_aload_n hx hb d_M_tableAt_1 rfl (lv_at hl 0 rfl) ?_
  refine lv_iload_n hx hb d_M_tableAt_2 rfl (lv_at hl 1 rfl) ?_
  refine k_callV (m_four l D am gm tw sLen sKind sExt sMust rTab rFil mNum rLen rItm made pItm held dByt dLen ver fAdr fTab adr tab lf mCode row mWr mWid mOv mPl mTh mSp mPile mNext mSh mShs mRea mWg mEn mDp mAt mTb mSt a0  ha hB hd) m_M_four wd_bcc5a5aa 0 8 rfl rfl rfl kT hx hb hml hown hts ⟨Nat.le_of_ble_eq_true rfl, Nat.le_of_ble_eq_true rfl⟩ ⟨Nat.le_of_ble_eq_true rfl, Nat.le_of_ble_eq_true rfl⟩ hK hP hD hS hA hZ hl.1 rfl rfl (Nat.le_of_ble_eq_true rfl) d_M_tableAt_3 (fun H locs hP hD hS => ?_)
  have hP : va_P D vwCl (Wm am gm sLen sKind sExt sMust rTab rFil mNum rLen rItm made pItm held dByt dLen ver fAdr fTab adr tab lf mCode row mWr mWid mOv mPl mTh mSp mPile mNext mSh mShs mRea mWg mEn mDp mAt mTb mSt) H := hP
  have hD : va_D A (Wm am gm sLen sKind sExt sMust rTab rFil mNum rLen rItm made pItm held dByt dLen ver fAdr fTab adr tab lf mCode row mWr mWid mOv mPl mTh mSp mPile mNext mSh mShs mRea mWg mEn mDp mAt mTb mSt) := hD
  refine W.eq (g2 := F0 m 6 ls [.long (lN (leN dByt dLen (nI a0) 4)), .int (nI a0)]) rfl ?_
  refine lv_l2i hx hb d_M_tableAt_6 rfl ?_
  refine lv_isub hx hb d_M_tableAt_7 ?_
  exact k_iret hx hb hr hlocks hK hP hD hS (trivial) (tat_eq (leN_lt hB 4)) (rfl) d_M_tableAt_8
set_option maxHeartbeats 4000000 in
set_option maxRecDepth 100000 in
theorem m_badV (l : Launch) (D : va_G) (am : Nat → Nat) (gm : Nat → ClassId) (tw : Nat) (sLen sKind : Nat → Nat) (sExt : Nat → Int32) (sMust : Nat → Bool) (rTab : Nat → Nat) (rFil : Nat → Bool) (mNum : Nat → Int64) (rLen : Nat → Nat) (rItm : Nat → Int32) (made : Nat) (pItm : Nat → Int32) (held : Nat) (dByt : Nat → Nat) (dLen : Nat) (ver : Bool) (fAdr fTab adr tab : Nat) (lf : Int32) (mCode : Nat) (row : Nat → Nat) (mWr mWid : Nat) (mOv : Bool) (mPl mTh mSp mPile mNext mSh : Nat → Nat) (mShs : Nat) (mRea : Nat → Bool) (mWg : Int32) (mEn mDp : Nat) (mAt mTb mSt : Nat → Nat) (a0 : Nat)  (ha : a0 + 4 ≤ dLen) (hB : ∀ k, dByt k < 256) (hd : dLen ≤ 240) : kM l y_M_badV b_M_badV 4 (some .boolean) ({ frames := 2, cells := 0, slots := 0, locals := 42 }) D vwCl (WmT gm) tw [.ref (am 0), .int (nI a0)] (Wm am gm sLen sKind sExt sMust rTab rFil mNum rLen rItm made pItm held dByt dLen ver fAdr fTab adr tab lf mCode row mWr mWid mOv mPl mTh mSp mPile mNext mSh mShs mRea mWg mEn mDp mAt mTb mSt) (some (.int (bI (bdV dByt dLen a0)))) (Wm am gm sLen sKind sExt sMust rTab rFil mNum rLen rItm made pItm held dByt dLen ver fAdr fTab adr tab lf mCode row mWr mWid mOv mPl mTh mSp mPile mNext mSh mShs mRea mWg mEn mDp mAt mTb mSt) := by
  refine k_of (by decide) (Nat.le_of_ble_eq_true rfl) ?_
  intro p e s m below meth c A ls hx hb hr hlocks hml hts hown hin0 hA hP hK hD hS hZ hl
  have hl : lv_has ls 4 [(0, .ref (am 0)), (1, .int (nI a0))] := hl
  refine lv_iload_n hx hb d_M_badV_0 rfl (lv_at hl 1 rfl) ?_
  refine lv_i2l hx hb d_M_badV_1 rfl ?_
  refine lv_aload_n hx hb d_M_badV_2 rfl (lv_at hl 0 rfl) ?_
  refine lv_iload_n hx hb d_M_badV_3 rfl (lv_at hl 1 rfl) ?_
  refine k_callV (m_four l D am gm tw sLen sKind sExt sMust rTab rFil mNum rLen rItm made pItm held dByt dLen ver fAdr fTab adr tab lf mCode row mWr mWid mOv mPl mTh mSp mPile mNext mSh mShs mRea mWg mEn mDp mAt mTb mSt a0  ha hB hd) m_M_four wd_bcc5a5aa 0 8 rfl rfl rfl kT hx hb hml hown hts ⟨Nat.le_of_ble_eq_true rfl, Nat.le_of_ble_eq_true rfl⟩ ⟨Nat.le_of_ble_eq_true rfl, Nat.le_of_ble_eq_true rfl⟩ hK hP hD hS hA hZ hl.1 rfl rfl (Nat.le_of_ble_eq_true rfl) d_M_badV_4 (fun H locs hP hD hS => ?_)
  have hP : va_P D vwCl (Wm am gm sLen sKind sExt sMust rTab rFil mNum rLen rItm made pItm held dByt dLen ver fAdr fTab adr tab lf mCode row mWr mWid mOv mPl mTh mSp mPile mNext mSh mShs mRea mWg mEn mDp mAt mTb mSt) H := hP
  have hD : va_D A (Wm am gm sLen sKind sExt sMust rTab rFil mNum rLen rItm made pItm held dByt dLen ver fAdr fTab adr tab lf mCode row mWr mWid mOv mPl mTh mSp mPile mNext mSh mShs mRea mWg mEn mDp mAt mTb mSt) := hD
  refine W.eq (g2 := F0 m 7 ls [.long (lN (leN dByt dLen (nI a0) 4)), .long ((nI a0).toInt64)]) rfl ?_
  refine lv_l2i hx hb d_M_badV_7 rfl ?_
  refine lv_i2l hx hb d_M_badV_8 rfl ?_
  refine lv_eql (sx4 (leN_lt hB 4)) ?_
  refine lv_lsub hx hb d_M_badV_9 ?_
  refine lv_lstore_n (lv' := [(2, .long (((nI a0).toInt64) - (sxL 4 (leN dByt dLen (nI a0) 4)))), (0, .ref (am 0)), (1, .int (nI a0))]) hx hb d_M_badV_10 rfl hl (by decide) rfl (fun ls hl => ?_)
  refine lv_lload_n hx hb d_M_badV_11 rfl (lv_at hl 0 rfl) ?_
  refine lv_lconst (v := 0) hx hb d_M_badV_12 (by decide) ?_
  refine W.lcmp hx hb d_M_badV_13 ?_
  refine lv_if_lt (tgt := 41) hx hb d_M_badV_14 (by decide) (fun c_14 => ?_) (fun c_14 => ?_)
  · skip
    have c_14 := (lg_cmp_lt _ _).mp c_14
    refine lv_iconst (v := nI 1) hx hb d_M_badV_41 (by decide) ?_
    refine lv_goto (tgt := 46) hx hb d_M_badV_42 (by decide) ?_
    exact k_zret hx hb hr hlocks hK hP hD hS (trivial) (by rw [nI_bI1]; exact congrArg bI (decide_eq_true (Or.inl c_14)).symm) (rfl) (bI_nar _) d_M_badV_46
  · skip
    have c_14 := mt (lg_cmp_lt _ _).mpr c_14
    refine lv_lload_n hx hb d_M_badV_17 rfl (lv_at hl 0 rfl) ?_
    refine lv_ldc2 (v := 2) hx hb hown (hts _ (kT _ wd_44b0186f)) d_M_badV_18 ?_
    refine lv_lrem hx hb d_M_badV_21 (by decide) ?_
    refine lv_lconst (v := 0) hx hb d_M_badV_22 (by decide) ?_
    refine W.lcmp hx hb d_M_badV_23 ?_
    refine lv_if_ne (tgt := 41) hx hb d_M_badV_24 (by decide) (fun c_24 => ?_) (fun c_24 => ?_)
    · skip
      have c_24 := mt (lg_cmp_eq _ _).mpr c_24
      refine lv_iconst (v := nI 1) hx hb d_M_badV_41 (by decide) ?_
      refine lv_goto (tgt := 46) hx hb d_M_badV_42 (by decide) ?_
      exact k_zret hx hb hr hlocks hK hP hD hS (trivial) (by rw [nI_bI1]; exact congrArg bI (decide_eq_true (Or.inr (Or.inl c_24))).symm) (rfl) (bI_nar _) d_M_badV_46
    · skip
      have c_24 := (lg_cmp_eq _ _).mp c_24
      refine lv_lload_n hx hb d_M_badV_27 rfl (lv_at hl 0 rfl) ?_
      refine lv_ldc2 (v := 4) hx hb hown (hts _ (kT _ wd_119f2e75)) d_M_badV_28 ?_
      refine lv_ladd hx hb d_M_badV_31 ?_
      refine lv_aload_n hx hb d_M_badV_32 rfl (lv_at hl 1 rfl) ?_
      refine va_get (D := D) (ci := 8) (C := R_M) (T := T_M) (N := 39) hx hb hts (fun w h => kT w (i_M w h)) hown hK hP 0 rfl rfl 26 (by decide) (hts _ (kT _ wd_3139de6a)) (fun _ h9 => h9) rfl d_M_badV_33 ?_
      refine lv_i2l hx hb d_M_badV_36 rfl ?_
      refine W.lcmp hx hb d_M_badV_37 ?_
      refine lv_if_le (tgt := 45) hx hb d_M_badV_38 (by decide) (fun c_38 => ?_) (fun c_38 => ?_)
      · skip
        have c_38 := (lg_cmp_le _ _).mp c_38
        refine lv_iconst (v := nI 0) hx hb d_M_badV_45 (by decide) ?_
        exact k_zret hx hb hr hlocks hK hP hD hS (trivial) (by rw [nI_bI0]; exact congrArg bI (decide_eq_false (fun z => z.elim (fun z => c_14 z) (fun z => z.elim (fun z => z c_24) (fun z => z c_38)))).symm) (rfl) (bI_nar _) d_M_badV_46
      · skip
        have c_38 := mt (lg_cmp_le _ _).mpr c_38
        refine lv_iconst (v := nI 1) hx hb d_M_badV_41 (by decide) ?_
        refine lv_goto (tgt := 46) hx hb d_M_badV_42 (by decide) ?_
        exact k_zret hx hb hr hlocks hK hP hD hS (trivial) (by rw [nI_bI1]; exact congrArg bI (decide_eq_true (Or.inr (Or.inr c_38))).symm) (rfl) (bI_nar _) d_M_badV_46

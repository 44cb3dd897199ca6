/-! the verifying -/
def vL (d : Nat → Nat) (n x : Nat) : Int64 := (nI x).toInt64 - sxL 4 (leN d n (nI x) 4)
def vN (d : Nat → Nat) (n x : Nat) : Nat := cN (vOf d n x)
def bdV (d : Nat → Nat) (n x : Nat) : Bool := decide (vL d n x < 0 ∨ ¬ vL d n x - vL d n x / 2 * 2 = 0 ∨ ¬ vL d n x + 4 ≤ (nI n).toInt64)
theorem nI_64 {x : Nat} (h : x < 2 ^ 31) : (nI x).toInt64.toInt = (x : Int) := by rw [Int32.toInt_toInt64, nI_toInt h]
theorem s4_in {d : Nat → Nat} {n : Nat} {y : Int32} (hB : ∀ k, d k < 256) : -(2 ^ 31 : Int) ≤ (sxL 4 (leN d n y 4)).toInt ∧ (sxL 4 (leN d n y 4)).toInt < 2 ^ 31 := by
  have h0 : leN d n y 4 < 2 ^ (8 * 4) := leN_lt hB 4
  rw [sxL_toInt (by decide) (by decide) h0]
  generalize leN d n y 4 = u at *
  split <;> omega
theorem bm64 {z : Int} (h1 : -(2 ^ 40 : Int) ≤ z) (h2 : z < 2 ^ 40) : z.bmod (2 ^ 64) = z := Int.bmod_eq_of_le (by omega) (by omega)
theorem vL_int {d : Nat → Nat} {n x : Nat} (hB : ∀ k, d k < 256) (hx : x < 2 ^ 30) : (vL d n x).toInt = (x : Int) - (sxL 4 (leN d n (nI x) 4)).toInt := by
  have h := s4_in (n := n) (y := nI x) hB
  rw [vL, Int64.toInt_sub, nI_64 (by omega), bm64 (by omega) (by omega)]
theorem vO_ok {d : Nat → Nat} {n x : Nat} (hB : ∀ k, d k < 256) (hx : x < 2 ^ 30) (hn : n ≤ 240) (h : bdV d n x = false) : vOf d n x = nI (vN d n x) ∧ vN d n x + 4 ≤ n := by
  have h1 := of_decide_eq_false h
  have h2 : ¬ vL d n x < 0 := fun z => h1 (Or.inl z)
  have h3 : vL d n x + 4 ≤ (nI n).toInt64 := Classical.not_not.mp (fun z => h1 (Or.inr (Or.inr z)))
  have e := vL_int (n := n) hB hx
  have s := s4_in (n := n) (y := nI x) hB
  have i2 : 0 ≤ (vL d n x).toInt := by
    have h9 : ¬ (vL d n x).toInt < 0 := fun z => h2 (Int64.lt_iff_toInt_lt.mpr z)
    omega
  have i3 : (vL d n x).toInt + 4 ≤ (n : Int) := by
    have := Int64.le_iff_toInt_le.mp h3
    rw [Int64.toInt_add, nI_64 (by omega), bm64 (by show _ ≤ (vL d n x).toInt + 4; omega) (by show (vL d n x).toInt + 4 < _; omega)] at this
    exact this
  have i4 : (vOf d n x).toInt = (vL d n x).toInt := by
    show (vL d n x).toInt32.toInt = _
    rw [Int64.toInt_toInt32]
    exact Int.bmod_eq_of_le (by omega) (by omega)
  have i5 : ¬ vOf d n x < 0 := by
    rw [Int32.lt_iff_toInt_lt, i4]
    show ¬ (vL d n x).toInt < 0
    omega
  have i6 := nI_cN i5
  refine ⟨i6, ?_⟩
  show cN (vOf d n x) + 4 ≤ n
  have i7 : (cN (vOf d n x) : Int) = (vOf d n x).toInt := by
    show (((vOf d n x).toInt.toNat : Nat) : Int) = _
    omega
  omega
def ioF (d : Nat → Nat) (n x o : Nat) : Int32 :=
  if leN d n (nI o) 2 % 2 ≠ 0 ∨ leN d n (nI o) 2 < 4 ∨ n < o + leN d n (nI o) 2 then nI o
  else if leN d n (nI (o + 2)) 2 < 4 ∨ n < x + leN d n (nI (o + 2)) 2 then nI (o + 2) else -1
def sdF (d : Nat → Nat) (n k s : Nat) : Bool := decide (s % 4 = 0 ∧ s + 4 ≤ n ∧ min (leN d n (nI s) 4) 100000 ≤ 200 ∧ (k = 5 → s + 4 + 2 * min (leN d n (nI s) 4) 100000 ≤ n) ∧ (¬ k = 5 → s + 4 + min (leN d n (nI s) 4) 100000 < n ∧ leN d n (nI (s + 4 + min (leN d n (nI s) 4) 100000)) 1 = 0))
abbrev VT : Type := Nat → Nat → Nat → Nat → Int32 × Nat
def fdF (q : SR) (d : Nat → Nat) (n : Nat) (T : VT) (x t f en : Nat) : Int32 × Nat :=
  if ofF d n x f = 0 then (if q.sMust (t * 6 + f) = true then nI x else -1, en)
  else if ofF d n x f < 4 ∨ leN d n (nI (vN d n x + 2)) 2 < ofF d n x f + kWd (q.sKind (t * 6 + f)) ∨ ¬ (x + ofF d n x f) % kWd (q.sKind (t * 6 + f)) = 0 then (nI (vN d n x + 4 + 2 * f), en)
  else if q.sKind (t * 6 + f) = 6 then T (tgF d n (x + ofF d n x f)) (cN (q.sExt (t * 6 + f))) (x + ofF d n x f) en
  else if q.sKind (t * 6 + f) < 4 ∨ sdF d n (q.sKind (t * 6 + f)) (tgF d n (x + ofF d n x f)) = true then (-1, en) else (nI (x + ofF d n x f), en)
theorem fdF_0 {q : SR} {d : Nat → Nat} {n : Nat} {T : VT} {x t f en : Nat} (h : ofF d n x f = 0) : fdF q d n T x t f en = (if q.sMust (t * 6 + f) = true then nI x else -1, en) := by rw [fdF, if_pos h]
theorem fdF_b {q : SR} {d : Nat → Nat} {n : Nat} {T : VT} {x t f en : Nat} (h0 : ¬ ofF d n x f = 0) (hb : ofF d n x f < 4 ∨ leN d n (nI (vN d n x + 2)) 2 < ofF d n x f + kWd (q.sKind (t * 6 + f)) ∨ ¬ (x + ofF d n x f) % kWd (q.sKind (t * 6 + f)) = 0) : fdF q d n T x t f en = (nI (vN d n x + 4 + 2 * f), en) := by rw [fdF, if_neg h0, if_pos hb]
theorem fdF_6 {q : SR} {d : Nat → Nat} {n : Nat} {T : VT} {x t f en : Nat} (h0 : ¬ ofF d n x f = 0) (h1 : ¬ ofF d n x f < 4) (h2 : ¬ leN d n (nI (vN d n x + 2)) 2 < ofF d n x f + kWd (q.sKind (t * 6 + f))) (h3 : (x + ofF d n x f) % kWd (q.sKind (t * 6 + f)) = 0) (h6 : q.sKind (t * 6 + f) = 6) : fdF q d n T x t f en = T (tgF d n (x + ofF d n x f)) (cN (q.sExt (t * 6 + f))) (x + ofF d n x f) en := by rw [fdF, if_neg h0, if_neg (fun z => z.elim h1 (fun z => z.elim h2 (fun z => z h3))), if_pos h6]
theorem fdF_y {q : SR} {d : Nat → Nat} {n : Nat} {T : VT} {x t f en : Nat} (h0 : ¬ ofF d n x f = 0) (h1 : ¬ ofF d n x f < 4) (h2 : ¬ leN d n (nI (vN d n x + 2)) 2 < ofF d n x f + kWd (q.sKind (t * 6 + f))) (h3 : (x + ofF d n x f) % kWd (q.sKind (t * 6 + f)) = 0) (h6 : ¬ q.sKind (t * 6 + f) = 6) (hs : q.sKind (t * 6 + f) < 4 ∨ sdF d n (q.sKind (t * 6 + f)) (tgF d n (x + ofF d n x f)) = true) : fdF q d n T x t f en = (-1, en) := by rw [fdF, if_neg h0, if_neg (fun z => z.elim h1 (fun z => z.elim h2 (fun z => z h3))), if_neg h6, if_pos hs]
theorem fdF_n {q : SR} {d : Nat → Nat} {n : Nat} {T : VT} {x t f en : Nat} (h0 : ¬ ofF d n x f = 0) (h1 : ¬ ofF d n x f < 4) (h2 : ¬ leN d n (nI (vN d n x + 2)) 2 < ofF d n x f + kWd (q.sKind (t * 6 + f))) (h3 : (x + ofF d n x f) % kWd (q.sKind (t * 6 + f)) = 0) (h6 : ¬ q.sKind (t * 6 + f) = 6) (h4 : ¬ q.sKind (t * 6 + f) < 4) (hs : sdF d n (q.sKind (t * 6 + f)) (tgF d n (x + ofF d n x f)) = false) : fdF q d n T x t f en = (nI (x + ofF d n x f), en) := by rw [fdF, if_neg h0, if_neg (fun z => z.elim h1 (fun z => z.elim h2 (fun z => z h3))), if_neg h6, if_neg (fun z => z.elim h4 (fun z => by rw [hs] at z; cases z))]
def vFl (q : SR) (d : Nat → Nat) (n : Nat) (T : VT) (x t : Nat) (e0 : Int32 × Nat) : Nat → Int32 × Nat
  | 0 => e0
  | f + 1 => if (vFl q d n T x t e0 f).1 = -1 then fdF q d n T x t f (vFl q d n T x t e0 f).2 else vFl q d n T x t e0 f
theorem vFl_stop {q : SR} {d : Nat → Nat} {n : Nat} {T : VT} {x t : Nat} {e0 : Int32 × Nat} {f : Nat} (h : ¬ (vFl q d n T x t e0 f).1 = -1) : ∀ m, f ≤ m → vFl q d n T x t e0 m = vFl q d n T x t e0 f := by
  intro m
  induction m with
  | zero => intro h; rw [show f = 0 by omega]
  | succ m ih =>
    intro hm
    by_cases e : f = m + 1
    · rw [e]
    · have h2 := ih (by omega)
      rw [vFl, if_neg (by rw [h2]; exact h), h2]
def vTb (q : SR) (d : Nat → Nat) (n : Nat) : Nat → VT
  | 0 => fun _ _ to en => (nI to, en)
  | K + 1 => fun x t to en =>
    if ¬ x % 4 = 0 ∨ n < x + 4 ∨ 16 ≤ en then (nI to, en)
    else if bdV d n x = true then (nI x, en + 1)
    else vFl q d n (vTb q d n K) x t (ioF d n x (vN d n x), en + 1) (q.sLen t)
abbrev TEn (T : VT) : Prop := ∀ x t to en, en ≤ 16 → en ≤ (T x t to en).2 ∧ (T x t to en).2 ≤ 16
theorem fdF_en {q : SR} {d : Nat → Nat} {n : Nat} {T : VT} (hT : TEn T) (x t f en : Nat) (h : en ≤ 16) : en ≤ (fdF q d n T x t f en).2 ∧ (fdF q d n T x t f en).2 ≤ 16 := by
  unfold fdF
  split
  · exact ⟨Nat.le_refl _, h⟩
  · split
    · exact ⟨Nat.le_refl _, h⟩
    · split
      · exact hT _ _ _ _ h
      · split <;> exact ⟨Nat.le_refl _, h⟩
theorem vFl_en {q : SR} {d : Nat → Nat} {n : Nat} {T : VT} (hT : TEn T) (x t : Nat) {e0 : Int32 × Nat} (h : e0.2 ≤ 16) (m : Nat) : e0.2 ≤ (vFl q d n T x t e0 m).2 ∧ (vFl q d n T x t e0 m).2 ≤ 16 := by
  induction m with
  | zero => exact ⟨Nat.le_refl _, h⟩
  | succ m ih =>
    rw [vFl]
    split
    · have := fdF_en (q := q) (d := d) (n := n) hT x t m _ ih.2
      omega
    · exact ih
theorem vTb_en (q : SR) (d : Nat → Nat) (n K : Nat) : TEn (vTb q d n K) := by
  induction K with
  | zero => intro x t to en h; exact ⟨Nat.le_refl _, h⟩
  | succ K ih =>
    intro x t to en h
    show en ≤ (if _ then _ else _ : Int32 × Nat).2 ∧ (if _ then _ else _ : Int32 × Nat).2 ≤ 16
    split
    · exact ⟨Nat.le_refl _, h⟩
    · split
      · exact ⟨Nat.le_succ _, by show en + 1 ≤ 16; omega⟩
      · have := vFl_en (q := q) (d := d) (n := n) ih x t (e0 := (ioF d n x (vN d n x), en + 1)) (by show en + 1 ≤ 16; omega) (q.sLen t)
        dsimp only at this ⊢
        omega
def vIn (q : SR) (d : Nat → Nat) (n t : Nat) : Int32 × Nat := if n < 4 then (nI 0, 0) else vTb q d n 6 (min (leN d n (nI 0) 4) 100000) t 0 0
def cdVer (q : SR) (d : Nat → Nat) (n : Nat) (x : Int32) : Nat := if okT x = true then (if (vIn q d n (cN x)).1 = -1 then 0 else 1) else 1
theorem wd_c65a433d : Cond.fieldLink R_V 15 R_V "data" "LFlatStore$Data;" ∈ kGW := kGW_of (List.mem_of_getElem? (i := 215) (by decide +kernel)) (by decide)
theorem wd_814e388c : Cond.methodLink R_V 28 y_D_capped ∈ kGW := kGW_of (List.mem_of_getElem? (i := 682) (by decide +kernel)) (by decide)
theorem wd_b01518a4 : Cond.methodLink R_V 82 y_D_unsignedByte ∈ kGW := kGW_of (List.mem_of_getElem? (i := 733) (by decide +kernel)) (by decide)
theorem wd_fb615893 : Cond.methodLink R_V 56 y_D_unsignedShort ∈ kGW := kGW_of (List.mem_of_getElem? (i := 705) (by decide +kernel)) (by decide)
theorem wd_57a775bc : Cond.methodLink R_V 36 y_D_offsetsOf ∈ kGW := kGW_of (List.mem_of_getElem? (i := 695) (by decide +kernel)) (by decide)
theorem wd_75e57121 : Cond.methodLink R_V 59 y_D_offsetOf ∈ kGW := kGW_of (List.mem_of_getElem? (i := 715) (by decide +kernel)) (by decide)
theorem wd_8aacbd0a : Cond.fieldLink R_V 9 R_V "schema" "LFlatStore$Schema;" ∈ kGW := kGW_of (List.mem_of_getElem? (i := 214) (by decide +kernel)) (by decide)
theorem wd_f03ce7be : Cond.methodLink R_V 66 y_S_kindOf ∈ kGW := kGW_of (List.mem_of_getElem? (i := 721) (by decide +kernel)) (by decide)
theorem wd_53a91e2f : Cond.methodLink R_V 73 y_D_target ∈ kGW := kGW_of (List.mem_of_getElem? (i := 723) (by decide +kernel)) (by decide)
theorem wd_8fddfa76 : Cond.methodLink R_V 79 y_V_isSound ∈ kGW := kGW_of (List.mem_of_getElem? (i := 729) (by decide +kernel)) (by decide)
theorem wd_c7ae5892 : Cond.methodLink R_V 76 y_S_extraOf ∈ kGW := kGW_of (List.mem_of_getElem? (i := 728) (by decide +kernel)) (by decide)
theorem wd_3cc52be1 : Cond.methodLink R_V 32 y_V_inspectTable ∈ kGW := kGW_of (List.mem_of_getElem? (i := 691) (by decide +kernel)) (by decide)
theorem wd_03ecc805 : Cond.methodLink R_V 62 y_S_requires ∈ kGW := kGW_of (List.mem_of_getElem? (i := 720) (by decide +kernel)) (by decide)
theorem wd_85aebf36 : Cond.fieldLink R_V 19 R_V "entered" "I" ∈ kGW := kGW_of (List.mem_of_getElem? (i := 216) (by decide +kernel)) (by decide)
theorem wd_864dc8ae : Cond.constantLong R_V 40 2 ∈ kGW := kGW_of (List.mem_of_getElem? (i := 699) (by decide +kernel)) (by decide)
theorem wd_a28175a1 : Cond.constantLong R_V 42 4 ∈ kGW := kGW_of (List.mem_of_getElem? (i := 700) (by decide +kernel)) (by decide)
theorem wd_9b1f905b : Cond.methodLink R_V 44 y_V_inspectOffsets ∈ kGW := kGW_of (List.mem_of_getElem? (i := 701) (by decide +kernel)) (by decide)
theorem wd_06c3967b : Cond.methodLink R_V 48 y_S_fieldsOf ∈ kGW := kGW_of (List.mem_of_getElem? (i := 710) (by decide +kernel)) (by decide)
theorem wd_02aad052 : Cond.methodLink R_V 53 y_V_inspectField ∈ kGW := kGW_of (List.mem_of_getElem? (i := 711) (by decide +kernel)) (by decide)
set_option maxRecDepth 20000 in
theorem wd_1fded524 : Cond.code y_V_isSound b_V_isSound 5 (some .boolean) ∈ kGW := kGW_of (List.mem_of_getElem? (i := 732) (by rfl)) (by decide)
theorem wd_2dc89b72 : Cond.initialized R_V ∈ kGW := kGW_of (List.mem_of_getElem? (i := 53) (by decide +kernel)) (by decide)
theorem wd_18580b3c : Cond.instanceMethod y_V_isSound ∈ kGW := kGW_of (List.mem_of_getElem? (i := 731) (by decide +kernel)) (by decide)
theorem wd_c1bc2942 : Cond.selects R_V y_V_isSound y_V_isSound ∈ kGW := kGW_of (List.mem_of_getElem? (i := 19) (by decide +kernel)) (by decide)
set_option maxRecDepth 20000 in
theorem wd_78270d6d : Cond.code y_V_inspectOffsets b_V_inspectOffsets 5 (some .int) ∈ kGW := kGW_of (List.mem_of_getElem? (i := 704) (by rfl)) (by decide)
theorem wd_20dab4a6 : Cond.instanceMethod y_V_inspectOffsets ∈ kGW := kGW_of (List.mem_of_getElem? (i := 703) (by decide +kernel)) (by decide)
theorem wd_57839098 : Cond.selects R_V y_V_inspectOffsets y_V_inspectOffsets ∈ kGW := kGW_of (List.mem_of_getElem? (i := 17) (by decide +kernel)) (by decide)
set_option maxRecDepth 20000 in
theorem wd_bc46739a : Cond.code y_V_inspectField b_V_inspectField 11 (some .int) ∈ kGW := kGW_of (List.mem_of_getElem? (i := 714) (by rfl)) (by decide)
theorem wd_33985c9b : Cond.instanceMethod y_V_inspectField ∈ kGW := kGW_of (List.mem_of_getElem? (i := 713) (by decide +kernel)) (by decide)
theorem wd_5eed5280 : Cond.selects R_V y_V_inspectField y_V_inspectField ∈ kGW := kGW_of (List.mem_of_getElem? (i := 18) (by decide +kernel)) (by decide)
set_option maxRecDepth 20000 in
theorem wd_bba8bdbe : Cond.code y_V_inspectTable b_V_inspectTable 9 (some .int) ∈ kGW := kGW_of (List.mem_of_getElem? (i := 694) (by rfl)) (by decide)
theorem wd_1f82e1ee : Cond.instanceMethod y_V_inspectTable ∈ kGW := kGW_of (List.mem_of_getElem? (i := 693) (by decide +kernel)) (by decide)
theorem wd_090f5ed1 : Cond.selects R_V y_V_inspectTable y_V_inspectTable ∈ kGW := kGW_of (List.mem_of_getElem? (i := 16) (by decide +kernel)) (by decide)
theorem wn_8cec2538 : Cond.fieldLinkNest R_V 23 R_D "length" "I" "FlatStore" ∈ kNW := kNW_of (List.mem_of_getElem? (i := 154) (by decide +kernel)) (by decide)
theorem wn_9cbe9f93 : Cond.fieldLinkNest R_V 69 R_F "WIDTHS" "[I" "FlatStore" ∈ kNW := kNW_of (List.mem_of_getElem? (i := 722) (by decide +kernel)) (by decide)
theorem d_V_isSound_0 : decode b_V_isSound 0 = .ok (.iload_n 2, 1) := by decide +kernel
theorem d_V_isSound_1 : decode b_V_isSound 1 = .ok (.iconst 4, 1) := by decide +kernel
theorem d_V_isSound_2 : decode b_V_isSound 2 = .ok (.irem, 1) := by decide +kernel
theorem d_V_isSound_3 : decode b_V_isSound 3 = .ok (.ifCond .ne 16, 3) := by decide +kernel
theorem d_V_isSound_6 : decode b_V_isSound 6 = .ok (.iload_n 2, 1) := by decide +kernel
theorem d_V_isSound_7 : decode b_V_isSound 7 = .ok (.iconst 4, 1) := by decide +kernel
theorem d_V_isSound_8 : decode b_V_isSound 8 = .ok (.iadd, 1) := by decide +kernel
theorem d_V_isSound_9 : decode b_V_isSound 9 = .ok (.aload_n 0, 1) := by decide +kernel
theorem d_V_isSound_10 : decode b_V_isSound 10 = .ok (.getfield 15, 3) := by decide +kernel
theorem d_V_isSound_13 : decode b_V_isSound 13 = .ok (.getfield 23, 3) := by decide +kernel
theorem d_V_isSound_16 : decode b_V_isSound 16 = .ok (.if_icmp .le 5, 3) := by decide +kernel
theorem d_V_isSound_19 : decode b_V_isSound 19 = .ok (.iconst 0, 1) := by decide +kernel
theorem d_V_isSound_20 : decode b_V_isSound 20 = .ok (.ireturn, 1) := by decide +kernel
theorem d_V_isSound_21 : decode b_V_isSound 21 = .ok (.aload_n 0, 1) := by decide +kernel
theorem d_V_isSound_22 : decode b_V_isSound 22 = .ok (.getfield 15, 3) := by decide +kernel
theorem d_V_isSound_25 : decode b_V_isSound 25 = .ok (.iload_n 2, 1) := by decide +kernel
theorem d_V_isSound_26 : decode b_V_isSound 26 = .ok (.invokevirtual 28, 3) := by decide +kernel
theorem d_V_isSound_29 : decode b_V_isSound 29 = .ok (.istore_n 3, 1) := by decide +kernel
theorem d_V_isSound_30 : decode b_V_isSound 30 = .ok (.iload_n 3, 1) := by decide +kernel
theorem d_V_isSound_31 : decode b_V_isSound 31 = .ok (.sipush 200, 3) := by decide +kernel
theorem d_V_isSound_34 : decode b_V_isSound 34 = .ok (.if_icmp .le 5, 3) := by decide +kernel
theorem d_V_isSound_37 : decode b_V_isSound 37 = .ok (.iconst 0, 1) := by decide +kernel
theorem d_V_isSound_38 : decode b_V_isSound 38 = .ok (.ireturn, 1) := by decide +kernel
theorem d_V_isSound_39 : decode b_V_isSound 39 = .ok (.iload_n 1, 1) := by decide +kernel
theorem d_V_isSound_40 : decode b_V_isSound 40 = .ok (.iconst 5, 1) := by decide +kernel
theorem d_V_isSound_41 : decode b_V_isSound 41 = .ok (.if_icmp .ne 26, 3) := by decide +kernel
theorem d_V_isSound_44 : decode b_V_isSound 44 = .ok (.iload_n 2, 1) := by decide +kernel
theorem d_V_isSound_45 : decode b_V_isSound 45 = .ok (.iconst 4, 1) := by decide +kernel
theorem d_V_isSound_46 : decode b_V_isSound 46 = .ok (.iadd, 1) := by decide +kernel
theorem d_V_isSound_47 : decode b_V_isSound 47 = .ok (.iconst 2, 1) := by decide +kernel
theorem d_V_isSound_48 : decode b_V_isSound 48 = .ok (.iload_n 3, 1) := by decide +kernel
theorem d_V_isSound_49 : decode b_V_isSound 49 = .ok (.imul, 1) := by decide +kernel
theorem d_V_isSound_50 : decode b_V_isSound 50 = .ok (.iadd, 1) := by decide +kernel
theorem d_V_isSound_51 : decode b_V_isSound 51 = .ok (.aload_n 0, 1) := by decide +kernel
theorem d_V_isSound_52 : decode b_V_isSound 52 = .ok (.getfield 15, 3) := by decide +kernel
theorem d_V_isSound_55 : decode b_V_isSound 55 = .ok (.getfield 23, 3) := by decide +kernel
theorem d_V_isSound_58 : decode b_V_isSound 58 = .ok (.if_icmp .gt 7, 3) := by decide +kernel
theorem d_V_isSound_61 : decode b_V_isSound 61 = .ok (.iconst 1, 1) := by decide +kernel
theorem d_V_isSound_62 : decode b_V_isSound 62 = .ok (.goto 4, 3) := by decide +kernel
theorem d_V_isSound_65 : decode b_V_isSound 65 = .ok (.iconst 0, 1) := by decide +kernel
theorem d_V_isSound_66 : decode b_V_isSound 66 = .ok (.ireturn, 1) := by decide +kernel
theorem d_V_isSound_67 : decode b_V_isSound 67 = .ok (.iload_n 2, 1) := by decide +kernel
theorem d_V_isSound_68 : decode b_V_isSound 68 = .ok (.iconst 4, 1) := by decide +kernel
theorem d_V_isSound_69 : decode b_V_isSound 69 = .ok (.iadd, 1) := by decide +kernel
theorem d_V_isSound_70 : decode b_V_isSound 70 = .ok (.iload_n 3, 1) := by decide +kernel
theorem d_V_isSound_71 : decode b_V_isSound 71 = .ok (.iadd, 1) := by decide +kernel
theorem d_V_isSound_72 : decode b_V_isSound 72 = .ok (.istore 4, 2) := by decide +kernel
theorem d_V_isSound_74 : decode b_V_isSound 74 = .ok (.iload 4, 2) := by decide +kernel
theorem d_V_isSound_76 : decode b_V_isSound 76 = .ok (.aload_n 0, 1) := by decide +kernel
theorem d_V_isSound_77 : decode b_V_isSound 77 = .ok (.getfield 15, 3) := by decide +kernel
theorem d_V_isSound_80 : decode b_V_isSound 80 = .ok (.getfield 23, 3) := by decide +kernel
theorem d_V_isSound_83 : decode b_V_isSound 83 = .ok (.if_icmp .ge 19, 3) := by decide +kernel
theorem d_V_isSound_86 : decode b_V_isSound 86 = .ok (.aload_n 0, 1) := by decide +kernel
theorem d_V_isSound_87 : decode b_V_isSound 87 = .ok (.getfield 15, 3) := by decide +kernel
theorem d_V_isSound_90 : decode b_V_isSound 90 = .ok (.iload 4, 2) := by decide +kernel
theorem d_V_isSound_92 : decode b_V_isSound 92 = .ok (.invokevirtual 82, 3) := by decide +kernel
theorem d_V_isSound_95 : decode b_V_isSound 95 = .ok (.ifCond .ne 7, 3) := by decide +kernel
theorem d_V_isSound_98 : decode b_V_isSound 98 = .ok (.iconst 1, 1) := by decide +kernel
theorem d_V_isSound_99 : decode b_V_isSound 99 = .ok (.goto 4, 3) := by decide +kernel
theorem d_V_isSound_102 : decode b_V_isSound 102 = .ok (.iconst 0, 1) := by decide +kernel
theorem d_V_isSound_103 : decode b_V_isSound 103 = .ok (.ireturn, 1) := by decide +kernel
theorem d_V_inspectOffsets_0 : decode b_V_inspectOffsets 0 = .ok (.aload_n 0, 1) := by decide +kernel
theorem d_V_inspectOffsets_1 : decode b_V_inspectOffsets 1 = .ok (.getfield 15, 3) := by decide +kernel
theorem d_V_inspectOffsets_4 : decode b_V_inspectOffsets 4 = .ok (.iload_n 2, 1) := by decide +kernel
theorem d_V_inspectOffsets_5 : decode b_V_inspectOffsets 5 = .ok (.invokevirtual 56, 3) := by decide +kernel
theorem d_V_inspectOffsets_8 : decode b_V_inspectOffsets 8 = .ok (.istore_n 3, 1) := by decide +kernel
theorem d_V_inspectOffsets_9 : decode b_V_inspectOffsets 9 = .ok (.iload_n 3, 1) := by decide +kernel
theorem d_V_inspectOffsets_10 : decode b_V_inspectOffsets 10 = .ok (.iconst 2, 1) := by decide +kernel
theorem d_V_inspectOffsets_11 : decode b_V_inspectOffsets 11 = .ok (.irem, 1) := by decide +kernel
theorem d_V_inspectOffsets_12 : decode b_V_inspectOffsets 12 = .ok (.ifCond .ne 21, 3) := by decide +kernel
theorem d_V_inspectOffsets_15 : decode b_V_inspectOffsets 15 = .ok (.iload_n 3, 1) := by decide +kernel
theorem d_V_inspectOffsets_16 : decode b_V_inspectOffsets 16 = .ok (.iconst 4, 1) := by decide +kernel
theorem d_V_inspectOffsets_17 : decode b_V_inspectOffsets 17 = .ok (.if_icmp .lt 16, 3) := by decide +kernel
theorem d_V_inspectOffsets_20 : decode b_V_inspectOffsets 20 = .ok (.iload_n 2, 1) := by decide +kernel
theorem d_V_inspectOffsets_21 : decode b_V_inspectOffsets 21 = .ok (.iload_n 3, 1) := by decide +kernel
theorem d_V_inspectOffsets_22 : decode b_V_inspectOffsets 22 = .ok (.iadd, 1) := by decide +kernel
theorem d_V_inspectOffsets_23 : decode b_V_inspectOffsets 23 = .ok (.aload_n 0, 1) := by decide +kernel
theorem d_V_inspectOffsets_24 : decode b_V_inspectOffsets 24 = .ok (.getfield 15, 3) := by decide +kernel
theorem d_V_inspectOffsets_27 : decode b_V_inspectOffsets 27 = .ok (.getfield 23, 3) := by decide +kernel
theorem d_V_inspectOffsets_30 : decode b_V_inspectOffsets 30 = .ok (.if_icmp .le 5, 3) := by decide +kernel
theorem d_V_inspectOffsets_33 : decode b_V_inspectOffsets 33 = .ok (.iload_n 2, 1) := by decide +kernel
theorem d_V_inspectOffsets_34 : decode b_V_inspectOffsets 34 = .ok (.ireturn, 1) := by decide +kernel
theorem d_V_inspectOffsets_35 : decode b_V_inspectOffsets 35 = .ok (.aload_n 0, 1) := by decide +kernel
theorem d_V_inspectOffsets_36 : decode b_V_inspectOffsets 36 = .ok (.getfield 15, 3) := by decide +kernel
theorem d_V_inspectOffsets_39 : decode b_V_inspectOffsets 39 = .ok (.iload_n 2, 1) := by decide +kernel
theorem d_V_inspectOffsets_40 : decode b_V_inspectOffsets 40 = .ok (.iconst 2, 1) := by decide +kernel
theorem d_V_inspectOffsets_41 : decode b_V_inspectOffsets 41 = .ok (.iadd, 1) := by decide +kernel
theorem d_V_inspectOffsets_42 : decode b_V_inspectOffsets 42 = .ok (.invokevirtual 56, 3) := by decide +kernel
theorem d_V_inspectOffsets_45 : decode b_V_inspectOffsets 45 = .ok (.istore 4, 2) := by decide +kernel
theorem d_V_inspectOffsets_47 : decode b_V_inspectOffsets 47 = .ok (.iload 4, 2) := by decide +kernel
theorem d_V_inspectOffsets_49 : decode b_V_inspectOffsets 49 = .ok (.iconst 4, 1) := by decide +kernel
theorem d_V_inspectOffsets_50 : decode b_V_inspectOffsets 50 = .ok (.if_icmp .lt 17, 3) := by decide +kernel
theorem d_V_inspectOffsets_53 : decode b_V_inspectOffsets 53 = .ok (.iload_n 1, 1) := by decide +kernel
theorem d_V_inspectOffsets_54 : decode b_V_inspectOffsets 54 = .ok (.iload 4, 2) := by decide +kernel
theorem d_V_inspectOffsets_56 : decode b_V_inspectOffsets 56 = .ok (.iadd, 1) := by decide +kernel
theorem d_V_inspectOffsets_57 : decode b_V_inspectOffsets 57 = .ok (.aload_n 0, 1) := by decide +kernel
theorem d_V_inspectOffsets_58 : decode b_V_inspectOffsets 58 = .ok (.getfield 15, 3) := by decide +kernel
theorem d_V_inspectOffsets_61 : decode b_V_inspectOffsets 61 = .ok (.getfield 23, 3) := by decide +kernel
theorem d_V_inspectOffsets_64 : decode b_V_inspectOffsets 64 = .ok (.if_icmp .le 7, 3) := by decide +kernel
theorem d_V_inspectOffsets_67 : decode b_V_inspectOffsets 67 = .ok (.iload_n 2, 1) := by decide +kernel
theorem d_V_inspectOffsets_68 : decode b_V_inspectOffsets 68 = .ok (.iconst 2, 1) := by decide +kernel
theorem d_V_inspectOffsets_69 : decode b_V_inspectOffsets 69 = .ok (.iadd, 1) := by decide +kernel
theorem d_V_inspectOffsets_70 : decode b_V_inspectOffsets 70 = .ok (.ireturn, 1) := by decide +kernel
theorem d_V_inspectOffsets_71 : decode b_V_inspectOffsets 71 = .ok (.iconst (-1), 1) := by decide +kernel
theorem d_V_inspectOffsets_72 : decode b_V_inspectOffsets 72 = .ok (.ireturn, 1) := by decide +kernel
theorem d_V_inspectField_0 : decode b_V_inspectField 0 = .ok (.aload_n 0, 1) := by decide +kernel
theorem d_V_inspectField_1 : decode b_V_inspectField 1 = .ok (.getfield 15, 3) := by decide +kernel
theorem d_V_inspectField_4 : decode b_V_inspectField 4 = .ok (.iload_n 1, 1) := by decide +kernel
theorem d_V_inspectField_5 : decode b_V_inspectField 5 = .ok (.invokevirtual 36, 3) := by decide +kernel
theorem d_V_inspectField_8 : decode b_V_inspectField 8 = .ok (.l2i, 1) := by decide +kernel
theorem d_V_inspectField_9 : decode b_V_inspectField 9 = .ok (.istore 5, 2) := by decide +kernel
theorem d_V_inspectField_11 : decode b_V_inspectField 11 = .ok (.aload_n 0, 1) := by decide +kernel
theorem d_V_inspectField_12 : decode b_V_inspectField 12 = .ok (.getfield 15, 3) := by decide +kernel
theorem d_V_inspectField_15 : decode b_V_inspectField 15 = .ok (.iload 5, 2) := by decide +kernel
theorem d_V_inspectField_17 : decode b_V_inspectField 17 = .ok (.iload_n 3, 1) := by decide +kernel
theorem d_V_inspectField_18 : decode b_V_inspectField 18 = .ok (.invokevirtual 59, 3) := by decide +kernel
theorem d_V_inspectField_21 : decode b_V_inspectField 21 = .ok (.istore 6, 2) := by decide +kernel
theorem d_V_inspectField_23 : decode b_V_inspectField 23 = .ok (.iload 6, 2) := by decide +kernel
theorem d_V_inspectField_25 : decode b_V_inspectField 25 = .ok (.ifCond .ne 21, 3) := by decide +kernel
theorem d_V_inspectField_28 : decode b_V_inspectField 28 = .ok (.aload_n 0, 1) := by decide +kernel
theorem d_V_inspectField_29 : decode b_V_inspectField 29 = .ok (.getfield 9, 3) := by decide +kernel
theorem d_V_inspectField_32 : decode b_V_inspectField 32 = .ok (.iload_n 2, 1) := by decide +kernel
theorem d_V_inspectField_33 : decode b_V_inspectField 33 = .ok (.iload_n 3, 1) := by decide +kernel
theorem d_V_inspectField_34 : decode b_V_inspectField 34 = .ok (.invokevirtual 62, 3) := by decide +kernel
theorem d_V_inspectField_37 : decode b_V_inspectField 37 = .ok (.ifCond .eq 7, 3) := by decide +kernel
theorem d_V_inspectField_40 : decode b_V_inspectField 40 = .ok (.iload_n 1, 1) := by decide +kernel
theorem d_V_inspectField_41 : decode b_V_inspectField 41 = .ok (.goto 4, 3) := by decide +kernel
theorem d_V_inspectField_44 : decode b_V_inspectField 44 = .ok (.iconst (-1), 1) := by decide +kernel
theorem d_V_inspectField_45 : decode b_V_inspectField 45 = .ok (.ireturn, 1) := by decide +kernel
theorem d_V_inspectField_46 : decode b_V_inspectField 46 = .ok (.aload_n 0, 1) := by decide +kernel
theorem d_V_inspectField_47 : decode b_V_inspectField 47 = .ok (.getfield 9, 3) := by decide +kernel
theorem d_V_inspectField_50 : decode b_V_inspectField 50 = .ok (.iload_n 2, 1) := by decide +kernel
theorem d_V_inspectField_51 : decode b_V_inspectField 51 = .ok (.iload_n 3, 1) := by decide +kernel
theorem d_V_inspectField_52 : decode b_V_inspectField 52 = .ok (.invokevirtual 66, 3) := by decide +kernel
theorem d_V_inspectField_55 : decode b_V_inspectField 55 = .ok (.istore 7, 2) := by decide +kernel
theorem d_V_inspectField_57 : decode b_V_inspectField 57 = .ok (.getstatic 69, 3) := by decide +kernel
theorem d_V_inspectField_60 : decode b_V_inspectField 60 = .ok (.iload 7, 2) := by decide +kernel
theorem d_V_inspectField_62 : decode b_V_inspectField 62 = .ok (.iaload, 1) := by decide +kernel
theorem d_V_inspectField_63 : decode b_V_inspectField 63 = .ok (.istore 8, 2) := by decide +kernel
theorem d_V_inspectField_65 : decode b_V_inspectField 65 = .ok (.iload_n 1, 1) := by decide +kernel
theorem d_V_inspectField_66 : decode b_V_inspectField 66 = .ok (.iload 6, 2) := by decide +kernel
theorem d_V_inspectField_68 : decode b_V_inspectField 68 = .ok (.iadd, 1) := by decide +kernel
theorem d_V_inspectField_69 : decode b_V_inspectField 69 = .ok (.istore 9, 2) := by decide +kernel
theorem d_V_inspectField_71 : decode b_V_inspectField 71 = .ok (.aload_n 0, 1) := by decide +kernel
theorem d_V_inspectField_72 : decode b_V_inspectField 72 = .ok (.getfield 15, 3) := by decide +kernel
theorem d_V_inspectField_75 : decode b_V_inspectField 75 = .ok (.iload 5, 2) := by decide +kernel
theorem d_V_inspectField_77 : decode b_V_inspectField 77 = .ok (.iconst 2, 1) := by decide +kernel
theorem d_V_inspectField_78 : decode b_V_inspectField 78 = .ok (.iadd, 1) := by decide +kernel
theorem d_V_inspectField_79 : decode b_V_inspectField 79 = .ok (.invokevirtual 56, 3) := by decide +kernel
theorem d_V_inspectField_82 : decode b_V_inspectField 82 = .ok (.istore 10, 2) := by decide +kernel
theorem d_V_inspectField_84 : decode b_V_inspectField 84 = .ok (.iload 6, 2) := by decide +kernel
theorem d_V_inspectField_86 : decode b_V_inspectField 86 = .ok (.iconst 4, 1) := by decide +kernel
theorem d_V_inspectField_87 : decode b_V_inspectField 87 = .ok (.if_icmp .lt 21, 3) := by decide +kernel
theorem d_V_inspectField_90 : decode b_V_inspectField 90 = .ok (.iload 6, 2) := by decide +kernel
theorem d_V_inspectField_92 : decode b_V_inspectField 92 = .ok (.iload 8, 2) := by decide +kernel
theorem d_V_inspectField_94 : decode b_V_inspectField 94 = .ok (.iadd, 1) := by decide +kernel
theorem d_V_inspectField_95 : decode b_V_inspectField 95 = .ok (.iload 10, 2) := by decide +kernel
theorem d_V_inspectField_97 : decode b_V_inspectField 97 = .ok (.if_icmp .gt 11, 3) := by decide +kernel
theorem d_V_inspectField_100 : decode b_V_inspectField 100 = .ok (.iload 9, 2) := by decide +kernel
theorem d_V_inspectField_102 : decode b_V_inspectField 102 = .ok (.iload 8, 2) := by decide +kernel
theorem d_V_inspectField_104 : decode b_V_inspectField 104 = .ok (.irem, 1) := by decide +kernel
theorem d_V_inspectField_105 : decode b_V_inspectField 105 = .ok (.ifCond .eq 12, 3) := by decide +kernel
theorem d_V_inspectField_108 : decode b_V_inspectField 108 = .ok (.iload 5, 2) := by decide +kernel
theorem d_V_inspectField_110 : decode b_V_inspectField 110 = .ok (.iconst 4, 1) := by decide +kernel
theorem d_V_inspectField_111 : decode b_V_inspectField 111 = .ok (.iadd, 1) := by decide +kernel
theorem d_V_inspectField_112 : decode b_V_inspectField 112 = .ok (.iconst 2, 1) := by decide +kernel
theorem d_V_inspectField_113 : decode b_V_inspectField 113 = .ok (.iload_n 3, 1) := by decide +kernel
theorem d_V_inspectField_114 : decode b_V_inspectField 114 = .ok (.imul, 1) := by decide +kernel
theorem d_V_inspectField_115 : decode b_V_inspectField 115 = .ok (.iadd, 1) := by decide +kernel
theorem d_V_inspectField_116 : decode b_V_inspectField 116 = .ok (.ireturn, 1) := by decide +kernel
theorem d_V_inspectField_117 : decode b_V_inspectField 117 = .ok (.iload 7, 2) := by decide +kernel
theorem d_V_inspectField_119 : decode b_V_inspectField 119 = .ok (.bipush 6, 2) := by decide +kernel
theorem d_V_inspectField_121 : decode b_V_inspectField 121 = .ok (.if_icmp .ne 32, 3) := by decide +kernel
theorem d_V_inspectField_124 : decode b_V_inspectField 124 = .ok (.aload_n 0, 1) := by decide +kernel
theorem d_V_inspectField_125 : decode b_V_inspectField 125 = .ok (.aload_n 0, 1) := by decide +kernel
theorem d_V_inspectField_126 : decode b_V_inspectField 126 = .ok (.getfield 15, 3) := by decide +kernel
theorem d_V_inspectField_129 : decode b_V_inspectField 129 = .ok (.iload 9, 2) := by decide +kernel
theorem d_V_inspectField_131 : decode b_V_inspectField 131 = .ok (.invokevirtual 73, 3) := by decide +kernel
theorem d_V_inspectField_134 : decode b_V_inspectField 134 = .ok (.aload_n 0, 1) := by decide +kernel
theorem d_V_inspectField_135 : decode b_V_inspectField 135 = .ok (.getfield 9, 3) := by decide +kernel
theorem d_V_inspectField_138 : decode b_V_inspectField 138 = .ok (.iload_n 2, 1) := by decide +kernel
theorem d_V_inspectField_139 : decode b_V_inspectField 139 = .ok (.iload_n 3, 1) := by decide +kernel
theorem d_V_inspectField_140 : decode b_V_inspectField 140 = .ok (.invokevirtual 76, 3) := by decide +kernel
theorem d_V_inspectField_143 : decode b_V_inspectField 143 = .ok (.iload 9, 2) := by decide +kernel
theorem d_V_inspectField_145 : decode b_V_inspectField 145 = .ok (.iload 4, 2) := by decide +kernel
theorem d_V_inspectField_147 : decode b_V_inspectField 147 = .ok (.iconst 1, 1) := by decide +kernel
theorem d_V_inspectField_148 : decode b_V_inspectField 148 = .ok (.iadd, 1) := by decide +kernel
theorem d_V_inspectField_149 : decode b_V_inspectField 149 = .ok (.invokevirtual 32, 3) := by decide +kernel
theorem d_V_inspectField_152 : decode b_V_inspectField 152 = .ok (.ireturn, 1) := by decide +kernel
theorem d_V_inspectField_153 : decode b_V_inspectField 153 = .ok (.iload 7, 2) := by decide +kernel
theorem d_V_inspectField_155 : decode b_V_inspectField 155 = .ok (.iconst 4, 1) := by decide +kernel
theorem d_V_inspectField_156 : decode b_V_inspectField 156 = .ok (.if_icmp .lt 21, 3) := by decide +kernel
theorem d_V_inspectField_159 : decode b_V_inspectField 159 = .ok (.aload_n 0, 1) := by decide +kernel
theorem d_V_inspectField_160 : decode b_V_inspectField 160 = .ok (.iload 7, 2) := by decide +kernel
theorem d_V_inspectField_162 : decode b_V_inspectField 162 = .ok (.aload_n 0, 1) := by decide +kernel
theorem d_V_inspectField_163 : decode b_V_inspectField 163 = .ok (.getfield 15, 3) := by decide +kernel
theorem d_V_inspectField_166 : decode b_V_inspectField 166 = .ok (.iload 9, 2) := by decide +kernel
theorem d_V_inspectField_168 : decode b_V_inspectField 168 = .ok (.invokevirtual 73, 3) := by decide +kernel
theorem d_V_inspectField_171 : decode b_V_inspectField 171 = .ok (.invokevirtual 79, 3) := by decide +kernel
theorem d_V_inspectField_174 : decode b_V_inspectField 174 = .ok (.ifCond .eq 7, 3) := by decide +kernel
theorem d_V_inspectField_177 : decode b_V_inspectField 177 = .ok (.iconst (-1), 1) := by decide +kernel
theorem d_V_inspectField_178 : decode b_V_inspectField 178 = .ok (.goto 5, 3) := by decide +kernel
theorem d_V_inspectField_181 : decode b_V_inspectField 181 = .ok (.iload 9, 2) := by decide +kernel
theorem d_V_inspectField_183 : decode b_V_inspectField 183 = .ok (.ireturn, 1) := by decide +kernel
theorem d_V_inspectTable_0 : decode b_V_inspectTable 0 = .ok (.iload_n 1, 1) := by decide +kernel
theorem d_V_inspectTable_1 : decode b_V_inspectTable 1 = .ok (.iconst 4, 1) := by decide +kernel
theorem d_V_inspectTable_2 : decode b_V_inspectTable 2 = .ok (.irem, 1) := by decide +kernel
theorem d_V_inspectTable_3 : decode b_V_inspectTable 3 = .ok (.ifCond .ne 16, 3) := by decide +kernel
theorem d_V_inspectTable_6 : decode b_V_inspectTable 6 = .ok (.iload_n 1, 1) := by decide +kernel
theorem d_V_inspectTable_7 : decode b_V_inspectTable 7 = .ok (.iconst 4, 1) := by decide +kernel
theorem d_V_inspectTable_8 : decode b_V_inspectTable 8 = .ok (.iadd, 1) := by decide +kernel
theorem d_V_inspectTable_9 : decode b_V_inspectTable 9 = .ok (.aload_n 0, 1) := by decide +kernel
theorem d_V_inspectTable_10 : decode b_V_inspectTable 10 = .ok (.getfield 15, 3) := by decide +kernel
theorem d_V_inspectTable_13 : decode b_V_inspectTable 13 = .ok (.getfield 23, 3) := by decide +kernel
theorem d_V_inspectTable_16 : decode b_V_inspectTable 16 = .ok (.if_icmp .le 5, 3) := by decide +kernel
theorem d_V_inspectTable_19 : decode b_V_inspectTable 19 = .ok (.iload_n 3, 1) := by decide +kernel
theorem d_V_inspectTable_20 : decode b_V_inspectTable 20 = .ok (.ireturn, 1) := by decide +kernel
theorem d_V_inspectTable_21 : decode b_V_inspectTable 21 = .ok (.aload_n 0, 1) := by decide +kernel
theorem d_V_inspectTable_22 : decode b_V_inspectTable 22 = .ok (.getfield 19, 3) := by decide +kernel
theorem d_V_inspectTable_25 : decode b_V_inspectTable 25 = .ok (.bipush 16, 2) := by decide +kernel
theorem d_V_inspectTable_27 : decode b_V_inspectTable 27 = .ok (.if_icmp .ge 10, 3) := by decide +kernel
theorem d_V_inspectTable_30 : decode b_V_inspectTable 30 = .ok (.iload 4, 2) := by decide +kernel
theorem d_V_inspectTable_32 : decode b_V_inspectTable 32 = .ok (.bipush 6, 2) := by decide +kernel
theorem d_V_inspectTable_34 : decode b_V_inspectTable 34 = .ok (.if_icmp .le 5, 3) := by decide +kernel
theorem d_V_inspectTable_37 : decode b_V_inspectTable 37 = .ok (.iload_n 3, 1) := by decide +kernel
theorem d_V_inspectTable_38 : decode b_V_inspectTable 38 = .ok (.ireturn, 1) := by decide +kernel
theorem d_V_inspectTable_39 : decode b_V_inspectTable 39 = .ok (.aload_n 0, 1) := by decide +kernel
theorem d_V_inspectTable_40 : decode b_V_inspectTable 40 = .ok (.dup, 1) := by decide +kernel
theorem d_V_inspectTable_41 : decode b_V_inspectTable 41 = .ok (.getfield 19, 3) := by decide +kernel
theorem d_V_inspectTable_44 : decode b_V_inspectTable 44 = .ok (.iconst 1, 1) := by decide +kernel
theorem d_V_inspectTable_45 : decode b_V_inspectTable 45 = .ok (.iadd, 1) := by decide +kernel
theorem d_V_inspectTable_46 : decode b_V_inspectTable 46 = .ok (.putfield 19, 3) := by decide +kernel
theorem d_V_inspectTable_49 : decode b_V_inspectTable 49 = .ok (.aload_n 0, 1) := by decide +kernel
theorem d_V_inspectTable_50 : decode b_V_inspectTable 50 = .ok (.getfield 15, 3) := by decide +kernel
theorem d_V_inspectTable_53 : decode b_V_inspectTable 53 = .ok (.iload_n 1, 1) := by decide +kernel
theorem d_V_inspectTable_54 : decode b_V_inspectTable 54 = .ok (.invokevirtual 36, 3) := by decide +kernel
theorem d_V_inspectTable_57 : decode b_V_inspectTable 57 = .ok (.lstore 5, 2) := by decide +kernel
theorem d_V_inspectTable_59 : decode b_V_inspectTable 59 = .ok (.lload 5, 2) := by decide +kernel
theorem d_V_inspectTable_61 : decode b_V_inspectTable 61 = .ok (.lconst 0, 1) := by decide +kernel
theorem d_V_inspectTable_62 : decode b_V_inspectTable 62 = .ok (.lcmp, 1) := by decide +kernel
theorem d_V_inspectTable_63 : decode b_V_inspectTable 63 = .ok (.ifCond .lt 32, 3) := by decide +kernel
theorem d_V_inspectTable_66 : decode b_V_inspectTable 66 = .ok (.lload 5, 2) := by decide +kernel
theorem d_V_inspectTable_68 : decode b_V_inspectTable 68 = .ok (.ldc2_w 40, 3) := by decide +kernel
theorem d_V_inspectTable_71 : decode b_V_inspectTable 71 = .ok (.lrem, 1) := by decide +kernel
theorem d_V_inspectTable_72 : decode b_V_inspectTable 72 = .ok (.lconst 0, 1) := by decide +kernel
theorem d_V_inspectTable_73 : decode b_V_inspectTable 73 = .ok (.lcmp, 1) := by decide +kernel
theorem d_V_inspectTable_74 : decode b_V_inspectTable 74 = .ok (.ifCond .ne 21, 3) := by decide +kernel
theorem d_V_inspectTable_77 : decode b_V_inspectTable 77 = .ok (.lload 5, 2) := by decide +kernel
theorem d_V_inspectTable_79 : decode b_V_inspectTable 79 = .ok (.ldc2_w 42, 3) := by decide +kernel
theorem d_V_inspectTable_82 : decode b_V_inspectTable 82 = .ok (.ladd, 1) := by decide +kernel
theorem d_V_inspectTable_83 : decode b_V_inspectTable 83 = .ok (.aload_n 0, 1) := by decide +kernel
theorem d_V_inspectTable_84 : decode b_V_inspectTable 84 = .ok (.getfield 15, 3) := by decide +kernel
theorem d_V_inspectTable_87 : decode b_V_inspectTable 87 = .ok (.getfield 23, 3) := by decide +kernel
theorem d_V_inspectTable_90 : decode b_V_inspectTable 90 = .ok (.i2l, 1) := by decide +kernel
theorem d_V_inspectTable_91 : decode b_V_inspectTable 91 = .ok (.lcmp, 1) := by decide +kernel
theorem d_V_inspectTable_92 : decode b_V_inspectTable 92 = .ok (.ifCond .le 5, 3) := by decide +kernel
theorem d_V_inspectTable_95 : decode b_V_inspectTable 95 = .ok (.iload_n 1, 1) := by decide +kernel
theorem d_V_inspectTable_96 : decode b_V_inspectTable 96 = .ok (.ireturn, 1) := by decide +kernel
theorem d_V_inspectTable_97 : decode b_V_inspectTable 97 = .ok (.aload_n 0, 1) := by decide +kernel
theorem d_V_inspectTable_98 : decode b_V_inspectTable 98 = .ok (.iload_n 1, 1) := by decide +kernel
theorem d_V_inspectTable_99 : decode b_V_inspectTable 99 = .ok (.lload 5, 2) := by decide +kernel
theorem d_V_inspectTable_101 : decode b_V_inspectTable 101 = .ok (.l2i, 1) := by decide +kernel
theorem d_V_inspectTable_102 : decode b_V_inspectTable 102 = .ok (.invokevirtual 44, 3) := by decide +kernel
theorem d_V_inspectTable_105 : decode b_V_inspectTable 105 = .ok (.istore 7, 2) := by decide +kernel
theorem d_V_inspectTable_107 : decode b_V_inspectTable 107 = .ok (.iconst 0, 1) := by decide +kernel
theorem d_V_inspectTable_108 : decode b_V_inspectTable 108 = .ok (.istore 8, 2) := by decide +kernel
theorem d_V_inspectTable_110 : decode b_V_inspectTable 110 = .ok (.iload 8, 2) := by decide +kernel
theorem d_V_inspectTable_112 : decode b_V_inspectTable 112 = .ok (.aload_n 0, 1) := by decide +kernel
theorem d_V_inspectTable_113 : decode b_V_inspectTable 113 = .ok (.getfield 9, 3) := by decide +kernel
theorem d_V_inspectTable_116 : decode b_V_inspectTable 116 = .ok (.iload_n 2, 1) := by decide +kernel
theorem d_V_inspectTable_117 : decode b_V_inspectTable 117 = .ok (.invokevirtual 48, 3) := by decide +kernel
theorem d_V_inspectTable_120 : decode b_V_inspectTable 120 = .ok (.if_icmp .ge 27, 3) := by decide +kernel
theorem d_V_inspectTable_123 : decode b_V_inspectTable 123 = .ok (.iload 7, 2) := by decide +kernel
theorem d_V_inspectTable_125 : decode b_V_inspectTable 125 = .ok (.iconst (-1), 1) := by decide +kernel
theorem d_V_inspectTable_126 : decode b_V_inspectTable 126 = .ok (.if_icmp .ne 21, 3) := by decide +kernel
theorem d_V_inspectTable_129 : decode b_V_inspectTable 129 = .ok (.aload_n 0, 1) := by decide +kernel
theorem d_V_inspectTable_130 : decode b_V_inspectTable 130 = .ok (.iload_n 1, 1) := by decide +kernel
theorem d_V_inspectTable_131 : decode b_V_inspectTable 131 = .ok (.iload_n 2, 1) := by decide +kernel
theorem d_V_inspectTable_132 : decode b_V_inspectTable 132 = .ok (.iload 8, 2) := by decide +kernel
theorem d_V_inspectTable_134 : decode b_V_inspectTable 134 = .ok (.iload 4, 2) := by decide +kernel
theorem d_V_inspectTable_136 : decode b_V_inspectTable 136 = .ok (.invokevirtual 53, 3) := by decide +kernel
theorem d_V_inspectTable_139 : decode b_V_inspectTable 139 = .ok (.istore 7, 2) := by decide +kernel
theorem d_V_inspectTable_141 : decode b_V_inspectTable 141 = .ok (.iinc 8 1, 3) := by decide +kernel
theorem d_V_inspectTable_144 : decode b_V_inspectTable 144 = .ok (.goto (-34), 3) := by decide +kernel
theorem d_V_inspectTable_147 : decode b_V_inspectTable 147 = .ok (.iload 7, 2) := by decide +kernel
theorem d_V_inspectTable_149 : decode b_V_inspectTable 149 = .ok (.ireturn, 1) := by decide +kernel
theorem m_V_isSound : kIV y_V_isSound b_V_isSound 5 (some .boolean) 2 := ⟨⟨wd_1fded524, wd_2dc89b72, ⟨by decide, by decide⟩, by decide +kernel⟩, wd_18580b3c, wd_c1bc2942⟩
theorem m_V_inspectOffsets : kIV y_V_inspectOffsets b_V_inspectOffsets 5 (some .int) 2 := ⟨⟨wd_78270d6d, wd_2dc89b72, ⟨by decide, by decide⟩, by decide +kernel⟩, wd_20dab4a6, wd_57839098⟩
theorem m_V_inspectField : kIV y_V_inspectField b_V_inspectField 11 (some .int) 4 := ⟨⟨wd_bc46739a, wd_2dc89b72, ⟨by decide, by decide⟩, by decide +kernel⟩, wd_33985c9b, wd_5eed5280⟩
theorem m_V_inspectTable : kIV y_V_inspectTable b_V_inspectTable 9 (some .int) 4 := ⟨⟨wd_bba8bdbe, wd_2dc89b72, ⟨by decide, by decide⟩, by decide +kernel⟩, wd_1f82e1ee, wd_090f5ed1⟩
set_option maxHeartbeats 4000000 in
set_option maxRecDepth 100000 in
theorem c_V_isSound (l : Launch) (D : va_G) (a : Nat → Nat) (g : Nat → ClassId) (tw : Nat) (sLen sKind : Nat → Nat) (sExt : Nat → Int32) (sMust : Nat → Bool) (rTab : Nat → Nat) (rFil : Nat → Bool) (rNum : Nat → Int64) (rLnk rLen : Nat → Nat) (rItm : Nat → Int32) (made : Nat) (pItm : Nat → Int32) (held : Nat) (dByt : Nat → Nat) (dLen : Nat) (bByt : Nat → Nat) (bRea : Nat → Bool) (bRec bItm bFld bOff bOfp : Nat → Nat) (kept wrt wid ent : Nat) (ver : Bool) (fAdr fTab adr tab : Nat) (lf : Int32) (k0 : Nat) (s0 : Nat)  (hk : k0 < 7) (hs : s0 < 1000000) (hB : ∀ k, dByt k < 256) (hd : dLen ≤ 240) : kM l y_V_isSound b_V_isSound 5 (some .boolean) ({ frames := 2, cells := 0, slots := 0, locals := 49 }) D vwCl (WdT g) tw [.ref (a 6), .int (nI k0), .int (nI s0)] (Wd a g sLen sKind sExt sMust rTab rFil rNum rLnk rLen rItm made pItm held dByt dLen bByt bRea bRec bItm bFld bOff bOfp kept wrt wid ent ver fAdr fTab adr tab lf) (some (.int (bI (sdF dByt dLen k0 s0)))) (Wd a g sLen sKind sExt sMust rTab rFil rNum rLnk rLen rItm made pItm held dByt dLen bByt bRea bRec bItm bFld bOff bOfp kept wrt wid ent ver fAdr fTab adr tab lf) := by
  refine k_of (by decide) (Nat.le_of_ble_eq_true rfl) ?_
  intro p e s m below meth c A ls hx hb hr hlocks hml hts hown hin0 hA hP hK hD hS hZ hl
  have hl : lv_has ls 5 [(0, .ref (a 6)), (1, .int (nI k0)), (2, .int (nI s0))] := hl
  refine lv_iload_n hx hb d_V_isSound_0 rfl (lv_at hl 2 rfl) ?_
  refine lv_iconst (v := nI 4) hx hb d_V_isSound_1 (by decide) ?_
  refine lv_irem hx hb d_V_isSound_2 (nI_ne0 (by omega) (by omega)) ?_
  refine lv_eqi (pk_rem (by omega) (by omega) (by omega)) ?_
  refine lv_if_ne (tgt := 19) hx hb d_V_isSound_3 (by decide) (fun c_3 => ?_) (fun c_3 => ?_)
  · skip
    have c_3 := mt (z_eq (by omega)).mpr c_3
    refine lv_iconst (v := nI 0) hx hb d_V_isSound_19 (by decide) ?_
    exact k_zret hx hb hr hlocks hK hP hD hS (trivial) (by rw [nI_bI0]; exact congrArg bI (decide_eq_false (by omega)).symm) (rfl) (bI_nar _) d_V_isSound_20
  · skip
    have c_3 := (z_eq (by omega)).mp c_3
    refine lv_iload_n hx hb d_V_isSound_6 rfl (lv_at hl 2 rfl) ?_
    refine lv_iconst (v := nI 4) hx hb d_V_isSound_7 (by decide) ?_
    refine lv_iadd hx hb d_V_isSound_8 ?_
    refine lv_eqi (nI_add _ _) ?_
    refine lv_aload_n hx hb d_V_isSound_9 rfl (lv_at hl 0 rfl) ?_
    refine va_get (D := D) (ci := 6) (C := R_V) (T := T_V) (N := 3) hx hb hts (fun w h => kT w (i_V w h)) hown hK hP 6 rfl rfl 1 (by decide) (hts _ (kT _ wd_c65a433d)) (fun _ h9 => h9) rfl d_V_isSound_10 ?_
    refine va_getN (D := D) (ci := 4) (C := R_D) (T := T_D) (N := 2) hx hb hts (fun w h => kT w (i_D w h)) hown hK hP 4 rfl rfl 1 (by decide) (va_Nw.use rfl (hZ.2.2.1 _ wn_8cec2538)) (fun _ h9 => h9) rfl d_V_isSound_13 ?_
    refine lv_icmp_le (tgt := 21) hx hb d_V_isSound_16 (by decide) (fun c_16 => ?_) (fun c_16 => ?_)
    · skip
      have c_16 := (nI_leI (by omega) (by omega)).mp c_16
      refine lv_aload_n hx hb d_V_isSound_21 rfl (lv_at hl 0 rfl) ?_
      refine va_get (D := D) (ci := 6) (C := R_V) (T := T_V) (N := 3) hx hb hts (fun w h => kT w (i_V w h)) hown hK hP 6 rfl rfl 1 (by decide) (hts _ (kT _ wd_c65a433d)) (fun _ h9 => h9) rfl d_V_isSound_22 ?_
      refine lv_iload_n hx hb d_V_isSound_25 rfl (lv_at hl 2 rfl) ?_
      refine k_callV (c_Data_capped l D a g tw sLen sKind sExt sMust rTab rFil rNum rLnk rLen rItm made pItm held dByt dLen bByt bRea bRec bItm bFld bOff bOfp kept wrt wid ent ver fAdr fTab adr tab lf (nI s0)  hB hd) m_D_capped wd_814e388c 4 4 rfl rfl rfl kT hx hb hml hown hts ⟨Nat.le_of_ble_eq_true rfl, Nat.le_of_ble_eq_true rfl⟩ ⟨Nat.le_of_ble_eq_true rfl, Nat.le_of_ble_eq_true rfl⟩ hK hP hD hS hA hZ hl.1 rfl rfl (Nat.le_of_ble_eq_true rfl) d_V_isSound_26 (fun H locs hP hD hS => ?_)
      have hP : va_P D vwCl (Wd a g sLen sKind sExt sMust rTab rFil rNum rLnk rLen rItm made pItm held dByt dLen bByt bRea bRec bItm bFld bOff bOfp kept wrt wid ent ver fAdr fTab adr tab lf) H := hP
      have hD : va_D A (Wd a g sLen sKind sExt sMust rTab rFil rNum rLnk rLen rItm made pItm held dByt dLen bByt bRea bRec bItm bFld bOff bOfp kept wrt wid ent ver fAdr fTab adr tab lf) := hD
      refine W.eq (g2 := F0 m 29 ls [.int (nI (min (leN dByt dLen (nI s0) 4) 100000))]) rfl ?_
      refine lv_istore_n (lv' := [(3, .int (nI (min (leN dByt dLen (nI s0) 4) 100000))), (0, .ref (a 6)), (1, .int (nI k0)), (2, .int (nI s0))]) hx hb d_V_isSound_29 rfl hl (by decide) rfl (fun ls hl => ?_)
      refine lv_iload_n hx hb d_V_isSound_30 rfl (lv_at hl 0 rfl) ?_
      refine lv_sipush (v := nI 200) hx hb d_V_isSound_31 (by decide) ?_
      refine lv_icmp_le (tgt := 39) hx hb d_V_isSound_34 (by decide) (fun c_34 => ?_) (fun c_34 => ?_)
      · skip
        have c_34 := (nI_leI (by omega) (by omega)).mp c_34
        refine lv_iload_n hx hb d_V_isSound_39 rfl (lv_at hl 2 rfl) ?_
        refine lv_iconst (v := nI 5) hx hb d_V_isSound_40 (by decide) ?_
        refine lv_icmp_ne (tgt := 67) hx hb d_V_isSound_41 (by decide) (fun c_41 => ?_) (fun c_41 => ?_)
        · skip
          have c_41 := mt (nI_eq (by omega) (by omega)).mpr c_41
          refine lv_iload_n hx hb d_V_isSound_67 rfl (lv_at hl 3 rfl) ?_
          refine lv_iconst (v := nI 4) hx hb d_V_isSound_68 (by decide) ?_
          refine lv_iadd hx hb d_V_isSound_69 ?_
          refine lv_eqi (nI_add _ _) ?_
          refine lv_iload_n hx hb d_V_isSound_70 rfl (lv_at hl 0 rfl) ?_
          refine lv_iadd hx hb d_V_isSound_71 ?_
          refine lv_eqi (nI_add _ _) ?_
          refine lv_istore (lv' := [(4, .int (nI ((s0 + 4) + (min (leN dByt dLen (nI s0) 4) 100000)))), (3, .int (nI (min (leN dByt dLen (nI s0) 4) 100000))), (0, .ref (a 6)), (1, .int (nI k0)), (2, .int (nI s0))]) hx hb d_V_isSound_72 hl (by decide) rfl (fun ls hl => ?_)
          refine lv_iload hx hb d_V_isSound_74 (lv_at hl 0 rfl) ?_
          refine lv_aload_n hx hb d_V_isSound_76 rfl (lv_at hl 2 rfl) ?_
          refine va_get (D := D) (ci := 6) (C := R_V) (T := T_V) (N := 3) hx hb hts (fun w h => kT w (i_V w h)) hown hK hP 6 rfl rfl 1 (by decide) (hts _ (kT _ wd_c65a433d)) (fun _ h9 => h9) rfl d_V_isSound_77 ?_
          refine va_getN (D := D) (ci := 4) (C := R_D) (T := T_D) (N := 2) hx hb hts (fun w h => kT w (i_D w h)) hown hK hP 4 rfl rfl 1 (by decide) (va_Nw.use rfl (hZ.2.2.1 _ wn_8cec2538)) (fun _ h9 => h9) rfl d_V_isSound_80 ?_
          refine lv_icmp_ge (tgt := 102) hx hb d_V_isSound_83 (by decide) (fun c_83 => ?_) (fun c_83 => ?_)
          · skip
            have c_83 := (nI_leI (by omega) (by omega)).mp c_83
            refine lv_iconst (v := nI 0) hx hb d_V_isSound_102 (by decide) ?_
            exact k_zret hx hb hr hlocks hK hP hD hS (trivial) (by rw [nI_bI0]; exact congrArg bI (decide_eq_false (by omega)).symm) (rfl) (bI_nar _) d_V_isSound_103
          · skip
            have c_83 := mt (nI_leI (by omega) (by omega)).mpr c_83
            refine lv_aload_n hx hb d_V_isSound_86 rfl (lv_at hl 2 rfl) ?_
            refine va_get (D := D) (ci := 6) (C := R_V) (T := T_V) (N := 3) hx hb hts (fun w h => kT w (i_V w h)) hown hK hP 6 rfl rfl 1 (by decide) (hts _ (kT _ wd_c65a433d)) (fun _ h9 => h9) rfl d_V_isSound_87 ?_
            refine lv_iload hx hb d_V_isSound_90 (lv_at hl 0 rfl) ?_
            refine k_callV (c_Data_unsignedByte l D a g tw sLen sKind sExt sMust rTab rFil rNum rLnk rLen rItm made pItm held dByt dLen bByt bRea bRec bItm bFld bOff bOfp kept wrt wid ent ver fAdr fTab adr tab lf (nI ((s0 + 4) + (min (leN dByt dLen (nI s0) 4) 100000)))  hB hd) m_D_unsignedByte wd_b01518a4 4 4 rfl rfl rfl kT hx hb hml hown hts ⟨Nat.le_of_ble_eq_true rfl, Nat.le_of_ble_eq_true rfl⟩ ⟨Nat.le_of_ble_eq_true rfl, Nat.le_of_ble_eq_true rfl⟩ hK hP hD hS hA hZ hl.1 rfl rfl (Nat.le_of_ble_eq_true rfl) d_V_isSound_92 (fun H locs hP hD hS => ?_)
            have hP : va_P D vwCl (Wd a g sLen sKind sExt sMust rTab rFil rNum rLnk rLen rItm made pItm held dByt dLen bByt bRea bRec bItm bFld bOff bOfp kept wrt wid ent ver fAdr fTab adr tab lf) H := hP
            have hD : va_D A (Wd a g sLen sKind sExt sMust rTab rFil rNum rLnk rLen rItm made pItm held dByt dLen bByt bRea bRec bItm bFld bOff bOfp kept wrt wid ent ver fAdr fTab adr tab lf) := hD
            refine W.eq (g2 := F0 m 95 ls [.int (nI (leN dByt dLen (nI ((s0 + 4) + (min (leN dByt dLen (nI s0) 4) 100000))) 1))]) rfl ?_
            have hle1 : leN dByt dLen (nI (s0 + 4 + min (leN dByt dLen (nI s0) 4) 100000)) 1 < 256 := leN_lt hB 1
            refine lv_if_ne (tgt := 102) hx hb d_V_isSound_95 (by decide) (fun c_95 => ?_) (fun c_95 => ?_)
            · skip
              have c_95 := mt (z_eq (by omega)).mpr c_95
              refine lv_iconst (v := nI 0) hx hb d_V_isSound_102 (by decide) ?_
              exact k_zret hx hb hr hlocks hK hP hD hS (trivial) (by rw [nI_bI0]; exact congrArg bI (decide_eq_false (by omega)).symm) (rfl) (bI_nar _) d_V_isSound_103
            · skip
              have c_95 := (z_eq (by omega)).mp c_95
              refine lv_iconst (v := nI 1) hx hb d_V_isSound_98 (by decide) ?_
              refine lv_goto (tgt := 103) hx hb d_V_isSound_99 (by decide) ?_
              exact k_zret hx hb hr hlocks hK hP hD hS (trivial) (by rw [nI_bI1]; exact congrArg bI (decide_eq_true (by omega)).symm) (rfl) (bI_nar _) d_V_isSound_103
        · skip
          have c_41 := (nI_eq (by omega) (by omega)).mp c_41
          refine lv_iload_n hx hb d_V_isSound_44 rfl (lv_at hl 3 rfl) ?_
          refine lv_iconst (v := nI 4) hx hb d_V_isSound_45 (by decide) ?_
          refine lv_iadd hx hb d_V_isSound_46 ?_
          refine lv_eqi (nI_add _ _) ?_
          refine lv_iconst (v := nI 2) hx hb d_V_isSound_47 (by decide) ?_
          refine lv_iload_n hx hb d_V_isSound_48 rfl (lv_at hl 0 rfl) ?_
          refine lv_imul hx hb d_V_isSound_49 ?_
          refine lv_eqi (pk_mul _ _) ?_
          refine lv_iadd hx hb d_V_isSound_50 ?_
          refine lv_eqi (nI_add _ _) ?_
          refine lv_aload_n hx hb d_V_isSound_51 rfl (lv_at hl 1 rfl) ?_
          refine va_get (D := D) (ci := 6) (C := R_V) (T := T_V) (N := 3) hx hb hts (fun w h => kT w (i_V w h)) hown hK hP 6 rfl rfl 1 (by decide) (hts _ (kT _ wd_c65a433d)) (fun _ h9 => h9) rfl d_V_isSound_52 ?_
          refine va_getN (D := D) (ci := 4) (C := R_D) (T := T_D) (N := 2) hx hb hts (fun w h => kT w (i_D w h)) hown hK hP 4 rfl rfl 1 (by decide) (va_Nw.use rfl (hZ.2.2.1 _ wn_8cec2538)) (fun _ h9 => h9) rfl d_V_isSound_55 ?_
          refine lv_icmp_gt (tgt := 65) hx hb d_V_isSound_58 (by decide) (fun c_58 => ?_) (fun c_58 => ?_)
          · skip
            have c_58 := (nI_ltI (by omega) (by omega)).mp c_58
            refine lv_iconst (v := nI 0) hx hb d_V_isSound_65 (by decide) ?_
            exact k_zret hx hb hr hlocks hK hP hD hS (trivial) (by rw [nI_bI0]; exact congrArg bI (decide_eq_false (by omega)).symm) (rfl) (bI_nar _) d_V_isSound_66
          · skip
            have c_58 := mt (nI_ltI (by omega) (by omega)).mpr c_58
            refine lv_iconst (v := nI 1) hx hb d_V_isSound_61 (by decide) ?_
            refine lv_goto (tgt := 66) hx hb d_V_isSound_62 (by decide) ?_
            exact k_zret hx hb hr hlocks hK hP hD hS (trivial) (by rw [nI_bI1]; exact congrArg bI (decide_eq_true (by omega)).symm) (rfl) (bI_nar _) d_V_isSound_66
      · skip
        have c_34 := mt (nI_leI (by omega) (by omega)).mpr c_34
        refine lv_iconst (v := nI 0) hx hb d_V_isSound_37 (by decide) ?_
        exact k_zret hx hb hr hlocks hK hP hD hS (trivial) (by rw [nI_bI0]; exact congrArg bI (decide_eq_false (by omega)).symm) (rfl) (bI_nar _) d_V_isSound_38
    · skip
      have c_16 := mt (nI_leI (by omega) (by omega)).mpr c_16
      refine lv_iconst (v := nI 0) hx hb d_V_isSound_19 (by decide) ?_
      exact k_zret hx hb hr hlocks hK hP hD hS (trivial) (by rw [nI_bI0]; exact congrArg bI (decide_eq_false (by omega)).symm) (rfl) (bI_nar _) d_V_isSound_20
set_option maxHeartbeats 4000000 in
set_option maxRecDepth 100000 in
theorem c_V_inspectOffsets (l : Launch) (D : va_G) (a : Nat → Nat) (g : Nat → ClassId) (tw : Nat) (sLen sKind : Nat → Nat) (sExt : Nat → Int32) (sMust : Nat → Bool) (rTab : Nat → Nat) (rFil : Nat → Bool) (rNum : Nat → Int64) (rLnk rLen : Nat → Nat) (rItm : Nat → Int32) (made : Nat) (pItm : Nat → Int32) (held : Nat) (dByt : Nat → Nat) (dLen : Nat) (bByt : Nat → Nat) (bRea : Nat → Bool) (bRec bItm bFld bOff bOfp : Nat → Nat) (kept wrt wid ent : Nat) (ver : Bool) (fAdr fTab adr tab : Nat) (lf : Int32) (x : Nat) (o : Nat)  (hx0 : x < 1000000) (ho : o < 1000000) (hB : ∀ k, dByt k < 256) (hd : dLen ≤ 240) : kM l y_V_inspectOffsets b_V_inspectOffsets 5 (some .int) ({ frames := 2, cells := 0, slots := 0, locals := 47 }) D vwCl (WdT g) tw [.ref (a 6), .int (nI x), .int (nI o)] (Wd a g sLen sKind sExt sMust rTab rFil rNum rLnk rLen rItm made pItm held dByt dLen bByt bRea bRec bItm bFld bOff bOfp kept wrt wid ent ver fAdr fTab adr tab lf) (some (.int (ioF dByt dLen x o))) (Wd a g sLen sKind sExt sMust rTab rFil rNum rLnk rLen rItm made pItm held dByt dLen bByt bRea bRec bItm bFld bOff bOfp kept wrt wid ent ver fAdr fTab adr tab lf) := by
  refine k_of (by decide) (Nat.le_of_ble_eq_true rfl) ?_
  intro p e s m below meth c A ls hx hb hr hlocks hml hts hown hin0 hA hP hK hD hS hZ hl
  have hl : lv_has ls 5 [(0, .ref (a 6)), (1, .int (nI x)), (2, .int (nI o))] := hl
  have hl2 : leN dByt dLen (nI o) 2 < 65536 := leN_lt hB 2
  have hl3 : leN dByt dLen (nI (o + 2)) 2 < 65536 := leN_lt hB 2
  refine lv_aload_n hx hb d_V_inspectOffsets_0 rfl (lv_at hl 0 rfl) ?_
  refine va_get (D := D) (ci := 6) (C := R_V) (T := T_V) (N := 3) hx hb hts (fun w h => kT w (i_V w h)) hown hK hP 6 rfl rfl 1 (by decide) (hts _ (kT _ wd_c65a433d)) (fun _ h9 => h9) rfl d_V_inspectOffsets_1 ?_
  refine lv_iload_n hx hb d_V_inspectOffsets_4 rfl (lv_at hl 2 rfl) ?_
  refine k_callV (c_Data_unsignedShort l D a g tw sLen sKind sExt sMust rTab rFil rNum rLnk rLen rItm made pItm held dByt dLen bByt bRea bRec bItm bFld bOff bOfp kept wrt wid ent ver fAdr fTab adr tab lf (nI o)  hB hd) m_D_unsignedShort wd_fb615893 4 4 rfl rfl rfl kT hx hb hml hown hts ⟨Nat.le_of_ble_eq_true rfl, Nat.le_of_ble_eq_true rfl⟩ ⟨Nat.le_of_ble_eq_true rfl, Nat.le_of_ble_eq_true rfl⟩ hK hP hD hS hA hZ hl.1 rfl rfl (Nat.le_of_ble_eq_true rfl) d_V_inspectOffsets_5 (fun H locs hP hD hS => ?_)
  have hP : va_P D vwCl (Wd a g sLen sKind sExt sMust rTab rFil rNum rLnk rLen rItm made pItm held dByt dLen bByt bRea bRec bItm bFld bOff bOfp kept wrt wid ent ver fAdr fTab adr tab lf) H := hP
  have hD : va_D A (Wd a g sLen sKind sExt sMust rTab rFil rNum rLnk rLen rItm made pItm held dByt dLen bByt bRea bRec bItm bFld bOff bOfp kept wrt wid ent ver fAdr fTab adr tab lf) := hD
  refine W.eq (g2 := F0 m 8 ls [.int (nI (leN dByt dLen (nI o) 2))]) rfl ?_
  refine lv_istore_n (lv' := [(3, .int (nI (leN dByt dLen (nI o) 2))), (0, .ref (a 6)), (1, .int (nI x)), (2, .int (nI o))]) hx hb d_V_inspectOffsets_8 rfl hl (by decide) rfl (fun ls hl => ?_)
  refine lv_iload_n hx hb d_V_inspectOffsets_9 rfl (lv_at hl 0 rfl) ?_
  refine lv_iconst (v := nI 2) hx hb d_V_inspectOffsets_10 (by decide) ?_
  refine lv_irem hx hb d_V_inspectOffsets_11 (nI_ne0 (by omega) (by omega)) ?_
  refine lv_eqi (pk_rem (by omega) (by omega) (by omega)) ?_
  refine lv_if_ne (tgt := 33) hx hb d_V_inspectOffsets_12 (by decide) (fun c_12 => ?_) (fun c_12 => ?_)
  · skip
    have c_12 := mt (z_eq (by omega)).mpr c_12
    refine lv_iload_n hx hb d_V_inspectOffsets_33 rfl (lv_at hl 3 rfl) ?_
    exact k_iret hx hb hr hlocks hK hP hD hS (trivial) (by rw [ioF, if_pos (by omega)]) (rfl) d_V_inspectOffsets_34
  · skip
    have c_12 := (z_eq (by omega)).mp c_12
    refine lv_iload_n hx hb d_V_inspectOffsets_15 rfl (lv_at hl 0 rfl) ?_
    refine lv_iconst (v := nI 4) hx hb d_V_inspectOffsets_16 (by decide) ?_
    refine lv_icmp_lt (tgt := 33) hx hb d_V_inspectOffsets_17 (by decide) (fun c_17 => ?_) (fun c_17 => ?_)
    · skip
      have c_17 := (nI_ltI (by omega) (by omega)).mp c_17
      refine lv_iload_n hx hb d_V_inspectOffsets_33 rfl (lv_at hl 3 rfl) ?_
      exact k_iret hx hb hr hlocks hK hP hD hS (trivial) (by rw [ioF, if_pos (by omega)]) (rfl) d_V_inspectOffsets_34
    · skip
      have c_17 := mt (nI_ltI (by omega) (by omega)).mpr c_17
      refine lv_iload_n hx hb d_V_inspectOffsets_20 rfl (lv_at hl 3 rfl) ?_
      refine lv_iload_n hx hb d_V_inspectOffsets_21 rfl (lv_at hl 0 rfl) ?_
      refine lv_iadd hx hb d_V_inspectOffsets_22 ?_
      refine lv_eqi (nI_add _ _) ?_
      refine lv_aload_n hx hb d_V_inspectOffsets_23 rfl (lv_at hl 1 rfl) ?_
      refine va_get (D := D) (ci := 6) (C := R_V) (T := T_V) (N := 3) hx hb hts (fun w h => kT w (i_V w h)) hown hK hP 6 rfl rfl 1 (by decide) (hts _ (kT _ wd_c65a433d)) (fun _ h9 => h9) rfl d_V_inspectOffsets_24 ?_
      refine va_getN (D := D) (ci := 4) (C := R_D) (T := T_D) (N := 2) hx hb hts (fun w h => kT w (i_D w h)) hown hK hP 4 rfl rfl 1 (by decide) (va_Nw.use rfl (hZ.2.2.1 _ wn_8cec2538)) (fun _ h9 => h9) rfl d_V_inspectOffsets_27 ?_
      refine lv_icmp_le (tgt := 35) hx hb d_V_inspectOffsets_30 (by decide) (fun c_30 => ?_) (fun c_30 => ?_)
      · skip
        have c_30 := (nI_leI (by omega) (by omega)).mp c_30
        refine lv_aload_n hx hb d_V_inspectOffsets_35 rfl (lv_at hl 1 rfl) ?_
        refine va_get (D := D) (ci := 6) (C := R_V) (T := T_V) (N := 3) hx hb hts (fun w h => kT w (i_V w h)) hown hK hP 6 rfl rfl 1 (by decide) (hts _ (kT _ wd_c65a433d)) (fun _ h9 => h9) rfl d_V_inspectOffsets_36 ?_
        refine lv_iload_n hx hb d_V_inspectOffsets_39 rfl (lv_at hl 3 rfl) ?_
        refine lv_iconst (v := nI 2) hx hb d_V_inspectOffsets_40 (by decide) ?_
        refine lv_iadd hx hb d_V_inspectOffsets_41 ?_
        refine lv_eqi (nI_add _ _) ?_
        refine k_callV (c_Data_unsignedShort l D a g tw sLen sKind sExt sMust rTab rFil rNum rLnk rLen rItm made pItm held dByt dLen bByt bRea bRec bItm bFld bOff bOfp kept wrt wid ent ver fAdr fTab adr tab lf (nI (o + 2))  hB hd) m_D_unsignedShort wd_fb615893 4 4 rfl rfl rfl kT hx hb hml hown hts ⟨Nat.le_of_ble_eq_true rfl, Nat.le_of_ble_eq_true rfl⟩ ⟨Nat.le_of_ble_eq_true rfl, Nat.le_of_ble_eq_true rfl⟩ hK hP hD hS hA hZ hl.1 rfl rfl (Nat.le_of_ble_eq_true rfl) d_V_inspectOffsets_42 (fun H locs hP hD hS => ?_)
        have hP : va_P D vwCl (Wd a g sLen sKind sExt sMust rTab rFil rNum rLnk rLen rItm made pItm held dByt dLen bByt bRea bRec bItm bFld bOff bOfp kept wrt wid ent ver fAdr fTab adr tab lf) H := hP
        have hD : va_D A (Wd a g sLen sKind sExt sMust rTab rFil rNum rLnk rLen rItm made pItm held dByt dLen bByt bRea bRec bItm bFld bOff bOfp kept wrt wid ent ver fAdr fTab adr tab lf) := hD
        refine W.eq (g2 := F0 m 45 ls [.int (nI (leN dByt dLen (nI (o + 2)) 2))]) rfl ?_
        refine lv_istore (lv' := [(4, .int (nI (leN dByt dLen (nI (o + 2)) 2))), (3, .int (nI (leN dByt dLen (nI o) 2))), (0, .ref (a 6)), (1, .int (nI x)), (2, .int (nI o))]) hx hb d_V_inspectOffsets_45 hl (by decide) rfl (fun ls hl => ?_)
        refine lv_iload hx hb d_V_inspectOffsets_47 (lv_at hl 0 rfl) ?_
        refine lv_iconst (v := nI 4) hx hb d_V_inspectOffsets_49 (by decide) ?_
        refine lv_icmp_lt (tgt := 67) hx hb d_V_inspectOffsets_50 (by decide) (fun c_50 => ?_) (fun c_50 => ?_)
        · skip
          have c_50 := (nI_ltI (by omega) (by omega)).mp c_50
          refine lv_iload_n hx hb d_V_inspectOffsets_67 rfl (lv_at hl 4 rfl) ?_
          refine lv_iconst (v := nI 2) hx hb d_V_inspectOffsets_68 (by decide) ?_
          refine lv_iadd hx hb d_V_inspectOffsets_69 ?_
          refine lv_eqi (nI_add _ _) ?_
          exact k_iret hx hb hr hlocks hK hP hD hS (trivial) (by rw [ioF, if_neg (by omega), if_pos (by omega)]) (rfl) d_V_inspectOffsets_70
        · skip
          have c_50 := mt (nI_ltI (by omega) (by omega)).mpr c_50
          refine lv_iload_n hx hb d_V_inspectOffsets_53 rfl (lv_at hl 3 rfl) ?_
          refine lv_iload hx hb d_V_inspectOffsets_54 (lv_at hl 0 rfl) ?_
          refine lv_iadd hx hb d_V_inspectOffsets_56 ?_
          refine lv_eqi (nI_add _ _) ?_
          refine lv_aload_n hx hb d_V_inspectOffsets_57 rfl (lv_at hl 2 rfl) ?_
          refine va_get (D := D) (ci := 6) (C := R_V) (T := T_V) (N := 3) hx hb hts (fun w h => kT w (i_V w h)) hown hK hP 6 rfl rfl 1 (by decide) (hts _ (kT _ wd_c65a433d)) (fun _ h9 => h9) rfl d_V_inspectOffsets_58 ?_
          refine va_getN (D := D) (ci := 4) (C := R_D) (T := T_D) (N := 2) hx hb hts (fun w h => kT w (i_D w h)) hown hK hP 4 rfl rfl 1 (by decide) (va_Nw.use rfl (hZ.2.2.1 _ wn_8cec2538)) (fun _ h9 => h9) rfl d_V_inspectOffsets_61 ?_
          refine lv_icmp_le (tgt := 71) hx hb d_V_inspectOffsets_64 (by decide) (fun c_64 => ?_) (fun c_64 => ?_)
          · skip
            have c_64 := (nI_leI (by omega) (by omega)).mp c_64
            refine lv_iconst (v := -1) hx hb d_V_inspectOffsets_71 (by decide) ?_
            exact k_iret hx hb hr hlocks hK hP hD hS (trivial) (by rw [ioF, if_neg (by omega), if_neg (by omega)]) (rfl) d_V_inspectOffsets_72
          · skip
            have c_64 := mt (nI_leI (by omega) (by omega)).mpr c_64
            refine lv_iload_n hx hb d_V_inspectOffsets_67 rfl (lv_at hl 4 rfl) ?_
            refine lv_iconst (v := nI 2) hx hb d_V_inspectOffsets_68 (by decide) ?_
            refine lv_iadd hx hb d_V_inspectOffsets_69 ?_
            refine lv_eqi (nI_add _ _) ?_
            exact k_iret hx hb hr hlocks hK hP hD hS (trivial) (by rw [ioF, if_neg (by omega), if_pos (by omega)]) (rfl) d_V_inspectOffsets_70
      · skip
        have c_30 := mt (nI_leI (by omega) (by omega)).mpr c_30
        refine lv_iload_n hx hb d_V_inspectOffsets_33 rfl (lv_at hl 3 rfl) ?_
        exact k_iret hx hb hr hlocks hK hP hD hS (trivial) (by rw [ioF, if_pos (by omega)]) (rfl) d_V_inspectOffsets_34
set_option maxHeartbeats 4000000 in
set_option maxRecDepth 100000 in
theorem c_V_inspectField (l : Launch) (D : va_G) (a : Nat → Nat) (g : Nat → ClassId) (tw : Nat) (sLen sKind : Nat → Nat) (sExt : Nat → Int32) (sMust : Nat → Bool) (rTab : Nat → Nat) (rFil : Nat → Bool) (rNum : Nat → Int64) (rLnk rLen : Nat → Nat) (rItm : Nat → Int32) (made : Nat) (pItm : Nat → Int32) (held : Nat) (dByt : Nat → Nat) (dLen : Nat) (bByt : Nat → Nat) (bRea : Nat → Bool) (bRec bItm bFld bOff bOfp : Nat → Nat) (kept wrt wid ent : Nat) (ver : Bool) (fAdr fTab adr tab : Nat) (lf : Int32) (x : Nat) (t : Nat) (f : Nat) (dp : Nat) (K : Nat) (ihT : ∀ (l : Launch) (D : va_G) (a : Nat → Nat) (g : Nat → ClassId) (tw : Nat) (sLen sKind : Nat → Nat) (sExt : Nat → Int32) (sMust : Nat → Bool) (rTab : Nat → Nat) (rFil : Nat → Bool) (rNum : Nat → Int64) (rLnk rLen : Nat → Nat) (rItm : Nat → Int32) (made : Nat) (pItm : Nat → Int32) (held : Nat) (dByt : Nat → Nat) (dLen : Nat) (bByt : Nat → Nat) (bRea : Nat → Bool) (bRec bItm bFld bOff bOfp : Nat → Nat) (kept wrt wid ent : Nat) (ver : Bool) (fAdr fTab adr tab : Nat) (lf : Int32) (x : Nat) (t : Nat) (to : Nat) (dp : Nat) (hK0 : dp + K = 7) (hx0 : x < 300000) (ht : t < 4) (hen : ent ≤ 16) (hq : SOK (SR.mk sLen sKind sExt sMust rTab rFil rNum rLnk rLen rItm)) (hX : ∀ j, sKind j = 6 → okT (sExt j) = true) (hB : ∀ k, dByt k < 256) (hd : dLen ≤ 240), kM l y_V_inspectTable b_V_inspectTable 9 (some .int) ({ frames := 20 + 2 * K, cells := 0, slots := 0, locals := 200 + 80 * K }) D vwCl (WdT g) tw [.ref (a 6), .int (nI x), .int (nI t), .int (nI to), .int (nI dp)] (Wd a g sLen sKind sExt sMust rTab rFil rNum rLnk rLen rItm made pItm held dByt dLen bByt bRea bRec bItm bFld bOff bOfp kept wrt wid ent ver fAdr fTab adr tab lf) (some (.int ((vTb (SR.mk sLen sKind sExt sMust rTab rFil rNum rLnk rLen rItm) dByt dLen K x t to ent).1))) (Wd a g sLen sKind sExt sMust rTab rFil rNum rLnk rLen rItm made pItm held dByt dLen bByt bRea bRec bItm bFld bOff bOfp kept wrt wid ((vTb (SR.mk sLen sKind sExt sMust rTab rFil rNum rLnk rLen rItm) dByt dLen K x t to ent).2) ver fAdr fTab adr tab lf)) (hK0 : dp + 1 + K = 7) (hx0 : x ≤ 240) (ht : t < 4) (hf : f < 6) (hen : ent ≤ 16) (hq : SOK (SR.mk sLen sKind sExt sMust rTab rFil rNum rLnk rLen rItm)) (hX : ∀ j, sKind j = 6 → okT (sExt j) = true) (hB : ∀ k, dByt k < 256) (hd : dLen ≤ 240) (hvo : vOf dByt dLen x = nI (vN dByt dLen x)) (hv4 : vN dByt dLen x + 4 ≤ dLen) : kM l y_V_inspectField b_V_inspectField 11 (some .int) ({ frames := 21 + 2 * K, cells := 0, slots := 0, locals := 240 + 80 * K }) D vwCl (WdT g) tw [.ref (a 6), .int (nI x), .int (nI t), .int (nI f), .int (nI dp)] (Wd a g sLen sKind sExt sMust rTab rFil rNum rLnk rLen rItm made pItm held dByt dLen bByt bRea bRec bItm bFld bOff bOfp kept wrt wid ent ver fAdr fTab adr tab lf) (some (.int ((fdF (SR.mk sLen sKind sExt sMust rTab rFil rNum rLnk rLen rItm) dByt dLen (vTb (SR.mk sLen sKind sExt sMust rTab rFil rNum rLnk rLen rItm) dByt dLen K) x t f ent).1))) (Wd a g sLen sKind sExt sMust rTab rFil rNum rLnk rLen rItm made pItm held dByt dLen bByt bRea bRec bItm bFld bOff bOfp kept wrt wid ((fdF (SR.mk sLen sKind sExt sMust rTab rFil rNum rLnk rLen rItm) dByt dLen (vTb (SR.mk sLen sKind sExt sMust rTab rFil rNum rLnk rLen rItm) dByt dLen K) x t f ent).2) ver fAdr fTab adr tab lf) := by
  refine k_of (by decide) (Nat.le_of_ble_eq_true rfl) ?_
  intro p e s m below meth c A ls hx hb hr hlocks hml hts hown hin0 hA hP hK hD hS hZ hl
  have hl : lv_has ls 11 [(0, .ref (a 6)), (1, .int (nI x)), (2, .int (nI t)), (3, .int (nI f)), (4, .int (nI dp))] := hl
  have hof : ofF dByt dLen x f < 65536 := offF_lt hB
  have hk1 : sKind (t * 6 + f) < 7 := hq.hk _
  have hkw := kWd_8 _ hk1
  have hl3 : leN dByt dLen (nI (vN dByt dLen x + 2)) 2 < 65536 := leN_lt hB 2
  refine lv_aload_n hx hb d_V_inspectField_0 rfl (lv_at hl 0 rfl) ?_
  refine va_get (D := D) (ci := 6) (C := R_V) (T := T_V) (N := 3) hx hb hts (fun w h => kT w (i_V w h)) hown hK hP 6 rfl rfl 1 (by decide) (hts _ (kT _ wd_c65a433d)) (fun _ h9 => h9) rfl d_V_inspectField_1 ?_
  refine lv_iload_n hx hb d_V_inspectField_4 rfl (lv_at hl 1 rfl) ?_
  refine k_callV (c_Data_offsetsOf l D a g tw sLen sKind sExt sMust rTab rFil rNum rLnk rLen rItm made pItm held dByt dLen bByt bRea bRec bItm bFld bOff bOfp kept wrt wid ent ver fAdr fTab adr tab lf x  hB hd) m_D_offsetsOf wd_57a775bc 4 4 rfl rfl rfl kT hx hb hml hown hts ⟨(by dsimp only; omega), (by dsimp only; omega)⟩ ⟨Nat.le_of_ble_eq_true rfl, Nat.le_of_ble_eq_true rfl⟩ hK hP hD hS hA hZ hl.1 rfl rfl (Nat.le_of_ble_eq_true rfl) d_V_inspectField_5 (fun H locs hP hD hS => ?_)
  have hP : va_P D vwCl (Wd a g sLen sKind sExt sMust rTab rFil rNum rLnk rLen rItm made pItm held dByt dLen bByt bRea bRec bItm bFld bOff bOfp kept wrt wid ent ver fAdr fTab adr tab lf) H := hP
  have hD : va_D A (Wd a g sLen sKind sExt sMust rTab rFil rNum rLnk rLen rItm made pItm held dByt dLen bByt bRea bRec bItm bFld bOff bOfp kept wrt wid ent ver fAdr fTab adr tab lf) := hD
  refine W.eq (g2 := F0 m 8 ls [.long ((nI x).toInt64 - sxL 4 (leN dByt dLen (nI x) 4))]) rfl ?_
  refine lv_l2i hx hb d_V_inspectField_8 rfl ?_
  refine lv_eqi (show _ = nI (vN dByt dLen x) from hvo) ?_
  refine lv_istore (lv' := [(5, .int (nI (vN dByt dLen x))), (0, .ref (a 6)), (1, .int (nI x)), (2, .int (nI t)), (3, .int (nI f)), (4, .int (nI dp))]) hx hb d_V_inspectField_9 hl (by decide) rfl (fun ls hl => ?_)
  refine lv_aload_n hx hb d_V_inspectField_11 rfl (lv_at hl 1 rfl) ?_
  refine va_get (D := D) (ci := 6) (C := R_V) (T := T_V) (N := 3) hx hb hts (fun w h => kT w (i_V w h)) hown hK hP 6 rfl rfl 1 (by decide) (hts _ (kT _ wd_c65a433d)) (fun _ h9 => h9) rfl d_V_inspectField_12 ?_
  refine lv_iload hx hb d_V_inspectField_15 (lv_at hl 0 rfl) ?_
  refine lv_iload_n hx hb d_V_inspectField_17 rfl (lv_at hl 4 rfl) ?_
  refine k_callV (c_Data_offsetOf l D a g tw sLen sKind sExt sMust rTab rFil rNum rLnk rLen rItm made pItm held dByt dLen bByt bRea bRec bItm bFld bOff bOfp kept wrt wid ent ver fAdr fTab adr tab lf (nI (vN dByt dLen x)) f  hB hd hf) m_D_offsetOf wd_75e57121 4 4 rfl rfl rfl kT hx hb hml hown hts ⟨(by dsimp only; omega), (by dsimp only; omega)⟩ ⟨Nat.le_of_ble_eq_true rfl, Nat.le_of_ble_eq_true rfl⟩ hK hP hD hS hA hZ hl.1 rfl rfl (Nat.le_of_ble_eq_true rfl) d_V_inspectField_18 (fun H locs hP hD hS => ?_)
  have hP : va_P D vwCl (Wd a g sLen sKind sExt sMust rTab rFil rNum rLnk rLen rItm made pItm held dByt dLen bByt bRea bRec bItm bFld bOff bOfp kept wrt wid ent ver fAdr fTab adr tab lf) H := hP
  have hD : va_D A (Wd a g sLen sKind sExt sMust rTab rFil rNum rLnk rLen rItm made pItm held dByt dLen bByt bRea bRec bItm bFld bOff bOfp kept wrt wid ent ver fAdr fTab adr tab lf) := hD
  refine W.eq (g2 := F0 m 21 ls [.int (nI (offF dByt dLen (nI (vN dByt dLen x)) f))]) rfl ?_
  refine lv_eqi (show _ = nI (ofF dByt dLen x f) from nI_congr (by rw [ofF, hvo])) ?_
  refine lv_istore (lv' := [(6, .int (nI (ofF dByt dLen x f))), (5, .int (nI (vN dByt dLen x))), (0, .ref (a 6)), (1, .int (nI x)), (2, .int (nI t)), (3, .int (nI f)), (4, .int (nI dp))]) hx hb d_V_inspectField_21 hl (by decide) rfl (fun ls hl => ?_)
  refine lv_iload hx hb d_V_inspectField_23 (lv_at hl 0 rfl) ?_
  refine lv_if_ne (tgt := 46) hx hb d_V_inspectField_25 (by decide) (fun c_25 => ?_) (fun c_25 => ?_)
  · skip
    have c_25 := mt (z_eq (by omega)).mpr c_25
    refine lv_aload_n hx hb d_V_inspectField_46 rfl (lv_at hl 2 rfl) ?_
    refine va_get (D := D) (ci := 6) (C := R_V) (T := T_V) (N := 3) hx hb hts (fun w h => kT w (i_V w h)) hown hK hP 6 rfl rfl 0 (by decide) (hts _ (kT _ wd_8aacbd0a)) (fun _ h9 => h9) rfl d_V_inspectField_47 ?_
    refine lv_iload_n hx hb d_V_inspectField_50 rfl (lv_at hl 4 rfl) ?_
    refine lv_iload_n hx hb d_V_inspectField_51 rfl (lv_at hl 5 rfl) ?_
    refine k_callV (c_Schema_kindOf l D a g tw sLen sKind sExt sMust rTab rFil rNum rLnk rLen rItm made pItm held dByt dLen bByt bRea bRec bItm bFld bOff bOfp kept wrt wid ent ver fAdr fTab adr tab lf t f  (by omega) (by omega)) m_S_kindOf wd_f03ce7be 1 1 rfl rfl rfl kT hx hb hml hown hts ⟨(by dsimp only; omega), (by dsimp only; omega)⟩ ⟨Nat.le_of_ble_eq_true rfl, Nat.le_of_ble_eq_true rfl⟩ hK hP hD hS hA hZ hl.1 rfl rfl (Nat.le_of_ble_eq_true rfl) d_V_inspectField_52 (fun H locs hP hD hS => ?_)
    have hP : va_P D vwCl (Wd a g sLen sKind sExt sMust rTab rFil rNum rLnk rLen rItm made pItm held dByt dLen bByt bRea bRec bItm bFld bOff bOfp kept wrt wid ent ver fAdr fTab adr tab lf) H := hP
    have hD : va_D A (Wd a g sLen sKind sExt sMust rTab rFil rNum rLnk rLen rItm made pItm held dByt dLen bByt bRea bRec bItm bFld bOff bOfp kept wrt wid ent ver fAdr fTab adr tab lf) := hD
    refine W.eq (g2 := F0 m 55 ls [.int (nI (sKind (t * 6 + f)))]) rfl ?_
    refine lv_istore (lv' := [(7, .int (nI (sKind (t * 6 + f)))), (6, .int (nI (ofF dByt dLen x f))), (5, .int (nI (vN dByt dLen x))), (0, .ref (a 6)), (1, .int (nI x)), (2, .int (nI t)), (3, .int (nI f)), (4, .int (nI dp))]) hx hb d_V_inspectField_55 hl (by decide) rfl (fun ls hl => ?_)
    refine va_getsN hx hb hZ.2.1.1 hS hown (va_Nw.use rfl (hZ.2.2.1 _ wn_9cbe9f93)) (fun _ h9 => h9) d_V_inspectField_57 ?_
    refine lv_iload hx hb d_V_inspectField_60 (lv_at hl 0 rfl) ?_
    refine va_ti hx hb hZ.2.1.2 hS (vp_in_nI (by omega) (by decide)) (show (fun j => Value.int (nI (kWd j))) (nI (sKind (t * 6 + f))).toNatClampNeg = .int (nI (kWd (sKind (t * 6 + f)))) by rw [nI_clamp (by omega)]) d_V_inspectField_62 ?_
    refine lv_istore (lv' := [(8, .int (nI (kWd (sKind (t * 6 + f))))), (7, .int (nI (sKind (t * 6 + f)))), (6, .int (nI (ofF dByt dLen x f))), (5, .int (nI (vN dByt dLen x))), (0, .ref (a 6)), (1, .int (nI x)), (2, .int (nI t)), (3, .int (nI f)), (4, .int (nI dp))]) hx hb d_V_inspectField_63 hl (by decide) rfl (fun ls hl => ?_)
    refine lv_iload_n hx hb d_V_inspectField_65 rfl (lv_at hl 5 rfl) ?_
    refine lv_iload hx hb d_V_inspectField_66 (lv_at hl 2 rfl) ?_
    refine lv_iadd hx hb d_V_inspectField_68 ?_
    refine lv_eqi (nI_add _ _) ?_
    refine lv_istore (lv' := [(9, .int (nI (x + (ofF dByt dLen x f)))), (8, .int (nI (kWd (sKind (t * 6 + f))))), (7, .int (nI (sKind (t * 6 + f)))), (6, .int (nI (ofF dByt dLen x f))), (5, .int (nI (vN dByt dLen x))), (0, .ref (a 6)), (1, .int (nI x)), (2, .int (nI t)), (3, .int (nI f)), (4, .int (nI dp))]) hx hb d_V_inspectField_69 hl (by decide) rfl (fun ls hl => ?_)
    refine lv_aload_n hx hb d_V_inspectField_71 rfl (lv_at hl 5 rfl) ?_
    refine va_get (D := D) (ci := 6) (C := R_V) (T := T_V) (N := 3) hx hb hts (fun w h => kT w (i_V w h)) hown hK hP 6 rfl rfl 1 (by decide) (hts _ (kT _ wd_c65a433d)) (fun _ h9 => h9) rfl d_V_inspectField_72 ?_
    refine lv_iload hx hb d_V_inspectField_75 (lv_at hl 4 rfl) ?_
    refine lv_iconst (v := nI 2) hx hb d_V_inspectField_77 (by decide) ?_
    refine lv_iadd hx hb d_V_inspectField_78 ?_
    refine lv_eqi (nI_add _ _) ?_
    refine k_callV (c_Data_unsignedShort l D a g tw sLen sKind sExt sMust rTab rFil rNum rLnk rLen rItm made pItm held dByt dLen bByt bRea bRec bItm bFld bOff bOfp kept wrt wid ent ver fAdr fTab adr tab lf (nI ((vN dByt dLen x) + 2))  hB hd) m_D_unsignedShort wd_fb615893 4 4 rfl rfl rfl kT hx hb hml hown hts ⟨(by dsimp only; omega), (by dsimp only; omega)⟩ ⟨Nat.le_of_ble_eq_true rfl, Nat.le_of_ble_eq_true rfl⟩ hK hP hD hS hA hZ hl.1 rfl rfl (Nat.le_of_ble_eq_true rfl) d_V_inspectField_79 (fun H locs hP hD hS => ?_)
    have hP : va_P D vwCl (Wd a g sLen sKind sExt sMust rTab rFil rNum rLnk rLen rItm made pItm held dByt dLen bByt bRea bRec bItm bFld bOff bOfp kept wrt wid ent ver fAdr fTab adr tab lf) H := hP
    have hD : va_D A (Wd a g sLen sKind sExt sMust rTab rFil rNum rLnk rLen rItm made pItm held dByt dLen bByt bRea bRec bItm bFld bOff bOfp kept wrt wid ent ver fAdr fTab adr tab lf) := hD
    refine W.eq (g2 := F0 m 82 ls [.int (nI (leN dByt dLen (nI ((vN dByt dLen x) + 2)) 2))]) rfl ?_
    refine lv_istore (lv' := [(10, .int (nI (leN dByt dLen (nI ((vN dByt dLen x) + 2)) 2))), (9, .int (nI (x + (ofF dByt dLen x f)))), (8, .int (nI (kWd (sKind (t * 6 + f))))), (7, .int (nI (sKind (t * 6 + f)))), (6, .int (nI (ofF dByt dLen x f))), (5, .int (nI (vN dByt dLen x))), (0, .ref (a 6)), (1, .int (nI x)), (2, .int (nI t)), (3, .int (nI f)), (4, .int (nI dp))]) hx hb d_V_inspectField_82 hl (by decide) rfl (fun ls hl => ?_)
    refine lv_iload hx hb d_V_inspectField_84 (lv_at hl 4 rfl) ?_
    refine lv_iconst (v := nI 4) hx hb d_V_inspectField_86 (by decide) ?_
    refine lv_icmp_lt (tgt := 108) hx hb d_V_inspectField_87 (by decide) (fun c_87 => ?_) (fun c_87 => ?_)
    · skip
      have c_87 := (nI_ltI (by omega) (by omega)).mp c_87
      refine lv_iload hx hb d_V_inspectField_108 (lv_at hl 5 rfl) ?_
      refine lv_iconst (v := nI 4) hx hb d_V_inspectField_110 (by decide) ?_
      refine lv_iadd hx hb d_V_inspectField_111 ?_
      refine lv_eqi (nI_add _ _) ?_
      refine lv_iconst (v := nI 2) hx hb d_V_inspectField_112 (by decide) ?_
      refine lv_iload_n hx hb d_V_inspectField_113 rfl (lv_at hl 9 rfl) ?_
      refine lv_imul hx hb d_V_inspectField_114 ?_
      refine lv_eqi (pk_mul _ _) ?_
      refine lv_iadd hx hb d_V_inspectField_115 ?_
      refine lv_eqi (nI_add _ _) ?_
      have hv : fdF (SR.mk sLen sKind sExt sMust rTab rFil rNum rLnk rLen rItm) dByt dLen (vTb (SR.mk sLen sKind sExt sMust rTab rFil rNum rLnk rLen rItm) dByt dLen K) x t f ent = (nI (((vN dByt dLen x) + 4) + (2 * f)), ent) := fdF_b c_25 (Or.inl c_87)
      exact k_iret hx hb hr hlocks hK hP hD hS (trivial) (by rw [hv]; first | done | rfl) (by rw [hv]; first | done | rfl) d_V_inspectField_116
    · skip
      have c_87 := mt (nI_ltI (by omega) (by omega)).mpr c_87
      refine lv_iload hx hb d_V_inspectField_90 (lv_at hl 4 rfl) ?_
      refine lv_iload hx hb d_V_inspectField_92 (lv_at hl 2 rfl) ?_
      refine lv_iadd hx hb d_V_inspectField_94 ?_
      refine lv_eqi (nI_add _ _) ?_
      refine lv_iload hx hb d_V_inspectField_95 (lv_at hl 0 rfl) ?_
      refine lv_icmp_gt (tgt := 108) hx hb d_V_inspectField_97 (by decide) (fun c_97 => ?_) (fun c_97 => ?_)
      · skip
        have c_97 := (nI_ltI (by omega) (by omega)).mp c_97
        refine lv_iload hx hb d_V_inspectField_108 (lv_at hl 5 rfl) ?_
        refine lv_iconst (v := nI 4) hx hb d_V_inspectField_110 (by decide) ?_
        refine lv_iadd hx hb d_V_inspectField_111 ?_
        refine lv_eqi (nI_add _ _) ?_
        refine lv_iconst (v := nI 2) hx hb d_V_inspectField_112 (by decide) ?_
        refine lv_iload_n hx hb d_V_inspectField_113 rfl (lv_at hl 9 rfl) ?_
        refine lv_imul hx hb d_V_inspectField_114 ?_
        refine lv_eqi (pk_mul _ _) ?_
        refine lv_iadd hx hb d_V_inspectField_115 ?_
        refine lv_eqi (nI_add _ _) ?_
        have hv : fdF (SR.mk sLen sKind sExt sMust rTab rFil rNum rLnk rLen rItm) dByt dLen (vTb (SR.mk sLen sKind sExt sMust rTab rFil rNum rLnk rLen rItm) dByt dLen K) x t f ent = (nI (((vN dByt dLen x) + 4) + (2 * f)), ent) := fdF_b c_25 (Or.inr (Or.inl c_97))
        exact k_iret hx hb hr hlocks hK hP hD hS (trivial) (by rw [hv]; first | done | rfl) (by rw [hv]; first | done | rfl) d_V_inspectField_116
      · skip
        have c_97 := mt (nI_ltI (by omega) (by omega)).mpr c_97
        refine lv_iload hx hb d_V_inspectField_100 (lv_at hl 1 rfl) ?_
        refine lv_iload hx hb d_V_inspectField_102 (lv_at hl 2 rfl) ?_
        refine lv_irem hx hb d_V_inspectField_104 (nI_ne0 (by omega) (by omega)) ?_
        refine lv_eqi (pk_rem (by omega) (by omega) (by omega)) ?_
        have hmd := Nat.mod_lt (x + ofF dByt dLen x f) (show 0 < kWd (sKind (t * 6 + f)) by omega)
        refine lv_if_eq (tgt := 117) hx hb d_V_inspectField_105 (by decide) (fun c_105 => ?_) (fun c_105 => ?_)
        · skip
          have c_105 := (z_eq (by omega)).mp c_105
          refine lv_iload hx hb d_V_inspectField_117 (lv_at hl 3 rfl) ?_
          refine lv_bipush (v := nI 6) hx hb d_V_inspectField_119 (by decide) ?_
          refine lv_icmp_ne (tgt := 153) hx hb d_V_inspectField_121 (by decide) (fun c_121 => ?_) (fun c_121 => ?_)
          · skip
            have c_121 := mt (nI_eq (by omega) (by omega)).mpr c_121
            refine lv_iload hx hb d_V_inspectField_153 (lv_at hl 3 rfl) ?_
            refine lv_iconst (v := nI 4) hx hb d_V_inspectField_155 (by decide) ?_
            refine lv_icmp_lt (tgt := 177) hx hb d_V_inspectField_156 (by decide) (fun c_156 => ?_) (fun c_156 => ?_)
            · skip
              have c_156 := (nI_ltI (by omega) (by omega)).mp c_156
              refine lv_iconst (v := -1) hx hb d_V_inspectField_177 (by decide) ?_
              refine lv_goto (tgt := 183) hx hb d_V_inspectField_178 (by decide) ?_
              have hv : fdF (SR.mk sLen sKind sExt sMust rTab rFil rNum rLnk rLen rItm) dByt dLen (vTb (SR.mk sLen sKind sExt sMust rTab rFil rNum rLnk rLen rItm) dByt dLen K) x t f ent = (-1, ent) := fdF_y c_25 c_87 c_97 c_105 c_121 (Or.inl c_156)
              exact k_iret hx hb hr hlocks hK hP hD hS (trivial) (by rw [hv]; first | done | rfl) (by rw [hv]; first | done | rfl) d_V_inspectField_183
            · skip
              have c_156 := mt (nI_ltI (by omega) (by omega)).mpr c_156
              refine lv_aload_n hx hb d_V_inspectField_159 rfl (lv_at hl 6 rfl) ?_
              refine lv_iload hx hb d_V_inspectField_160 (lv_at hl 3 rfl) ?_
              refine lv_aload_n hx hb d_V_inspectField_162 rfl (lv_at hl 6 rfl) ?_
              refine va_get (D := D) (ci := 6) (C := R_V) (T := T_V) (N := 3) hx hb hts (fun w h => kT w (i_V w h)) hown hK hP 6 rfl rfl 1 (by decide) (hts _ (kT _ wd_c65a433d)) (fun _ h9 => h9) rfl d_V_inspectField_163 ?_
              refine lv_iload hx hb d_V_inspectField_166 (lv_at hl 1 rfl) ?_
              refine k_callV (c_Data_target l D a g tw sLen sKind sExt sMust rTab rFil rNum rLnk rLen rItm made pItm held dByt dLen bByt bRea bRec bItm bFld bOff bOfp kept wrt wid ent ver fAdr fTab adr tab lf (x + (ofF dByt dLen x f))  hB hd) m_D_target wd_53a91e2f 4 4 rfl rfl rfl kT hx hb hml hown hts ⟨(by dsimp only; omega), (by dsimp only; omega)⟩ ⟨Nat.le_of_ble_eq_true rfl, Nat.le_of_ble_eq_true rfl⟩ hK hP hD hS hA hZ hl.1 rfl rfl (Nat.le_of_ble_eq_true rfl) d_V_inspectField_168 (fun H locs hP hD hS => ?_)
              have hP : va_P D vwCl (Wd a g sLen sKind sExt sMust rTab rFil rNum rLnk rLen rItm made pItm held dByt dLen bByt bRea bRec bItm bFld bOff bOfp kept wrt wid ent ver fAdr fTab adr tab lf) H := hP
              have hD : va_D A (Wd a g sLen sKind sExt sMust rTab rFil rNum rLnk rLen rItm made pItm held dByt dLen bByt bRea bRec bItm bFld bOff bOfp kept wrt wid ent ver fAdr fTab adr tab lf) := hD
              refine W.eq (g2 := F0 m 171 ls [.int (nI ((x + (ofF dByt dLen x f)) + min (leN dByt dLen (nI (x + (ofF dByt dLen x f))) 4) 100000)), .int (nI (sKind (t * 6 + f))), .ref (a 6)]) rfl ?_
              refine W.eq (g2 := F0 m 171 ls (.int (nI (tgF dByt dLen (x + ofF dByt dLen x f))) :: [.int (nI (sKind (t * 6 + f))), .ref (a 6)])) rfl ?_
              have htg : tgF dByt dLen (x + ofF dByt dLen x f) ≤ x + ofF dByt dLen x f + 100000 := Nat.add_le_add_left (Nat.min_le_right _ _) _
              refine k_callV (c_V_isSound l D a g tw sLen sKind sExt sMust rTab rFil rNum rLnk rLen rItm made pItm held dByt dLen bByt bRea bRec bItm bFld bOff bOfp kept wrt wid ent ver fAdr fTab adr tab lf (sKind (t * 6 + f)) (tgF dByt dLen (x + ofF dByt dLen x f))  hk1 (by omega) hB hd) m_V_isSound wd_8fddfa76 6 6 rfl rfl rfl kT hx hb hml hown hts ⟨(by dsimp only; omega), (by dsimp only; omega)⟩ ⟨Nat.le_of_ble_eq_true rfl, Nat.le_of_ble_eq_true rfl⟩ hK hP hD hS hA hZ hl.1 rfl rfl (Nat.le_of_ble_eq_true rfl) d_V_inspectField_171 (fun H locs hP hD hS => ?_)
              have hP : va_P D vwCl (Wd a g sLen sKind sExt sMust rTab rFil rNum rLnk rLen rItm made pItm held dByt dLen bByt bRea bRec bItm bFld bOff bOfp kept wrt wid ent ver fAdr fTab adr tab lf) H := hP
              have hD : va_D A (Wd a g sLen sKind sExt sMust rTab rFil rNum rLnk rLen rItm made pItm held dByt dLen bByt bRea bRec bItm bFld bOff bOfp kept wrt wid ent ver fAdr fTab adr tab lf) := hD
              refine W.eq (g2 := F0 m 174 ls [.int (bI (sdF dByt dLen (sKind (t * 6 + f)) (tgF dByt dLen (x + ofF dByt dLen x f))))]) rfl ?_
              refine lv_if_eq (tgt := 181) hx hb d_V_inspectField_174 (by decide) (fun c_174 => ?_) (fun c_174 => ?_)
              · skip
                have c_174 := (bI_0).mp c_174
                refine lv_iload hx hb d_V_inspectField_181 (lv_at hl 1 rfl) ?_
                have hv : fdF (SR.mk sLen sKind sExt sMust rTab rFil rNum rLnk rLen rItm) dByt dLen (vTb (SR.mk sLen sKind sExt sMust rTab rFil rNum rLnk rLen rItm) dByt dLen K) x t f ent = (nI (x + (ofF dByt dLen x f)), ent) := fdF_n c_25 c_87 c_97 c_105 c_121 c_156 c_174
                exact k_iret hx hb hr hlocks hK hP hD hS (trivial) (by rw [hv]; first | done | rfl) (by rw [hv]; first | done | rfl) d_V_inspectField_183
              · skip
                have c_174 := mt (bI_0).mpr c_174
                have c_174 := eq_true_of_ne_false c_174
                refine lv_iconst (v := -1) hx hb d_V_inspectField_177 (by decide) ?_
                refine lv_goto (tgt := 183) hx hb d_V_inspectField_178 (by decide) ?_
                have hv : fdF (SR.mk sLen sKind sExt sMust rTab rFil rNum rLnk rLen rItm) dByt dLen (vTb (SR.mk sLen sKind sExt sMust rTab rFil rNum rLnk rLen rItm) dByt dLen K) x t f ent = (-1, ent) := fdF_y c_25 c_87 c_97 c_105 c_121 (Or.inr c_174)
                exact k_iret hx hb hr hlocks hK hP hD hS (trivial) (by rw [hv]; first | done | rfl) (by rw [hv]; first | done | rfl) d_V_inspectField_183
          · skip
            have c_121 := (nI_eq (by omega) (by omega)).mp c_121
            refine lv_aload_n hx hb d_V_inspectField_124 rfl (lv_at hl 6 rfl) ?_
            refine lv_aload_n hx hb d_V_inspectField_125 rfl (lv_at hl 6 rfl) ?_
            refine va_get (D := D) (ci := 6) (C := R_V) (T := T_V) (N := 3) hx hb hts (fun w h => kT w (i_V w h)) hown hK hP 6 rfl rfl 1 (by decide) (hts _ (kT _ wd_c65a433d)) (fun _ h9 => h9) rfl d_V_inspectField_126 ?_
            refine lv_iload hx hb d_V_inspectField_129 (lv_at hl 1 rfl) ?_
            refine k_callV (c_Data_target l D a g tw sLen sKind sExt sMust rTab rFil rNum rLnk rLen rItm made pItm held dByt dLen bByt bRea bRec bItm bFld bOff bOfp kept wrt wid ent ver fAdr fTab adr tab lf (x + (ofF dByt dLen x f))  hB hd) m_D_target wd_53a91e2f 4 4 rfl rfl rfl kT hx hb hml hown hts ⟨(by dsimp only; omega), (by dsimp only; omega)⟩ ⟨Nat.le_of_ble_eq_true rfl, Nat.le_of_ble_eq_true rfl⟩ hK hP hD hS hA hZ hl.1 rfl rfl (Nat.le_of_ble_eq_true rfl) d_V_inspectField_131 (fun H locs hP hD hS => ?_)
            have hP : va_P D vwCl (Wd a g sLen sKind sExt sMust rTab rFil rNum rLnk rLen rItm made pItm held dByt dLen bByt bRea bRec bItm bFld bOff bOfp kept wrt wid ent ver fAdr fTab adr tab lf) H := hP
            have hD : va_D A (Wd a g sLen sKind sExt sMust rTab rFil rNum rLnk rLen rItm made pItm held dByt dLen bByt bRea bRec bItm bFld bOff bOfp kept wrt wid ent ver fAdr fTab adr tab lf) := hD
            refine W.eq (g2 := F0 m 134 ls [.int (nI ((x + (ofF dByt dLen x f)) + min (leN dByt dLen (nI (x + (ofF dByt dLen x f))) 4) 100000)), .ref (a 6)]) rfl ?_
            refine W.eq (g2 := F0 m 134 ls (.int (nI (tgF dByt dLen (x + ofF dByt dLen x f))) :: [.ref (a 6)])) rfl ?_
            have htg : tgF dByt dLen (x + ofF dByt dLen x f) ≤ x + ofF dByt dLen x f + 100000 := Nat.add_le_add_left (Nat.min_le_right _ _) _
            refine lv_aload_n hx hb d_V_inspectField_134 rfl (lv_at hl 6 rfl) ?_
            refine va_get (D := D) (ci := 6) (C := R_V) (T := T_V) (N := 3) hx hb hts (fun w h => kT w (i_V w h)) hown hK hP 6 rfl rfl 0 (by decide) (hts _ (kT _ wd_8aacbd0a)) (fun _ h9 => h9) rfl d_V_inspectField_135 ?_
            refine lv_iload_n hx hb d_V_inspectField_138 rfl (lv_at hl 8 rfl) ?_
            refine lv_iload_n hx hb d_V_inspectField_139 rfl (lv_at hl 9 rfl) ?_
            refine k_callV (c_Schema_extraOf l D a g tw sLen sKind sExt sMust rTab rFil rNum rLnk rLen rItm made pItm held dByt dLen bByt bRea bRec bItm bFld bOff bOfp kept wrt wid ent ver fAdr fTab adr tab lf t f  (by omega) (by omega)) m_S_extraOf wd_c7ae5892 1 1 rfl rfl rfl kT hx hb hml hown hts ⟨(by dsimp only; omega), (by dsimp only; omega)⟩ ⟨Nat.le_of_ble_eq_true rfl, Nat.le_of_ble_eq_true rfl⟩ hK hP hD hS hA hZ hl.1 rfl rfl (Nat.le_of_ble_eq_true rfl) d_V_inspectField_140 (fun H locs hP hD hS => ?_)
            have hP : va_P D vwCl (Wd a g sLen sKind sExt sMust rTab rFil rNum rLnk rLen rItm made pItm held dByt dLen bByt bRea bRec bItm bFld bOff bOfp kept wrt wid ent ver fAdr fTab adr tab lf) H := hP
            have hD : va_D A (Wd a g sLen sKind sExt sMust rTab rFil rNum rLnk rLen rItm made pItm held dByt dLen bByt bRea bRec bItm bFld bOff bOfp kept wrt wid ent ver fAdr fTab adr tab lf) := hD
            refine W.eq (g2 := F0 m 143 ls [.int (sExt (t * 6 + f)), .int (nI (tgF dByt dLen (x + ofF dByt dLen x f))), .ref (a 6)]) rfl ?_
            obtain ⟨n_e, b_e⟩ := okT_spec (hX (t * 6 + f) c_121)
            refine lv_eqi n_e ?_
            refine lv_iload hx hb d_V_inspectField_143 (lv_at hl 1 rfl) ?_
            refine lv_iload hx hb d_V_inspectField_145 (lv_at hl 10 rfl) ?_
            refine lv_iconst (v := nI 1) hx hb d_V_inspectField_147 (by decide) ?_
            refine lv_iadd hx hb d_V_inspectField_148 ?_
            refine lv_eqi (nI_add _ _) ?_
            refine k_callV (ihT l D a g tw sLen sKind sExt sMust rTab rFil rNum rLnk rLen rItm made pItm held dByt dLen bByt bRea bRec bItm bFld bOff bOfp kept wrt wid ent ver fAdr fTab adr tab lf (tgF dByt dLen (x + ofF dByt dLen x f)) (cN (sExt (t * 6 + f))) (x + (ofF dByt dLen x f)) (dp + 1)  (by omega) (by omega) b_e hen hq hX hB hd) m_V_inspectTable wd_3cc52be1 6 6 rfl rfl rfl kT hx hb hml hown hts ⟨(by dsimp only; omega), (by dsimp only; omega)⟩ ⟨Nat.le_of_ble_eq_true rfl, Nat.le_of_ble_eq_true rfl⟩ hK hP hD hS hA hZ hl.1 rfl rfl (Nat.le_of_ble_eq_true rfl) d_V_inspectField_149 (fun H locs hP hD hS => ?_)
            have hP : va_P D vwCl (Wd a g sLen sKind sExt sMust rTab rFil rNum rLnk rLen rItm made pItm held dByt dLen bByt bRea bRec bItm bFld bOff bOfp kept wrt wid ((vTb (SR.mk sLen sKind sExt sMust rTab rFil rNum rLnk rLen rItm) dByt dLen K (tgF dByt dLen (x + ofF dByt dLen x f)) (cN (sExt (t * 6 + f))) (x + (ofF dByt dLen x f)) ent).2) ver fAdr fTab adr tab lf) H := hP
            have hD : va_D A (Wd a g sLen sKind sExt sMust rTab rFil rNum rLnk rLen rItm made pItm held dByt dLen bByt bRea bRec bItm bFld bOff bOfp kept wrt wid ((vTb (SR.mk sLen sKind sExt sMust rTab rFil rNum rLnk rLen rItm) dByt dLen K (tgF dByt dLen (x + ofF dByt dLen x f)) (cN (sExt (t * 6 + f))) (x + (ofF dByt dLen x f)) ent).2) ver fAdr fTab adr tab lf) := hD
            refine W.eq (g2 := F0 m 152 ls [.int ((vTb (SR.mk sLen sKind sExt sMust rTab rFil rNum rLnk rLen rItm) dByt dLen K (tgF dByt dLen (x + ofF dByt dLen x f)) (cN (sExt (t * 6 + f))) (x + (ofF dByt dLen x f)) ent).1)]) rfl ?_
            have hv : fdF (SR.mk sLen sKind sExt sMust rTab rFil rNum rLnk rLen rItm) dByt dLen (vTb (SR.mk sLen sKind sExt sMust rTab rFil rNum rLnk rLen rItm) dByt dLen K) x t f ent = vTb (SR.mk sLen sKind sExt sMust rTab rFil rNum rLnk rLen rItm) dByt dLen K (tgF dByt dLen (x + ofF dByt dLen x f)) (cN (sExt (t * 6 + f))) (x + ofF dByt dLen x f) ent := fdF_6 c_25 c_87 c_97 c_105 c_121
            exact k_iret hx hb hr hlocks hK hP hD hS (trivial) (by rw [hv]; first | done | rfl) (by rw [hv]; first | done | rfl) d_V_inspectField_152
        · skip
          have c_105 := mt (z_eq (by omega)).mpr c_105
          refine lv_iload hx hb d_V_inspectField_108 (lv_at hl 5 rfl) ?_
          refine lv_iconst (v := nI 4) hx hb d_V_inspectField_110 (by decide) ?_
          refine lv_iadd hx hb d_V_inspectField_111 ?_
          refine lv_eqi (nI_add _ _) ?_
          refine lv_iconst (v := nI 2) hx hb d_V_inspectField_112 (by decide) ?_
          refine lv_iload_n hx hb d_V_inspectField_113 rfl (lv_at hl 9 rfl) ?_
          refine lv_imul hx hb d_V_inspectField_114 ?_
          refine lv_eqi (pk_mul _ _) ?_
          refine lv_iadd hx hb d_V_inspectField_115 ?_
          refine lv_eqi (nI_add _ _) ?_
          have hv : fdF (SR.mk sLen sKind sExt sMust rTab rFil rNum rLnk rLen rItm) dByt dLen (vTb (SR.mk sLen sKind sExt sMust rTab rFil rNum rLnk rLen rItm) dByt dLen K) x t f ent = (nI (((vN dByt dLen x) + 4) + (2 * f)), ent) := fdF_b c_25 (Or.inr (Or.inr c_105))
          exact k_iret hx hb hr hlocks hK hP hD hS (trivial) (by rw [hv]; first | done | rfl) (by rw [hv]; first | done | rfl) d_V_inspectField_116
  · skip
    have c_25 := (z_eq (by omega)).mp c_25
    refine lv_aload_n hx hb d_V_inspectField_28 rfl (lv_at hl 2 rfl) ?_
    refine va_get (D := D) (ci := 6) (C := R_V) (T := T_V) (N := 3) hx hb hts (fun w h => kT w (i_V w h)) hown hK hP 6 rfl rfl 0 (by decide) (hts _ (kT _ wd_8aacbd0a)) (fun _ h9 => h9) rfl d_V_inspectField_29 ?_
    refine lv_iload_n hx hb d_V_inspectField_32 rfl (lv_at hl 4 rfl) ?_
    refine lv_iload_n hx hb d_V_inspectField_33 rfl (lv_at hl 5 rfl) ?_
    refine k_callV (c_Schema_requires l D a g tw sLen sKind sExt sMust rTab rFil rNum rLnk rLen rItm made pItm held dByt dLen bByt bRea bRec bItm bFld bOff bOfp kept wrt wid ent ver fAdr fTab adr tab lf t f  (by omega) (by omega)) m_S_requires wd_03ecc805 1 1 rfl rfl rfl kT hx hb hml hown hts ⟨(by dsimp only; omega), (by dsimp only; omega)⟩ ⟨Nat.le_of_ble_eq_true rfl, Nat.le_of_ble_eq_true rfl⟩ hK hP hD hS hA hZ hl.1 rfl rfl (Nat.le_of_ble_eq_true rfl) d_V_inspectField_34 (fun H locs hP hD hS => ?_)
    have hP : va_P D vwCl (Wd a g sLen sKind sExt sMust rTab rFil rNum rLnk rLen rItm made pItm held dByt dLen bByt bRea bRec bItm bFld bOff bOfp kept wrt wid ent ver fAdr fTab adr tab lf) H := hP
    have hD : va_D A (Wd a g sLen sKind sExt sMust rTab rFil rNum rLnk rLen rItm made pItm held dByt dLen bByt bRea bRec bItm bFld bOff bOfp kept wrt wid ent ver fAdr fTab adr tab lf) := hD
    refine W.eq (g2 := F0 m 37 ls [.int (bI (sMust (t * 6 + f)))]) rfl ?_
    refine lv_if_eq (tgt := 44) hx hb d_V_inspectField_37 (by decide) (fun c_37 => ?_) (fun c_37 => ?_)
    · skip
      have c_37 := (bI_0).mp c_37
      refine lv_iconst (v := -1) hx hb d_V_inspectField_44 (by decide) ?_
      have hv : fdF (SR.mk sLen sKind sExt sMust rTab rFil rNum rLnk rLen rItm) dByt dLen (vTb (SR.mk sLen sKind sExt sMust rTab rFil rNum rLnk rLen rItm) dByt dLen K) x t f ent = (-1, ent) := by rw [fdF_0 c_25]; exact congrArg (fun z => (z, ent)) (if_neg (by rw [show (SR.mk sLen sKind sExt sMust rTab rFil rNum rLnk rLen rItm).sMust (t * 6 + f) = false from c_37]; simp))
      exact k_iret hx hb hr hlocks hK hP hD hS (trivial) (by rw [hv]; first | done | rfl) (by rw [hv]; first | done | rfl) d_V_inspectField_45
    · skip
      have c_37 := mt (bI_0).mpr c_37
      have c_37 := eq_true_of_ne_false c_37
      refine lv_iload_n hx hb d_V_inspectField_40 rfl (lv_at hl 3 rfl) ?_
      refine lv_goto (tgt := 45) hx hb d_V_inspectField_41 (by decide) ?_
      have hv : fdF (SR.mk sLen sKind sExt sMust rTab rFil rNum rLnk rLen rItm) dByt dLen (vTb (SR.mk sLen sKind sExt sMust rTab rFil rNum rLnk rLen rItm) dByt dLen K) x t f ent = (nI x, ent) := by rw [fdF_0 c_25]; exact congrArg (fun z => (z, ent)) (if_pos c_37)
      exact k_iret hx hb hr hlocks hK hP hD hS (trivial) (by rw [hv]; first | done | rfl) (by rw [hv]; first | done | rfl) d_V_inspectField_45
set_option maxHeartbeats 4000000 in
set_option maxRecDepth 100000 in
theorem c_V_inspectTable0 (l : Launch) (D : va_G) (a : Nat → Nat) (g : Nat → ClassId) (tw : Nat) (sLen sKind : Nat → Nat) (sExt : Nat → Int32) (sMust : Nat → Bool) (rTab : Nat → Nat) (rFil : Nat → Bool) (rNum : Nat → Int64) (rLnk rLen : Nat → Nat) (rItm : Nat → Int32) (made : Nat) (pItm : Nat → Int32) (held : Nat) (dByt : Nat → Nat) (dLen : Nat) (bByt : Nat → Nat) (bRea : Nat → Bool) (bRec bItm bFld bOff bOfp : Nat → Nat) (kept wrt wid ent : Nat) (ver : Bool) (fAdr fTab adr tab : Nat) (lf : Int32) (x : Nat) (t : Nat) (to : Nat) (dp : Nat)  (hK0 : dp + 0 = 7) (hx0 : x < 300000) (ht : t < 4) (hen : ent ≤ 16) (hq : SOK (SR.mk sLen sKind sExt sMust rTab rFil rNum rLnk rLen rItm)) (hX : ∀ j, sKind j = 6 → okT (sExt j) = true) (hB : ∀ k, dByt k < 256) (hd : dLen ≤ 240) : kM l y_V_inspectTable b_V_inspectTable 9 (some .int) ({ frames := 20 + 2 * 0, cells := 0, slots := 0, locals := 200 + 80 * 0 }) D vwCl (WdT g) tw [.ref (a 6), .int (nI x), .int (nI t), .int (nI to), .int (nI dp)] (Wd a g sLen sKind sExt sMust rTab rFil rNum rLnk rLen rItm made pItm held dByt dLen bByt bRea bRec bItm bFld bOff bOfp kept wrt wid ent ver fAdr fTab adr tab lf) (some (.int ((vTb (SR.mk sLen sKind sExt sMust rTab rFil rNum rLnk rLen rItm) dByt dLen 0 x t to ent).1))) (Wd a g sLen sKind sExt sMust rTab rFil rNum rLnk rLen rItm made pItm held dByt dLen bByt bRea bRec bItm bFld bOff bOfp kept wrt wid ((vTb (SR.mk sLen sKind sExt sMust rTab rFil rNum rLnk rLen rItm) dByt dLen 0 x t to ent).2) ver fAdr fTab adr tab lf) := by
  refine k_of (by decide) (Nat.le_of_ble_eq_true rfl) ?_
  intro p e s m below meth c A ls hx hb hr hlocks hml hts hown hin0 hA hP hK hD hS hZ hl
  have hl : lv_has ls 9 [(0, .ref (a 6)), (1, .int (nI x)), (2, .int (nI t)), (3, .int (nI to)), (4, .int (nI dp))] := hl
  refine lv_iload_n hx hb d_V_inspectTable_0 rfl (lv_at hl 1 rfl) ?_
  refine lv_iconst (v := nI 4) hx hb d_V_inspectTable_1 (by decide) ?_
  refine lv_irem hx hb d_V_inspectTable_2 (nI_ne0 (by omega) (by omega)) ?_
  refine lv_eqi (pk_rem (by omega) (by omega) (by omega)) ?_
  refine lv_if_ne (tgt := 19) hx hb d_V_inspectTable_3 (by decide) (fun c_3 => ?_) (fun c_3 => ?_)
  · skip
    have c_3 := mt (z_eq (by omega)).mpr c_3
    refine lv_iload_n hx hb d_V_inspectTable_19 rfl (lv_at hl 3 rfl) ?_
    exact k_iret hx hb hr hlocks hK hP hD hS (trivial) (rfl) (rfl) d_V_inspectTable_20
  · skip
    have c_3 := (z_eq (by omega)).mp c_3
    refine lv_iload_n hx hb d_V_inspectTable_6 rfl (lv_at hl 1 rfl) ?_
    refine lv_iconst (v := nI 4) hx hb d_V_inspectTable_7 (by decide) ?_
    refine lv_iadd hx hb d_V_inspectTable_8 ?_
    refine lv_eqi (nI_add _ _) ?_
    refine lv_aload_n hx hb d_V_inspectTable_9 rfl (lv_at hl 0 rfl) ?_
    refine va_get (D := D) (ci := 6) (C := R_V) (T := T_V) (N := 3) hx hb hts (fun w h => kT w (i_V w h)) hown hK hP 6 rfl rfl 1 (by decide) (hts _ (kT _ wd_c65a433d)) (fun _ h9 => h9) rfl d_V_inspectTable_10 ?_
    refine va_getN (D := D) (ci := 4) (C := R_D) (T := T_D) (N := 2) hx hb hts (fun w h => kT w (i_D w h)) hown hK hP 4 rfl rfl 1 (by decide) (va_Nw.use rfl (hZ.2.2.1 _ wn_8cec2538)) (fun _ h9 => h9) rfl d_V_inspectTable_13 ?_
    refine lv_icmp_le (tgt := 21) hx hb d_V_inspectTable_16 (by decide) (fun c_16 => ?_) (fun c_16 => ?_)
    · skip
      have c_16 := (nI_leI (by omega) (by omega)).mp c_16
      refine lv_aload_n hx hb d_V_inspectTable_21 rfl (lv_at hl 0 rfl) ?_
      refine va_get (D := D) (ci := 6) (C := R_V) (T := T_V) (N := 3) hx hb hts (fun w h => kT w (i_V w h)) hown hK hP 6 rfl rfl 2 (by decide) (hts _ (kT _ wd_85aebf36)) (fun _ h9 => h9) rfl d_V_inspectTable_22 ?_
      refine lv_bipush (v := nI 16) hx hb d_V_inspectTable_25 (by decide) ?_
      refine lv_icmp_ge (tgt := 37) hx hb d_V_inspectTable_27 (by decide) (fun c_27 => ?_) (fun c_27 => ?_)
      · skip
        have c_27 := (nI_leI (by omega) (by omega)).mp c_27
        refine lv_iload_n hx hb d_V_inspectTable_37 rfl (lv_at hl 3 rfl) ?_
        exact k_iret hx hb hr hlocks hK hP hD hS (trivial) (rfl) (rfl) d_V_inspectTable_38
      · skip
        have c_27 := mt (nI_leI (by omega) (by omega)).mpr c_27
        refine lv_iload hx hb d_V_inspectTable_30 (lv_at hl 4 rfl) ?_
        refine lv_bipush (v := nI 6) hx hb d_V_inspectTable_32 (by decide) ?_
        refine lv_icmp_le (tgt := 39) hx hb d_V_inspectTable_34 (by decide) (fun c_34 => ?_) (fun c_34 => ?_)
        · skip
          have c_34 := (nI_leI (by omega) (by omega)).mp c_34
          exact absurd c_34 (by omega)
        · skip
          have c_34 := mt (nI_leI (by omega) (by omega)).mpr c_34
          refine lv_iload_n hx hb d_V_inspectTable_37 rfl (lv_at hl 3 rfl) ?_
          exact k_iret hx hb hr hlocks hK hP hD hS (trivial) (rfl) (rfl) d_V_inspectTable_38
    · skip
      have c_16 := mt (nI_leI (by omega) (by omega)).mpr c_16
      refine lv_iload_n hx hb d_V_inspectTable_19 rfl (lv_at hl 3 rfl) ?_
      exact k_iret hx hb hr hlocks hK hP hD hS (trivial) (rfl) (rfl) d_V_inspectTable_20
set_option maxHeartbeats 4000000 in
set_option maxRecDepth 100000 in
theorem c_V_inspectTable (l : Launch) (D : va_G) (a : Nat → Nat) (g : Nat → ClassId) (tw : Nat) (sLen sKind : Nat → Nat) (sExt : Nat → Int32) (sMust : Nat → Bool) (rTab : Nat → Nat) (rFil : Nat → Bool) (rNum : Nat → Int64) (rLnk rLen : Nat → Nat) (rItm : Nat → Int32) (made : Nat) (pItm : Nat → Int32) (held : Nat) (dByt : Nat → Nat) (dLen : Nat) (bByt : Nat → Nat) (bRea : Nat → Bool) (bRec bItm bFld bOff bOfp : Nat → Nat) (kept wrt wid ent : Nat) (ver : Bool) (fAdr fTab adr tab : Nat) (lf : Int32) (x : Nat) (t : Nat) (to : Nat) (dp : Nat) (K : Nat) (ihT : ∀ (l : Launch) (D : va_G) (a : Nat → Nat) (g : Nat → ClassId) (tw : Nat) (sLen sKind : Nat → Nat) (sExt : Nat → Int32) (sMust : Nat → Bool) (rTab : Nat → Nat) (rFil : Nat → Bool) (rNum : Nat → Int64) (rLnk rLen : Nat → Nat) (rItm : Nat → Int32) (made : Nat) (pItm : Nat → Int32) (held : Nat) (dByt : Nat → Nat) (dLen : Nat) (bByt : Nat → Nat) (bRea : Nat → Bool) (bRec bItm bFld bOff bOfp : Nat → Nat) (kept wrt wid ent : Nat) (ver : Bool) (fAdr fTab adr tab : Nat) (lf : Int32) (x : Nat) (t : Nat) (to : Nat) (dp : Nat) (hK0 : dp + K = 7) (hx0 : x < 300000) (ht : t < 4) (hen : ent ≤ 16) (hq : SOK (SR.mk sLen sKind sExt sMust rTab rFil rNum rLnk rLen rItm)) (hX : ∀ j, sKind j = 6 → okT (sExt j) = true) (hB : ∀ k, dByt k < 256) (hd : dLen ≤ 240), kM l y_V_inspectTable b_V_inspectTable 9 (some .int) ({ frames := 20 + 2 * K, cells := 0, slots := 0, locals := 200 + 80 * K }) D vwCl (WdT g) tw [.ref (a 6), .int (nI x), .int (nI t), .int (nI to), .int (nI dp)] (Wd a g sLen sKind sExt sMust rTab rFil rNum rLnk rLen rItm made pItm held dByt dLen bByt bRea bRec bItm bFld bOff bOfp kept wrt wid ent ver fAdr fTab adr tab lf) (some (.int ((vTb (SR.mk sLen sKind sExt sMust rTab rFil rNum rLnk rLen rItm) dByt dLen K x t to ent).1))) (Wd a g sLen sKind sExt sMust rTab rFil rNum rLnk rLen rItm made pItm held dByt dLen bByt bRea bRec bItm bFld bOff bOfp kept wrt wid ((vTb (SR.mk sLen sKind sExt sMust rTab rFil rNum rLnk rLen rItm) dByt dLen K x t to ent).2) ver fAdr fTab adr tab lf)) (hK0 : dp + (K + 1) = 7) (hx0 : x < 300000) (ht : t < 4) (hen : ent ≤ 16) (hq : SOK (SR.mk sLen sKind sExt sMust rTab rFil rNum rLnk rLen rItm)) (hX : ∀ j, sKind j = 6 → okT (sExt j) = true) (hB : ∀ k, dByt k < 256) (hd : dLen ≤ 240) : kM l y_V_inspectTable b_V_inspectTable 9 (some .int) ({ frames := 20 + 2 * (K + 1), cells := 0, slots := 0, locals := 200 + 80 * (K + 1) }) D vwCl (WdT g) tw [.ref (a 6), .int (nI x), .int (nI t), .int (nI to), .int (nI dp)] (Wd a g sLen sKind sExt sMust rTab rFil rNum rLnk rLen rItm made pItm held dByt dLen bByt bRea bRec bItm bFld bOff bOfp kept wrt wid ent ver fAdr fTab adr tab lf) (some (.int ((vTb (SR.mk sLen sKind sExt sMust rTab rFil rNum rLnk rLen rItm) dByt dLen (K + 1) x t to ent).1))) (Wd a g sLen sKind sExt sMust rTab rFil rNum rLnk rLen rItm made pItm held dByt dLen bByt bRea bRec bItm bFld bOff bOfp kept wrt wid ((vTb (SR.mk sLen sKind sExt sMust rTab rFil rNum rLnk rLen rItm) dByt dLen (K + 1) x t to ent).2) ver fAdr fTab adr tab lf) := by
  refine k_of (by decide) (Nat.le_of_ble_eq_true rfl) ?_
  intro p e s m below meth c A ls hx hb hr hlocks hml hts hown hin0 hA hP hK hD hS hZ hl
  have hl : lv_has ls 9 [(0, .ref (a 6)), (1, .int (nI x)), (2, .int (nI t)), (3, .int (nI to)), (4, .int (nI dp))] := hl
  have hL1 : sLen t ≤ 6 := hq.hL t
  refine lv_iload_n hx hb d_V_inspectTable_0 rfl (lv_at hl 1 rfl) ?_
  refine lv_iconst (v := nI 4) hx hb d_V_inspectTable_1 (by decide) ?_
  refine lv_irem hx hb d_V_inspectTable_2 (nI_ne0 (by omega) (by omega)) ?_
  refine lv_eqi (pk_rem (by omega) (by omega) (by omega)) ?_
  refine lv_if_ne (tgt := 19) hx hb d_V_inspectTable_3 (by decide) (fun c_3 => ?_) (fun c_3 => ?_)
  · skip
    have c_3 := mt (z_eq (by omega)).mpr c_3
    have hv : vTb (SR.mk sLen sKind sExt sMust rTab rFil rNum rLnk rLen rItm) dByt dLen (K + 1) x t to ent = (nI to, ent) := by show (if _ then _ else _ : Int32 × Nat) = _; rw [if_pos (by omega)]
    refine lv_iload_n hx hb d_V_inspectTable_19 rfl (lv_at hl 3 rfl) ?_
    exact k_iret hx hb hr hlocks hK hP hD hS (trivial) (by rw [hv]; first | done | rfl) (by rw [hv]; first | done | rfl) d_V_inspectTable_20
  · skip
    have c_3 := (z_eq (by omega)).mp c_3
    refine lv_iload_n hx hb d_V_inspectTable_6 rfl (lv_at hl 1 rfl) ?_
    refine lv_iconst (v := nI 4) hx hb d_V_inspectTable_7 (by decide) ?_
    refine lv_iadd hx hb d_V_inspectTable_8 ?_
    refine lv_eqi (nI_add _ _) ?_
    refine lv_aload_n hx hb d_V_inspectTable_9 rfl (lv_at hl 0 rfl) ?_
    refine va_get (D := D) (ci := 6) (C := R_V) (T := T_V) (N := 3) hx hb hts (fun w h => kT w (i_V w h)) hown hK hP 6 rfl rfl 1 (by decide) (hts _ (kT _ wd_c65a433d)) (fun _ h9 => h9) rfl d_V_inspectTable_10 ?_
    refine va_getN (D := D) (ci := 4) (C := R_D) (T := T_D) (N := 2) hx hb hts (fun w h => kT w (i_D w h)) hown hK hP 4 rfl rfl 1 (by decide) (va_Nw.use rfl (hZ.2.2.1 _ wn_8cec2538)) (fun _ h9 => h9) rfl d_V_inspectTable_13 ?_
    refine lv_icmp_le (tgt := 21) hx hb d_V_inspectTable_16 (by decide) (fun c_16 => ?_) (fun c_16 => ?_)
    · skip
      have c_16 := (nI_leI (by omega) (by omega)).mp c_16
      refine lv_aload_n hx hb d_V_inspectTable_21 rfl (lv_at hl 0 rfl) ?_
      refine va_get (D := D) (ci := 6) (C := R_V) (T := T_V) (N := 3) hx hb hts (fun w h => kT w (i_V w h)) hown hK hP 6 rfl rfl 2 (by decide) (hts _ (kT _ wd_85aebf36)) (fun _ h9 => h9) rfl d_V_inspectTable_22 ?_
      refine lv_bipush (v := nI 16) hx hb d_V_inspectTable_25 (by decide) ?_
      refine lv_icmp_ge (tgt := 37) hx hb d_V_inspectTable_27 (by decide) (fun c_27 => ?_) (fun c_27 => ?_)
      · skip
        have c_27 := (nI_leI (by omega) (by omega)).mp c_27
        have hv : vTb (SR.mk sLen sKind sExt sMust rTab rFil rNum rLnk rLen rItm) dByt dLen (K + 1) x t to ent = (nI to, ent) := by show (if _ then _ else _ : Int32 × Nat) = _; rw [if_pos (by omega)]
        refine lv_iload_n hx hb d_V_inspectTable_37 rfl (lv_at hl 3 rfl) ?_
        exact k_iret hx hb hr hlocks hK hP hD hS (trivial) (by rw [hv]; first | done | rfl) (by rw [hv]; first | done | rfl) d_V_inspectTable_38
      · skip
        have c_27 := mt (nI_leI (by omega) (by omega)).mpr c_27
        refine lv_iload hx hb d_V_inspectTable_30 (lv_at hl 4 rfl) ?_
        refine lv_bipush (v := nI 6) hx hb d_V_inspectTable_32 (by decide) ?_
        refine lv_icmp_le (tgt := 39) hx hb d_V_inspectTable_34 (by decide) (fun c_34 => ?_) (fun c_34 => ?_)
        · skip
          have c_34 := (nI_leI (by omega) (by omega)).mp c_34
          refine lv_aload_n hx hb d_V_inspectTable_39 rfl (lv_at hl 0 rfl) ?_
          refine lv_dup hx hb d_V_inspectTable_40 rfl ?_
          refine va_get (D := D) (ci := 6) (C := R_V) (T := T_V) (N := 3) hx hb hts (fun w h => kT w (i_V w h)) hown hK hP 6 rfl rfl 2 (by decide) (hts _ (kT _ wd_85aebf36)) (fun _ h9 => h9) rfl d_V_inspectTable_41 ?_
          refine lv_iconst (v := nI 1) hx hb d_V_inspectTable_44 (by decide) ?_
          refine lv_iadd hx hb d_V_inspectTable_45 ?_
          refine lv_eqi (nI_add _ _) ?_
          refine va_put (D := D) (ci := 6) (ty := .int) (C := R_V) (T := T_V) (N := 3) hx hb hts (fun w h => kT w (i_V w h)) ty_V tyk_V nm_V hown hK hP hD hS 6 rfl rfl 2 (by decide) (hts _ (kT _ wd_85aebf36)) (fun _ h9 => h9) rfl (by decide +kernel) rfl rfl (Nat.le_of_ble_eq_true rfl) d_V_inspectTable_46 (fun H locs hP hD hS => ?_)
          have hP : va_P D vwCl (Wd a g sLen sKind sExt sMust rTab rFil rNum rLnk rLen rItm made pItm held dByt dLen bByt bRea bRec bItm bFld bOff bOfp kept wrt wid (ent + 1) ver fAdr fTab adr tab lf) H := hP
          have hD : va_D A (Wd a g sLen sKind sExt sMust rTab rFil rNum rLnk rLen rItm made pItm held dByt dLen bByt bRea bRec bItm bFld bOff bOfp kept wrt wid (ent + 1) ver fAdr fTab adr tab lf) := hD
          refine lv_aload_n hx hb d_V_inspectTable_49 rfl (lv_at hl 0 rfl) ?_
          refine va_get (D := D) (ci := 6) (C := R_V) (T := T_V) (N := 3) hx hb hts (fun w h => kT w (i_V w h)) hown hK hP 6 rfl rfl 1 (by decide) (hts _ (kT _ wd_c65a433d)) (fun _ h9 => h9) rfl d_V_inspectTable_50 ?_
          refine lv_iload_n hx hb d_V_inspectTable_53 rfl (lv_at hl 1 rfl) ?_
          refine k_callV (c_Data_offsetsOf l D a g tw sLen sKind sExt sMust rTab rFil rNum rLnk rLen rItm made pItm held dByt dLen bByt bRea bRec bItm bFld bOff bOfp kept wrt wid (ent + 1) ver fAdr fTab adr tab lf x  hB hd) m_D_offsetsOf wd_57a775bc 4 4 rfl rfl rfl kT hx hb hml hown hts ⟨(by dsimp only; omega), (by dsimp only; omega)⟩ ⟨Nat.le_of_ble_eq_true rfl, Nat.le_of_ble_eq_true rfl⟩ hK hP hD hS hA hZ hl.1 rfl rfl (Nat.le_of_ble_eq_true rfl) d_V_inspectTable_54 (fun H locs hP hD hS => ?_)
          have hP : va_P D vwCl (Wd a g sLen sKind sExt sMust rTab rFil rNum rLnk rLen rItm made pItm held dByt dLen bByt bRea bRec bItm bFld bOff bOfp kept wrt wid (ent + 1) ver fAdr fTab adr tab lf) H := hP
          have hD : va_D A (Wd a g sLen sKind sExt sMust rTab rFil rNum rLnk rLen rItm made pItm held dByt dLen bByt bRea bRec bItm bFld bOff bOfp kept wrt wid (ent + 1) ver fAdr fTab adr tab lf) := hD
          refine W.eq (g2 := F0 m 57 ls [.long ((nI x).toInt64 - sxL 4 (leN dByt dLen (nI x) 4))]) rfl ?_
          refine lv_lstore (lv' := [(5, .long ((nI x).toInt64 - sxL 4 (leN dByt dLen (nI x) 4))), (0, .ref (a 6)), (1, .int (nI x)), (2, .int (nI t)), (3, .int (nI to)), (4, .int (nI dp))]) hx hb d_V_inspectTable_57 hl (by decide) rfl (fun ls hl => ?_)
          refine lv_lload hx hb d_V_inspectTable_59 (lv_at hl 0 rfl) ?_
          refine lv_lconst (v := 0) hx hb d_V_inspectTable_61 (by decide) ?_
          refine W.lcmp hx hb d_V_inspectTable_62 ?_
          refine lv_if_lt (tgt := 95) hx hb d_V_inspectTable_63 (by decide) (fun c_63 => ?_) (fun c_63 => ?_)
          · skip
            have c_63 := (lg_cmp_lt _ _).mp c_63
            have hv : vTb (SR.mk sLen sKind sExt sMust rTab rFil rNum rLnk rLen rItm) dByt dLen (K + 1) x t to ent = (nI x, ent + 1) := by show (if _ then _ else _ : Int32 × Nat) = _; rw [if_neg (by omega), if_pos (show bdV dByt dLen x = true from decide_eq_true (Or.inl c_63))]
            refine lv_iload_n hx hb d_V_inspectTable_95 rfl (lv_at hl 2 rfl) ?_
            exact k_iret hx hb hr hlocks hK hP hD hS (trivial) (by rw [hv]; first | done | rfl) (by rw [hv]; first | done | rfl) d_V_inspectTable_96
          · skip
            have c_63 := mt (lg_cmp_lt _ _).mpr c_63
            refine lv_lload hx hb d_V_inspectTable_66 (lv_at hl 0 rfl) ?_
            refine lv_ldc2 (v := 2) hx hb hown (hts _ (kT _ wd_864dc8ae)) d_V_inspectTable_68 ?_
            refine lv_lrem hx hb d_V_inspectTable_71 (by decide) ?_
            refine lv_lconst (v := 0) hx hb d_V_inspectTable_72 (by decide) ?_
            refine W.lcmp hx hb d_V_inspectTable_73 ?_
            refine lv_if_ne (tgt := 95) hx hb d_V_inspectTable_74 (by decide) (fun c_74 => ?_) (fun c_74 => ?_)
            · skip
              have c_74 := mt (lg_cmp_eq _ _).mpr c_74
              have hv : vTb (SR.mk sLen sKind sExt sMust rTab rFil rNum rLnk rLen rItm) dByt dLen (K + 1) x t to ent = (nI x, ent + 1) := by show (if _ then _ else _ : Int32 × Nat) = _; rw [if_neg (by omega), if_pos (show bdV dByt dLen x = true from decide_eq_true (Or.inr (Or.inl c_74)))]
              refine lv_iload_n hx hb d_V_inspectTable_95 rfl (lv_at hl 2 rfl) ?_
              exact k_iret hx hb hr hlocks hK hP hD hS (trivial) (by rw [hv]; first | done | rfl) (by rw [hv]; first | done | rfl) d_V_inspectTable_96
            · skip
              have c_74 := (lg_cmp_eq _ _).mp c_74
              refine lv_lload hx hb d_V_inspectTable_77 (lv_at hl 0 rfl) ?_
              refine lv_ldc2 (v := 4) hx hb hown (hts _ (kT _ wd_a28175a1)) d_V_inspectTable_79 ?_
              refine lv_ladd hx hb d_V_inspectTable_82 ?_
              refine lv_aload_n hx hb d_V_inspectTable_83 rfl (lv_at hl 1 rfl) ?_
              refine va_get (D := D) (ci := 6) (C := R_V) (T := T_V) (N := 3) hx hb hts (fun w h => kT w (i_V w h)) hown hK hP 6 rfl rfl 1 (by decide) (hts _ (kT _ wd_c65a433d)) (fun _ h9 => h9) rfl d_V_inspectTable_84 ?_
              refine va_getN (D := D) (ci := 4) (C := R_D) (T := T_D) (N := 2) hx hb hts (fun w h => kT w (i_D w h)) hown hK hP 4 rfl rfl 1 (by decide) (va_Nw.use rfl (hZ.2.2.1 _ wn_8cec2538)) (fun _ h9 => h9) rfl d_V_inspectTable_87 ?_
              refine lv_i2l hx hb d_V_inspectTable_90 rfl ?_
              refine W.lcmp hx hb d_V_inspectTable_91 ?_
              refine lv_if_le (tgt := 97) hx hb d_V_inspectTable_92 (by decide) (fun c_92 => ?_) (fun c_92 => ?_)
              · skip
                have c_92 := (lg_cmp_le _ _).mp c_92
                have hbd : bdV dByt dLen x = false := decide_eq_false (fun z => z.elim (fun z => c_63 z) (fun z => z.elim (fun z => z c_74) (fun z => z c_92)))
                obtain ⟨hvo, hv4⟩ := vO_ok hB (by omega) hd hbd
                refine lv_aload_n hx hb d_V_inspectTable_97 rfl (lv_at hl 1 rfl) ?_
                refine lv_iload_n hx hb d_V_inspectTable_98 rfl (lv_at hl 2 rfl) ?_
                refine lv_lload hx hb d_V_inspectTable_99 (lv_at hl 0 rfl) ?_
                refine lv_l2i hx hb d_V_inspectTable_101 rfl ?_
                refine lv_eqi (show _ = nI (vN dByt dLen x) from hvo) ?_
                refine k_callV (c_V_inspectOffsets l D a g tw sLen sKind sExt sMust rTab rFil rNum rLnk rLen rItm made pItm held dByt dLen bByt bRea bRec bItm bFld bOff bOfp kept wrt wid (ent + 1) ver fAdr fTab adr tab lf x (vN dByt dLen x)  (by omega) (by omega) hB hd) m_V_inspectOffsets wd_9b1f905b 6 6 rfl rfl rfl kT hx hb hml hown hts ⟨(by dsimp only; omega), (by dsimp only; omega)⟩ ⟨Nat.le_of_ble_eq_true rfl, Nat.le_of_ble_eq_true rfl⟩ hK hP hD hS hA hZ hl.1 rfl rfl (Nat.le_of_ble_eq_true rfl) d_V_inspectTable_102 (fun H locs hP hD hS => ?_)
                have hP : va_P D vwCl (Wd a g sLen sKind sExt sMust rTab rFil rNum rLnk rLen rItm made pItm held dByt dLen bByt bRea bRec bItm bFld bOff bOfp kept wrt wid (ent + 1) ver fAdr fTab adr tab lf) H := hP
                have hD : va_D A (Wd a g sLen sKind sExt sMust rTab rFil rNum rLnk rLen rItm made pItm held dByt dLen bByt bRea bRec bItm bFld bOff bOfp kept wrt wid (ent + 1) ver fAdr fTab adr tab lf) := hD
                refine W.eq (g2 := F0 m 105 ls [.int (ioF dByt dLen x (vN dByt dLen x))]) rfl ?_
                refine lv_istore (lv' := [(7, .int (ioF dByt dLen x (vN dByt dLen x))), (5, .long ((nI x).toInt64 - sxL 4 (leN dByt dLen (nI x) 4))), (0, .ref (a 6)), (1, .int (nI x)), (2, .int (nI t)), (3, .int (nI to)), (4, .int (nI dp))]) hx hb d_V_inspectTable_105 hl (by decide) rfl (fun ls hl => ?_)
                refine lv_iconst (v := nI 0) hx hb d_V_inspectTable_107 (by decide) ?_
                refine lv_istore (lv' := [(8, .int (nI 0)), (7, .int (ioF dByt dLen x (vN dByt dLen x))), (5, .long ((nI x).toInt64 - sxL 4 (leN dByt dLen (nI x) 4))), (0, .ref (a 6)), (1, .int (nI x)), (2, .int (nI t)), (3, .int (nI to)), (4, .int (nI dp))]) hx hb d_V_inspectTable_108 hl (by decide) rfl (fun ls hl => ?_)
                have e_7 : ioF dByt dLen x (vN dByt dLen x) = (vFl (SR.mk sLen sKind sExt sMust rTab rFil rNum rLnk rLen rItm) dByt dLen (vTb (SR.mk sLen sKind sExt sMust rTab rFil rNum rLnk rLen rItm) dByt dLen K) x t (ioF dByt dLen x (vN dByt dLen x), ent + 1) 0).1 := rfl
                have hl : lv_has ls 9 [(8, .int (nI 0)), (7, .int ((vFl (SR.mk sLen sKind sExt sMust rTab rFil rNum rLnk rLen rItm) dByt dLen (vTb (SR.mk sLen sKind sExt sMust rTab rFil rNum rLnk rLen rItm) dByt dLen K) x t (ioF dByt dLen x (vN dByt dLen x), ent + 1) 0).1)), (5, .long ((nI x).toInt64 - sxL 4 (leN dByt dLen (nI x) 4))), (0, .ref (a 6)), (1, .int (nI x)), (2, .int (nI t)), (3, .int (nI to)), (4, .int (nI dp))] := by rw [← e_7]; exact hl
                have hP : va_P D vwCl (Wd a g sLen sKind sExt sMust rTab rFil rNum rLnk rLen rItm made pItm held dByt dLen bByt bRea bRec bItm bFld bOff bOfp kept wrt wid ((vFl (SR.mk sLen sKind sExt sMust rTab rFil rNum rLnk rLen rItm) dByt dLen (vTb (SR.mk sLen sKind sExt sMust rTab rFil rNum rLnk rLen rItm) dByt dLen K) x t (ioF dByt dLen x (vN dByt dLen x), ent + 1) 0).2) ver fAdr fTab adr tab lf) _ := hP
                have hD : va_D A (Wd a g sLen sKind sExt sMust rTab rFil rNum rLnk rLen rItm made pItm held dByt dLen bByt bRea bRec bItm bFld bOff bOfp kept wrt wid ((vFl (SR.mk sLen sKind sExt sMust rTab rFil rNum rLnk rLen rItm) dByt dLen (vTb (SR.mk sLen sKind sExt sMust rTab rFil rNum rLnk rLen rItm) dByt dLen K) x t (ioF dByt dLen x (vN dByt dLen x), ent + 1) 0).2) ver fAdr fTab adr tab lf) := hD
                have L_110 : ∀ (n : Nat) (nn : Nat), (nn ≤ sLen t) → sLen t - nn < n → ∀ (H : Heap) (locs : List Loc) (ls : Array Slot), va_P D vwCl (Wd a g sLen sKind sExt sMust rTab rFil rNum rLnk rLen rItm made pItm held dByt dLen bByt bRea bRec bItm bFld bOff bOfp kept wrt wid ((vFl (SR.mk sLen sKind sExt sMust rTab rFil rNum rLnk rLen rItm) dByt dLen (vTb (SR.mk sLen sKind sExt sMust rTab rFil rNum rLnk rLen rItm) dByt dLen K) x t (ioF dByt dLen x (vN dByt dLen x), ent + 1) nn).2) ver fAdr fTab adr tab lf) H → va_D A (Wd a g sLen sKind sExt sMust rTab rFil rNum rLnk rLen rItm made pItm held dByt dLen bByt bRea bRec bItm bFld bOff bOfp kept wrt wid ((vFl (SR.mk sLen sKind sExt sMust rTab rFil rNum rLnk rLen rItm) dByt dLen (vTb (SR.mk sLen sKind sExt sMust rTab rFil rNum rLnk rLen rItm) dByt dLen K) x t (ioF dByt dLen x (vN dByt dLen x), ent + 1) nn).2) ver fAdr fTab adr tab lf) → va_S A s.heap H locs → lv_has ls 9 [(8, .int (nI nn)), (7, .int ((vFl (SR.mk sLen sKind sExt sMust rTab rFil rNum rLnk rLen rItm) dByt dLen (vTb (SR.mk sLen sKind sExt sMust rTab rFil rNum rLnk rLen rItm) dByt dLen K) x t (ioF dByt dLen x (vN dByt dLen x), ent + 1) nn).1)), (5, .long ((nI x).toInt64 - sxL 4 (leN dByt dLen (nI x) 4))), (0, .ref (a 6)), (1, .int (nI x)), (2, .int (nI t)), (3, .int (nI to)), (4, .int (nI dp))] → W p l e ({ frames := 20 + 2 * (K + 1), cells := 0, slots := 0, locals := 200 + 80 * (K + 1) }) s m ([.ref (a 6), .int (nI x), .int (nI t), .int (nI to), .int (nI dp)] : List Value).toArray below meth c H locs 0 0 (MQ below (kQ D vwCl (WdT g) A True (some (.int ((vTb (SR.mk sLen sKind sExt sMust rTab rFil rNum rLnk rLen rItm) dByt dLen (K + 1) x t to ent).1))) (Wd a g sLen sKind sExt sMust rTab rFil rNum rLnk rLen rItm made pItm held dByt dLen bByt bRea bRec bItm bFld bOff bOfp kept wrt wid ((vTb (SR.mk sLen sKind sExt sMust rTab rFil rNum rLnk rLen rItm) dByt dLen (K + 1) x t to ent).2) ver fAdr fTab adr tab lf)) ([.ref (a 6), .int (nI x), .int (nI t), .int (nI to), .int (nI dp)] : List Value).toArray s 0 0 A) (F0 m 110 ls []) := by
                  intro n
                  induction n with
                  | zero => intro nn hnn hm; exact absurd hm (Nat.not_lt_zero _)
                  | succ n ih_110 =>
                    intro nn hnn hm_110 H locs ls hP hD hS hl
                    have hee := vFl_en (q := (SR.mk sLen sKind sExt sMust rTab rFil rNum rLnk rLen rItm)) (d := dByt) (n := dLen) (vTb_en (SR.mk sLen sKind sExt sMust rTab rFil rNum rLnk rLen rItm) dByt dLen K) x t (e0 := (ioF dByt dLen x (vN dByt dLen x), ent + 1)) (by show ent + 1 ≤ 16; omega) nn
                    refine lv_iload hx hb d_V_inspectTable_110 (lv_at hl 0 rfl) ?_
                    refine lv_aload_n hx hb d_V_inspectTable_112 rfl (lv_at hl 3 rfl) ?_
                    refine va_get (D := D) (ci := 6) (C := R_V) (T := T_V) (N := 3) hx hb hts (fun w h => kT w (i_V w h)) hown hK hP 6 rfl rfl 0 (by decide) (hts _ (kT _ wd_8aacbd0a)) (fun _ h9 => h9) rfl d_V_inspectTable_113 ?_
                    refine lv_iload_n hx hb d_V_inspectTable_116 rfl (lv_at hl 5 rfl) ?_
                    refine k_callV (c_Schema_fieldsOf l D a g tw sLen sKind sExt sMust rTab rFil rNum rLnk rLen rItm made pItm held dByt dLen bByt bRea bRec bItm bFld bOff bOfp kept wrt wid ((vFl (SR.mk sLen sKind sExt sMust rTab rFil rNum rLnk rLen rItm) dByt dLen (vTb (SR.mk sLen sKind sExt sMust rTab rFil rNum rLnk rLen rItm) dByt dLen K) x t (ioF dByt dLen x (vN dByt dLen x), ent + 1) nn).2) ver fAdr fTab adr tab lf t  (by omega)) m_S_fieldsOf wd_06c3967b 1 1 rfl rfl rfl kT hx hb hml hown hts ⟨(by dsimp only; omega), (by dsimp only; omega)⟩ ⟨Nat.le_of_ble_eq_true rfl, Nat.le_of_ble_eq_true rfl⟩ hK hP hD hS hA hZ hl.1 rfl rfl (Nat.le_of_ble_eq_true rfl) d_V_inspectTable_117 (fun H locs hP hD hS => ?_)
                    have hP : va_P D vwCl (Wd a g sLen sKind sExt sMust rTab rFil rNum rLnk rLen rItm made pItm held dByt dLen bByt bRea bRec bItm bFld bOff bOfp kept wrt wid ((vFl (SR.mk sLen sKind sExt sMust rTab rFil rNum rLnk rLen rItm) dByt dLen (vTb (SR.mk sLen sKind sExt sMust rTab rFil rNum rLnk rLen rItm) dByt dLen K) x t (ioF dByt dLen x (vN dByt dLen x), ent + 1) nn).2) ver fAdr fTab adr tab lf) H := hP
                    have hD : va_D A (Wd a g sLen sKind sExt sMust rTab rFil rNum rLnk rLen rItm made pItm held dByt dLen bByt bRea bRec bItm bFld bOff bOfp kept wrt wid ((vFl (SR.mk sLen sKind sExt sMust rTab rFil rNum rLnk rLen rItm) dByt dLen (vTb (SR.mk sLen sKind sExt sMust rTab rFil rNum rLnk rLen rItm) dByt dLen K) x t (ioF dByt dLen x (vN dByt dLen x), ent + 1) nn).2) ver fAdr fTab adr tab lf) := hD
                    refine W.eq (g2 := F0 m 120 ls [.int (nI (sLen t)), .int (nI nn)]) rfl ?_
                    refine lv_icmp_ge (tgt := 147) hx hb d_V_inspectTable_120 (by decide) (fun c_120 => ?_) (fun c_120 => ?_)
                    · skip
                      have c_120 := (nI_leI (by omega) (by omega)).mp c_120
                      have h_nn : sLen t = nn := by omega
                      subst h_nn
                      have hv : vTb (SR.mk sLen sKind sExt sMust rTab rFil rNum rLnk rLen rItm) dByt dLen (K + 1) x t to ent = vFl (SR.mk sLen sKind sExt sMust rTab rFil rNum rLnk rLen rItm) dByt dLen (vTb (SR.mk sLen sKind sExt sMust rTab rFil rNum rLnk rLen rItm) dByt dLen K) x t (ioF dByt dLen x (vN dByt dLen x), ent + 1) (sLen t) := by show (if _ then _ else _ : Int32 × Nat) = _; rw [if_neg (by omega), if_neg (by rw [hbd]; simp)]
                      refine lv_iload hx hb d_V_inspectTable_147 (lv_at hl 1 rfl) ?_
                      exact k_iret hx hb hr hlocks hK hP hD hS (trivial) (by rw [hv]; first | done | rfl) (by rw [hv]; first | done | rfl) d_V_inspectTable_149
                    · skip
                      have c_120 := mt (nI_leI (by omega) (by omega)).mpr c_120
                      refine lv_iload hx hb d_V_inspectTable_123 (lv_at hl 1 rfl) ?_
                      refine lv_iconst (v := -1) hx hb d_V_inspectTable_125 (by decide) ?_
                      refine lv_icmp_ne (tgt := 147) hx hb d_V_inspectTable_126 (by decide) (fun c_126 => ?_) (fun c_126 => ?_)
                      · skip
                        have hv : vTb (SR.mk sLen sKind sExt sMust rTab rFil rNum rLnk rLen rItm) dByt dLen (K + 1) x t to ent = vFl (SR.mk sLen sKind sExt sMust rTab rFil rNum rLnk rLen rItm) dByt dLen (vTb (SR.mk sLen sKind sExt sMust rTab rFil rNum rLnk rLen rItm) dByt dLen K) x t (ioF dByt dLen x (vN dByt dLen x), ent + 1) nn := by show (if _ then _ else _ : Int32 × Nat) = _; rw [if_neg (by omega), if_neg (by rw [hbd]; simp)]; exact vFl_stop c_126 (sLen t) (by omega)
                        refine lv_iload hx hb d_V_inspectTable_147 (lv_at hl 1 rfl) ?_
                        exact k_iret hx hb hr hlocks hK hP hD hS (trivial) (by rw [hv]; first | done | rfl) (by rw [hv]; first | done | rfl) d_V_inspectTable_149
                      · skip
                        refine lv_aload_n hx hb d_V_inspectTable_129 rfl (lv_at hl 3 rfl) ?_
                        refine lv_iload_n hx hb d_V_inspectTable_130 rfl (lv_at hl 4 rfl) ?_
                        refine lv_iload_n hx hb d_V_inspectTable_131 rfl (lv_at hl 5 rfl) ?_
                        refine lv_iload hx hb d_V_inspectTable_132 (lv_at hl 0 rfl) ?_
                        refine lv_iload hx hb d_V_inspectTable_134 (lv_at hl 7 rfl) ?_
                        refine k_callV (c_V_inspectField l D a g tw sLen sKind sExt sMust rTab rFil rNum rLnk rLen rItm made pItm held dByt dLen bByt bRea bRec bItm bFld bOff bOfp kept wrt wid ((vFl (SR.mk sLen sKind sExt sMust rTab rFil rNum rLnk rLen rItm) dByt dLen (vTb (SR.mk sLen sKind sExt sMust rTab rFil rNum rLnk rLen rItm) dByt dLen K) x t (ioF dByt dLen x (vN dByt dLen x), ent + 1) nn).2) ver fAdr fTab adr tab lf x t nn dp K ihT (by omega) (by omega) ht (by omega) hee.2 hq hX hB hd hvo hv4) m_V_inspectField wd_02aad052 6 6 rfl rfl rfl kT hx hb hml hown hts ⟨(by dsimp only; omega), (by dsimp only; omega)⟩ ⟨Nat.le_of_ble_eq_true rfl, Nat.le_of_ble_eq_true rfl⟩ hK hP hD hS hA hZ hl.1 rfl rfl (Nat.le_of_ble_eq_true rfl) d_V_inspectTable_136 (fun H locs hP hD hS => ?_)
                        have hP : va_P D vwCl (Wd a g sLen sKind sExt sMust rTab rFil rNum rLnk rLen rItm made pItm held dByt dLen bByt bRea bRec bItm bFld bOff bOfp kept wrt wid ((fdF (SR.mk sLen sKind sExt sMust rTab rFil rNum rLnk rLen rItm) dByt dLen (vTb (SR.mk sLen sKind sExt sMust rTab rFil rNum rLnk rLen rItm) dByt dLen K) x t nn ((vFl (SR.mk sLen sKind sExt sMust rTab rFil rNum rLnk rLen rItm) dByt dLen (vTb (SR.mk sLen sKind sExt sMust rTab rFil rNum rLnk rLen rItm) dByt dLen K) x t (ioF dByt dLen x (vN dByt dLen x), ent + 1) nn).2)).2) ver fAdr fTab adr tab lf) H := hP
                        have hD : va_D A (Wd a g sLen sKind sExt sMust rTab rFil rNum rLnk rLen rItm made pItm held dByt dLen bByt bRea bRec bItm bFld bOff bOfp kept wrt wid ((fdF (SR.mk sLen sKind sExt sMust rTab rFil rNum rLnk rLen rItm) dByt dLen (vTb (SR.mk sLen sKind sExt sMust rTab rFil rNum rLnk rLen rItm) dByt dLen K) x t nn ((vFl (SR.mk sLen sKind sExt sMust rTab rFil rNum rLnk rLen rItm) dByt dLen (vTb (SR.mk sLen sKind sExt sMust rTab rFil rNum rLnk rLen rItm) dByt dLen K) x t (ioF dByt dLen x (vN dByt dLen x), ent + 1) nn).2)).2) ver fAdr fTab adr tab lf) := hD
                        refine W.eq (g2 := F0 m 139 ls [.int ((fdF (SR.mk sLen sKind sExt sMust rTab rFil rNum rLnk rLen rItm) dByt dLen (vTb (SR.mk sLen sKind sExt sMust rTab rFil rNum rLnk rLen rItm) dByt dLen K) x t nn ((vFl (SR.mk sLen sKind sExt sMust rTab rFil rNum rLnk rLen rItm) dByt dLen (vTb (SR.mk sLen sKind sExt sMust rTab rFil rNum rLnk rLen rItm) dByt dLen K) x t (ioF dByt dLen x (vN dByt dLen x), ent + 1) nn).2)).1)]) rfl ?_
                        refine lv_istore (lv' := [(7, .int ((fdF (SR.mk sLen sKind sExt sMust rTab rFil rNum rLnk rLen rItm) dByt dLen (vTb (SR.mk sLen sKind sExt sMust rTab rFil rNum rLnk rLen rItm) dByt dLen K) x t nn ((vFl (SR.mk sLen sKind sExt sMust rTab rFil rNum rLnk rLen rItm) dByt dLen (vTb (SR.mk sLen sKind sExt sMust rTab rFil rNum rLnk rLen rItm) dByt dLen K) x t (ioF dByt dLen x (vN dByt dLen x), ent + 1) nn).2)).1)), (8, .int (nI nn)), (5, .long ((nI x).toInt64 - sxL 4 (leN dByt dLen (nI x) 4))), (0, .ref (a 6)), (1, .int (nI x)), (2, .int (nI t)), (3, .int (nI to)), (4, .int (nI dp))]) hx hb d_V_inspectTable_139 hl (by decide) rfl (fun ls hl => ?_)
                        refine lv_iinc (v := nI (nn + 1)) (lv' := [(8, .int (nI (nn + 1))), (7, .int ((fdF (SR.mk sLen sKind sExt sMust rTab rFil rNum rLnk rLen rItm) dByt dLen (vTb (SR.mk sLen sKind sExt sMust rTab rFil rNum rLnk rLen rItm) dByt dLen K) x t nn ((vFl (SR.mk sLen sKind sExt sMust rTab rFil rNum rLnk rLen rItm) dByt dLen (vTb (SR.mk sLen sKind sExt sMust rTab rFil rNum rLnk rLen rItm) dByt dLen K) x t (ioF dByt dLen x (vN dByt dLen x), ent + 1) nn).2)).1)), (5, .long ((nI x).toInt64 - sxL 4 (leN dByt dLen (nI x) 4))), (0, .ref (a 6)), (1, .int (nI x)), (2, .int (nI t)), (3, .int (nI to)), (4, .int (nI dp))]) hx hb d_V_inspectTable_141 hl (k := 1) rfl (nI_1 _) (by decide) rfl (fun ls hl => ?_)
                        refine lv_goto (tgt := 110) hx hb d_V_inspectTable_144 (by decide) ?_
                        have e_7 : (fdF (SR.mk sLen sKind sExt sMust rTab rFil rNum rLnk rLen rItm) dByt dLen (vTb (SR.mk sLen sKind sExt sMust rTab rFil rNum rLnk rLen rItm) dByt dLen K) x t nn ((vFl (SR.mk sLen sKind sExt sMust rTab rFil rNum rLnk rLen rItm) dByt dLen (vTb (SR.mk sLen sKind sExt sMust rTab rFil rNum rLnk rLen rItm) dByt dLen K) x t (ioF dByt dLen x (vN dByt dLen x), ent + 1) nn).2)).1 = (vFl (SR.mk sLen sKind sExt sMust rTab rFil rNum rLnk rLen rItm) dByt dLen (vTb (SR.mk sLen sKind sExt sMust rTab rFil rNum rLnk rLen rItm) dByt dLen K) x t (ioF dByt dLen x (vN dByt dLen x), ent + 1) (nn + 1)).1 := by rw [vFl, if_pos c_126]
                        have hl : lv_has ls 9 [(8, .int (nI (nn + 1))), (7, .int ((vFl (SR.mk sLen sKind sExt sMust rTab rFil rNum rLnk rLen rItm) dByt dLen (vTb (SR.mk sLen sKind sExt sMust rTab rFil rNum rLnk rLen rItm) dByt dLen K) x t (ioF dByt dLen x (vN dByt dLen x), ent + 1) (nn + 1)).1)), (5, .long ((nI x).toInt64 - sxL 4 (leN dByt dLen (nI x) 4))), (0, .ref (a 6)), (1, .int (nI x)), (2, .int (nI t)), (3, .int (nI to)), (4, .int (nI dp))] := by rw [← e_7]; exact hl
                        have ec_ent : (fdF (SR.mk sLen sKind sExt sMust rTab rFil rNum rLnk rLen rItm) dByt dLen (vTb (SR.mk sLen sKind sExt sMust rTab rFil rNum rLnk rLen rItm) dByt dLen K) x t nn ((vFl (SR.mk sLen sKind sExt sMust rTab rFil rNum rLnk rLen rItm) dByt dLen (vTb (SR.mk sLen sKind sExt sMust rTab rFil rNum rLnk rLen rItm) dByt dLen K) x t (ioF dByt dLen x (vN dByt dLen x), ent + 1) nn).2)).2 = (vFl (SR.mk sLen sKind sExt sMust rTab rFil rNum rLnk rLen rItm) dByt dLen (vTb (SR.mk sLen sKind sExt sMust rTab rFil rNum rLnk rLen rItm) dByt dLen K) x t (ioF dByt dLen x (vN dByt dLen x), ent + 1) (nn + 1)).2 := by rw [vFl, if_pos c_126]
                        have hP : va_P D vwCl (Wd a g sLen sKind sExt sMust rTab rFil rNum rLnk rLen rItm made pItm held dByt dLen bByt bRea bRec bItm bFld bOff bOfp kept wrt wid ((vFl (SR.mk sLen sKind sExt sMust rTab rFil rNum rLnk rLen rItm) dByt dLen (vTb (SR.mk sLen sKind sExt sMust rTab rFil rNum rLnk rLen rItm) dByt dLen K) x t (ioF dByt dLen x (vN dByt dLen x), ent + 1) (nn + 1)).2) ver fAdr fTab adr tab lf) H := by rw [← ec_ent]; exact hP
                        have hD : va_D A (Wd a g sLen sKind sExt sMust rTab rFil rNum rLnk rLen rItm made pItm held dByt dLen bByt bRea bRec bItm bFld bOff bOfp kept wrt wid ((vFl (SR.mk sLen sKind sExt sMust rTab rFil rNum rLnk rLen rItm) dByt dLen (vTb (SR.mk sLen sKind sExt sMust rTab rFil rNum rLnk rLen rItm) dByt dLen K) x t (ioF dByt dLen x (vN dByt dLen x), ent + 1) (nn + 1)).2) ver fAdr fTab adr tab lf) := by rw [← ec_ent]; exact hD
                        exact ih_110 (nn + 1) (by omega) (by omega) _ _ _ hP hD hS (lv_sub hl [0, 1, 2, 3, 4, 5, 6, 7] rfl)
                exact L_110 ((sLen t - 0) + 1) 0 (by omega) (by omega) _ _ _ hP hD hS (lv_sub hl [0, 1, 2, 3, 4, 5, 6, 7] rfl)
              · skip
                have c_92 := mt (lg_cmp_le _ _).mpr c_92
                have hv : vTb (SR.mk sLen sKind sExt sMust rTab rFil rNum rLnk rLen rItm) dByt dLen (K + 1) x t to ent = (nI x, ent + 1) := by show (if _ then _ else _ : Int32 × Nat) = _; rw [if_neg (by omega), if_pos (show bdV dByt dLen x = true from decide_eq_true (Or.inr (Or.inr c_92)))]
                refine lv_iload_n hx hb d_V_inspectTable_95 rfl (lv_at hl 2 rfl) ?_
                exact k_iret hx hb hr hlocks hK hP hD hS (trivial) (by rw [hv]; first | done | rfl) (by rw [hv]; first | done | rfl) d_V_inspectTable_96
        · skip
          have c_34 := mt (nI_leI (by omega) (by omega)).mpr c_34
          exact absurd c_34 (by omega)
    · skip
      have c_16 := mt (nI_leI (by omega) (by omega)).mpr c_16
      have hv : vTb (SR.mk sLen sKind sExt sMust rTab rFil rNum rLnk rLen rItm) dByt dLen (K + 1) x t to ent = (nI to, ent) := by show (if _ then _ else _ : Int32 × Nat) = _; rw [if_pos (by omega)]
      refine lv_iload_n hx hb d_V_inspectTable_19 rfl (lv_at hl 3 rfl) ?_
      exact k_iret hx hb hr hlocks hK hP hD hS (trivial) (by rw [hv]; first | done | rfl) (by rw [hv]; first | done | rfl) d_V_inspectTable_20
theorem c_V_inspectTableK : ∀ (K : Nat) (l : Launch) (D : va_G) (a : Nat → Nat) (g : Nat → ClassId) (tw : Nat) (sLen sKind : Nat → Nat) (sExt : Nat → Int32) (sMust : Nat → Bool) (rTab : Nat → Nat) (rFil : Nat → Bool) (rNum : Nat → Int64) (rLnk rLen : Nat → Nat) (rItm : Nat → Int32) (made : Nat) (pItm : Nat → Int32) (held : Nat) (dByt : Nat → Nat) (dLen : Nat) (bByt : Nat → Nat) (bRea : Nat → Bool) (bRec bItm bFld bOff bOfp : Nat → Nat) (kept wrt wid ent : Nat) (ver : Bool) (fAdr fTab adr tab : Nat) (lf : Int32) (x : Nat) (t : Nat) (to : Nat) (dp : Nat) (hK0 : dp + K = 7) (hx0 : x < 300000) (ht : t < 4) (hen : ent ≤ 16) (hq : SOK (SR.mk sLen sKind sExt sMust rTab rFil rNum rLnk rLen rItm)) (hX : ∀ j, sKind j = 6 → okT (sExt j) = true) (hB : ∀ k, dByt k < 256) (hd : dLen ≤ 240), kM l y_V_inspectTable b_V_inspectTable 9 (some .int) ({ frames := 20 + 2 * K, cells := 0, slots := 0, locals := 200 + 80 * K }) D vwCl (WdT g) tw [.ref (a 6), .int (nI x), .int (nI t), .int (nI to), .int (nI dp)] (Wd a g sLen sKind sExt sMust rTab rFil rNum rLnk rLen rItm made pItm held dByt dLen bByt bRea bRec bItm bFld bOff bOfp kept wrt wid ent ver fAdr fTab adr tab lf) (some (.int ((vTb (SR.mk sLen sKind sExt sMust rTab rFil rNum rLnk rLen rItm) dByt dLen K x t to ent).1))) (Wd a g sLen sKind sExt sMust rTab rFil rNum rLnk rLen rItm made pItm held dByt dLen bByt bRea bRec bItm bFld bOff bOfp kept wrt wid ((vTb (SR.mk sLen sKind sExt sMust rTab rFil rNum rLnk rLen rItm) dByt dLen K x t to ent).2) ver fAdr fTab adr tab lf) := by
  intro K
  induction K with
  | zero => exact c_V_inspectTable0
  | succ K ih => intro l D a g tw sLen sKind sExt sMust rTab rFil rNum rLnk rLen rItm made pItm held dByt dLen bByt bRea bRec bItm bFld bOff bOfp kept wrt wid ent ver fAdr fTab adr tab lf x t to dp hK0 hx0 ht hen hq hX hB hd; exact c_V_inspectTable l D a g tw sLen sKind sExt sMust rTab rFil rNum rLnk rLen rItm made pItm held dByt dLen bByt bRea bRec bItm bFld bOff bOfp kept wrt wid ent ver fAdr fTab adr tab lf x t to dp K ih hK0 hx0 ht hen hq hX hB hd
theorem c_V_inspectTable6 (l : Launch) (D : va_G) (a : Nat → Nat) (g : Nat → ClassId) (tw : Nat) (sLen sKind : Nat → Nat) (sExt : Nat → Int32) (sMust : Nat → Bool) (rTab : Nat → Nat) (rFil : Nat → Bool) (rNum : Nat → Int64) (rLnk rLen : Nat → Nat) (rItm : Nat → Int32) (made : Nat) (pItm : Nat → Int32) (held : Nat) (dByt : Nat → Nat) (dLen : Nat) (bByt : Nat → Nat) (bRea : Nat → Bool) (bRec bItm bFld bOff bOfp : Nat → Nat) (kept wrt wid ent : Nat) (ver : Bool) (fAdr fTab adr tab : Nat) (lf : Int32) (x : Nat) (t : Nat) (to : Nat) (dp : Nat) (hK0 : dp + 6 = 7) (hx0 : x < 300000) (ht : t < 4) (hen : ent ≤ 16) (hq : SOK (SR.mk sLen sKind sExt sMust rTab rFil rNum rLnk rLen rItm)) (hX : ∀ j, sKind j = 6 → okT (sExt j) = true) (hB : ∀ k, dByt k < 256) (hd : dLen ≤ 240) : kM l y_V_inspectTable b_V_inspectTable 9 (some .int) ({ frames := 32, cells := 0, slots := 0, locals := 680 }) D vwCl (WdT g) tw [.ref (a 6), .int (nI x), .int (nI t), .int (nI to), .int (nI dp)] (Wd a g sLen sKind sExt sMust rTab rFil rNum rLnk rLen rItm made pItm held dByt dLen bByt bRea bRec bItm bFld bOff bOfp kept wrt wid ent ver fAdr fTab adr tab lf) (some (.int ((vTb (SR.mk sLen sKind sExt sMust rTab rFil rNum rLnk rLen rItm) dByt dLen 6 x t to ent).1))) (Wd a g sLen sKind sExt sMust rTab rFil rNum rLnk rLen rItm made pItm held dByt dLen bByt bRea bRec bItm bFld bOff bOfp kept wrt wid ((vTb (SR.mk sLen sKind sExt sMust rTab rFil rNum rLnk rLen rItm) dByt dLen 6 x t to ent).2) ver fAdr fTab adr tab lf) := c_V_inspectTableK 6 l D a g tw sLen sKind sExt sMust rTab rFil rNum rLnk rLen rItm made pItm held dByt dLen bByt bRea bRec bItm bFld bOff bOfp kept wrt wid ent ver fAdr fTab adr tab lf x t to dp hK0 hx0 ht hen hq hX hB hd

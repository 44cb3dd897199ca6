theorem wb_tb (n : Nat) : (lN n).toBitVec = BitVec.ofNat 64 n := rfl
theorem wb_inj {a b : Int64} (h : a.toBitVec = b.toBitVec) : a = b := Int64.toBitVec_inj.mp h
theorem wb_tn {n : Nat} (h : n < 2 ^ 64) : (lN n).toBitVec.toNat = n := by rw [wb_tb, BitVec.toNat_ofNat, Nat.mod_eq_of_lt h]
theorem wb_of (x : Int64) : ∃ n, n < 2 ^ 64 ∧ x = lN n := ⟨x.toBitVec.toNat, x.toBitVec.isLt, wb_inj (by rw [wb_tb]; simp)⟩
theorem wb_of32 (x : Int32) : ∃ n, n < 2 ^ 32 ∧ x = nI n := ⟨x.toBitVec.toNat, x.toBitVec.isLt, Int32.toBitVec_inj.mp (by show _ = BitVec.ofNat 32 _; simp)⟩
theorem wb_c : ∀ k, k < 64 → ((nI k).toInt64 &&& 63) = lN k := by decide +kernel
theorem wb_sm : ∀ k, k < 64 → (BitVec.ofNat 64 k).smod 64 = BitVec.ofNat 64 k := by decide +kernel
theorem wb_pw {a b : Nat} (h : a ≤ b) : 2 ^ b = 2 ^ a * 2 ^ (b - a) := by rw [← Nat.pow_add]; congr 1; omega
theorem wb_lt2 {a b : Nat} (h : a < b) : 2 ^ a < 2 ^ b := Nat.pow_lt_pow_right (by decide) h
theorem wb_shl (n : Nat) {k : Nat} (hk : k < 64) : lN n <<< ((nI k).toInt64 &&& 63) = lN (n * 2 ^ k) := by
  rw [wb_c k hk]
  apply wb_inj
  rw [Int64.toBitVec_shiftLeft, wb_tb, wb_tb, wb_tb, wb_sm k hk]
  apply BitVec.eq_of_toNat_eq
  rw [BitVec.shiftLeft_eq', BitVec.toNat_shiftLeft, BitVec.toNat_ofNat, BitVec.toNat_ofNat, BitVec.toNat_ofNat, Nat.mod_eq_of_lt (show k < 2 ^ 64 by omega), Nat.shiftLeft_eq, Nat.mul_mod, Nat.mod_mod, ← Nat.mul_mod]
theorem wb_and {a b : Nat} (ha : a < 2 ^ 64) (hb : b < 2 ^ 64) : lN a &&& lN b = lN (a &&& b) := by
  apply wb_inj
  rw [Int64.toBitVec_and, wb_tb, wb_tb, wb_tb]
  apply BitVec.eq_of_toNat_eq
  rw [BitVec.toNat_and, BitVec.toNat_ofNat, BitVec.toNat_ofNat, BitVec.toNat_ofNat, Nat.mod_eq_of_lt ha, Nat.mod_eq_of_lt hb, Nat.mod_eq_of_lt (Nat.and_lt_two_pow _ hb)]
theorem wb_or {a b : Nat} (ha : a < 2 ^ 64) (hb : b < 2 ^ 64) : lN a ||| lN b = lN (a ||| b) := by
  apply wb_inj
  rw [Int64.toBitVec_or, wb_tb, wb_tb, wb_tb]
  apply BitVec.eq_of_toNat_eq
  rw [BitVec.toNat_or, BitVec.toNat_ofNat, BitVec.toNat_ofNat, BitVec.toNat_ofNat, Nat.mod_eq_of_lt ha, Nat.mod_eq_of_lt hb, Nat.mod_eq_of_lt (Nat.or_lt_two_pow ha hb)]
theorem wb_mask {n k : Nat} (hn : n < 2 ^ 64) (hk : k < 64) : lN n &&& lN (2 ^ k - 1) = lN (n % 2 ^ k) := by
  rw [wb_and hn (by have := wb_lt2 hk; omega), Nat.and_two_pow_sub_one_eq_mod]
theorem u_tn {n : Nat} (h : n < 2 ^ 64) : (UInt64.ofNat n).toNat = n := Nat.mod_eq_of_lt h
theorem g_or {k p a b : Nat} (hp : 2 ^ k = p) (ha : a < p) (h : b * p + a < 2 ^ 64) : lN (b * p) ||| lN a = lN (b * p + a) := by
  subst hp
  have h1 : b * 2 ^ k ||| a = b * 2 ^ k + a := by rw [← Nat.shiftLeft_eq, Nat.shiftLeft_add_eq_or_of_lt ha]
  have h3 : UInt64.ofNat (b * 2 ^ k) ||| UInt64.ofNat a = UInt64.ofNat (b * 2 ^ k + a) := UInt64.toNat_inj.mp (by rw [UInt64.toNat_or, u_tn (by omega), u_tn (by omega), u_tn h, h1])
  have h2 := congrArg UInt64.toInt64 h3
  exact h2
theorem g_or' {k p a b : Nat} (hp : 2 ^ k = p) (ha : a < p) (h : a + b * p < 2 ^ 64) : lN a ||| lN (b * p) = lN (a + b * p) := by
  rw [Int64.or_comm, g_or hp ha (by omega), Nat.add_comm]
theorem lN_bv (n : Nat) : (lN n).toBitVec = BitVec.ofNat 64 n := rfl
theorem lN_nat {n : Nat} (h : n < 2 ^ 64) : (lN n).toBitVec.toNat = n := by rw [lN_bv, BitVec.toNat_ofNat]; exact Nat.mod_eq_of_lt h
theorem lN_ti {m : Nat} (h : m < 2 ^ 64) : (lN m).toInt = if m < 2 ^ 63 then (m : Int) else (m : Int) - 2 ^ 64 := by
  have c := BitVec.toInt_eq_toNat_cond (lN m).toBitVec
  rw [lN_nat h] at c
  show (lN m).toBitVec.toInt = _
  rw [c]
  split <;> split <;> omega
/-! pure words of the class -/
def hasF (n : Nat) (x : Int32) : Bool := decide (¬ x < 0 ∧ ¬ nI n ≤ x)
def okT (x : Int32) : Bool := decide (¬ x < 0 ∧ ¬ nI 4 ≤ x)
def brI (k : Nat) (v : Int64) : Int64 := if k = 0 then v.toInt32.toInt8.toInt32.toInt64 else if k = 1 then v.toInt32.toInt16.toInt32.toInt64 else if k = 2 then v.toInt32.toInt64 else v
def suT (k : Nat) (x : Int32) : Bool := if k = 6 then okT x else decide (4 ≤ k) || decide (brI k x.toInt64 = x.toInt64)
theorem z_eq {a : Nat} (h : a < 2 ^ 31) : nI a = 0 ↔ a = 0 := by rw [← nI_0]; exact nI_eq h (by decide)
theorem z_lt {a : Nat} (h : a < 2 ^ 31) : nI a < 0 ↔ a < 0 := ⟨fun q => absurd q (nI_pos h), fun q => absurd q (Nat.not_lt_zero _)⟩
theorem z_ge {a : Nat} (h : a < 2 ^ 31) : 0 ≤ nI a ↔ 0 ≤ a := ⟨fun _ => Nat.zero_le _, fun _ => nI_pos' h⟩
theorem z_gt {a : Nat} (h : a < 2 ^ 31) : 0 < nI a ↔ 0 < a := by rw [← nI_0]; exact nI_ltI (by decide) h
theorem z_le {a : Nat} (h : a < 2 ^ 31) : nI a ≤ 0 ↔ a ≤ 0 := by rw [← nI_0]; exact nI_leI h (by decide)
theorem kT {c0 : Cond} : ∀ w ∈ kGW, w ∈ c0 :: kGW := fun _ h => List.mem_cons_of_mem _ h
theorem nI_bI1 : nI 1 = bI true := by decide
theorem nI_bI0 : nI 0 = bI false := by decide
/-! numbers out of bytes -/
def cN (x : Int32) : Nat := x.toNatClampNeg
theorem cN_nI {j : Nat} (h : j < 2 ^ 31) : cN (nI j) = j := nI_clamp h
theorem nI_cN {x : Int32} (h : ¬ x < 0) : x = nI (cN x) := by
  obtain ⟨j, hj, rfl⟩ := nI_of h
  rw [cN_nI hj]
theorem hasF_spec {n : Nat} {x : Int32} (hn : n < 2 ^ 31) (h : hasF n x = true) : x = nI (cN x) ∧ cN x < n := by
  simp only [hasF, decide_eq_true_eq] at h
  obtain ⟨j, hj, rfl⟩ := nI_of h.1
  rw [cN_nI hj]
  refine ⟨rfl, ?_⟩
  have h2 := mt (nI_leI hn hj).mpr h.2
  omega
theorem hasF_nI {n j : Nat} (hn : n < 2 ^ 31) (hj : j < 2 ^ 31) : hasF n (nI j) = decide (j < n) := by
  unfold hasF
  apply decide_eq_decide.mpr
  rw [nI_leI hn hj]
  exact ⟨fun h => by omega, fun h => ⟨nI_pos hj, by omega⟩⟩
theorem okT_has (x : Int32) : okT x = hasF 4 x := rfl
theorem okT_spec {x : Int32} (h : okT x = true) : x = nI (cN x) ∧ cN x < 4 := hasF_spec (by decide) h
def bAt (d : Nat → Nat) (n : Nat) (x : Int32) : Nat := if hasF n x = true then d (cN x) else 0
def leN (d : Nat → Nat) (n : Nat) (x : Int32) : Nat → Nat
  | 0 => 0
  | i + 1 => leN d n x i + bAt d n (x + nI i) * 2 ^ (8 * i)
theorem bAt_lt {d : Nat → Nat} {n : Nat} {x : Int32} (hB : ∀ k, d k < 256) : bAt d n x < 256 := by
  unfold bAt
  split
  · exact hB _
  · decide
theorem leN_lt {d : Nat → Nat} {n : Nat} {x : Int32} (hB : ∀ k, d k < 256) (i : Nat) : leN d n x i < 2 ^ (8 * i) := by
  induction i with
  | zero => exact Nat.one_pos
  | succ i ih =>
    have h1 := bAt_lt (d := d) (n := n) (x := x + nI i) hB
    have h2 : 2 ^ (8 * (i + 1)) = 2 ^ (8 * i) * 256 := by rw [show 8 * (i + 1) = 8 * i + 8 from by omega, Nat.pow_add]
    show leN d n x i + bAt d n (x + nI i) * 2 ^ (8 * i) < _
    rw [h2]
    generalize 2 ^ (8 * i) = P at *
    generalize leN d n x i = u at *
    generalize bAt d n (x + nI i) = v at *
    have h3 : v * P ≤ 255 * P := Nat.mul_le_mul_right _ (by omega)
    omega
theorem sb_l : ∀ c, c < 256 → (sb_b c).toInt64 &&& 255 = lN c := by decide +kernel
/-- a step of the reading, the byte is there -/
theorem leN_in {d : Nat → Nat} {n : Nat} {x : Int32} (hB : ∀ k, d k < 256) {i : Nat} (hi : i < 8) (h : hasF n (x + nI i) = true) :
    lN (leN d n x i) ||| (((sb_b (d (cN (x + nI i)))).toInt64 &&& 255) <<< ((nI (8 * i)).toInt64 &&& 63)) = lN (leN d n x (i + 1)) := by
  rw [sb_l _ (hB _), wb_shl _ (show 8 * i < 64 by omega)]
  have h1 := leN_lt (n := n) (x := x) hB i
  have h2 := leN_lt (n := n) (x := x) hB (i + 1)
  have e : leN d n x (i + 1) = leN d n x i + d (cN (x + nI i)) * 2 ^ (8 * i) := by
    show leN d n x i + bAt d n (x + nI i) * 2 ^ (8 * i) = _
    rw [bAt, if_pos h]
  rw [e] at h2 ⊢
  refine g_or' rfl h1 (Nat.lt_of_lt_of_le h2 (Nat.pow_le_pow_right (by decide) (by omega)))
theorem leN_out {d : Nat → Nat} {n : Nat} {x : Int32} {i : Nat} (h : ¬ hasF n (x + nI i) = true) : leN d n x (i + 1) = leN d n x i := by
  show leN d n x i + bAt d n (x + nI i) * 2 ^ (8 * i) = _
  rw [bAt, if_neg h, Nat.zero_mul, Nat.add_zero]
/-- the number with its sign, of w bytes -/
def sxL (w u : Nat) : Int64 := (lN u <<< ((nI (64 - 8 * w)).toInt64 &&& 63)) >>> ((nI (64 - 8 * w)).toInt64 &&& 63)
theorem lshr_toInt (a s : Int64) (k : Nat) (hs : (s.toBitVec.smod 64).toNat = k) : (a >>> s).toInt = a.toInt >>> k := by
  show (a.toBitVec.sshiftRight (s.toBitVec.smod 64).toNat).toInt = _
  rw [hs, BitVec.toInt_sshiftRight]
  rfl
theorem sxL_toInt {w u : Nat} (h1 : 1 ≤ w) (h2 : w ≤ 8) (hu : u < 2 ^ (8 * w)) : (sxL w u).toInt = if 2 * u < 2 ^ (8 * w) then (u : Int) else (u : Int) - ((2 ^ (8 * w) : Nat) : Int) := by
  unfold sxL
  have hk : 64 - 8 * w < 64 := by omega
  rw [wb_shl _ hk, wb_c _ hk, lshr_toInt _ _ (64 - 8 * w) (by rw [wb_tb, wb_sm _ hk, BitVec.toNat_ofNat]; exact Nat.mod_eq_of_lt (by omega))]
  have e : 2 ^ (8 * w) * 2 ^ (64 - 8 * w) = 2 ^ 64 := by rw [← Nat.pow_add]; congr 1; omega
  have hp : 0 < 2 ^ (64 - 8 * w) := Nat.two_pow_pos _
  have hlt : u * 2 ^ (64 - 8 * w) < 2 ^ 64 := by rw [← e]; exact Nat.mul_lt_mul_of_pos_right hu hp
  rw [lN_ti hlt, Int.shiftRight_eq_div_pow]
  have e2 : u * 2 ^ (64 - 8 * w) < 2 ^ 63 ↔ 2 * u < 2 ^ (8 * w) := by
    have e3 : (2 : Nat) ^ 64 = 2 * 2 ^ 63 := by decide
    constructor
    · intro h
      have h9 : (2 * u) * 2 ^ (64 - 8 * w) < 2 ^ (8 * w) * 2 ^ (64 - 8 * w) := by rw [e, e3, Nat.mul_assoc]; omega
      exact Nat.lt_of_mul_lt_mul_right h9
    · intro h
      have h9 : (2 * u) * 2 ^ (64 - 8 * w) < 2 ^ (8 * w) * 2 ^ (64 - 8 * w) := Nat.mul_lt_mul_of_pos_right h hp
      rw [e, e3, Nat.mul_assoc] at h9
      omega
  by_cases h : 2 * u < 2 ^ (8 * w)
  · rw [if_pos (e2.mpr h), if_pos h]
    rw [show ((u * 2 ^ (64 - 8 * w) : Nat) : Int) = (u : Int) * ((2 ^ (64 - 8 * w) : Nat) : Int) from by push_cast; rfl]
    exact Int.mul_ediv_cancel _ (by exact_mod_cast Nat.pos_iff_ne_zero.mp hp)
  · rw [if_neg (fun q => h (e2.mp q)), if_neg h]
    rw [show ((u * 2 ^ (64 - 8 * w) : Nat) : Int) - 2 ^ 64 = ((u : Int) - ((2 ^ (8 * w) : Nat) : Int)) * ((2 ^ (64 - 8 * w) : Nat) : Int) from by
      rw [Int.sub_mul, ← Int.natCast_mul, ← Int.natCast_mul, e]; rfl]
    exact Int.mul_ediv_cancel _ (by exact_mod_cast Nat.pos_iff_ne_zero.mp hp)
def cpI (f p : Nat → Int32) (k : Int32) (b : Nat) : Nat → (Nat → Int32)
  | 0 => f
  | i + 1 => upd (cpI f p k b i) (b + i) (p i &&& k).toInt16.toInt32
def offF (d : Nat → Nat) (n : Nat) (x : Int32) (f : Nat) : Nat := if 4 + 2 * f < leN d n x 2 then leN d n (x + nI (4 + 2 * f)) 2 else 0
theorem nI_max {a b : Nat} (ha : a < 2 ^ 31) (hb : b < 2 ^ 31) : (if nI a < nI b then nI b else nI a) = nI (max a b) := by
  by_cases h : a < b
  · rw [if_pos ((nI_ltI ha hb).mpr h), Nat.max_eq_right (by omega)]
  · rw [if_neg (fun q => h ((nI_ltI ha hb).mp q)), Nat.max_eq_left (by omega)]
theorem sx_nat {w u : Nat} (h1 : 1 ≤ w) (h2 : w ≤ 8) (hu : u < 2 ^ (8 * w)) : (sxL w u).toBitVec.toNat % 2 ^ (8 * w) = u := by
  have h := sxL_toInt h1 h2 hu
  have c := BitVec.toInt_eq_toNat_cond (sxL w u).toBitVec
  have e : 2 ^ (8 * w) * 2 ^ (64 - 8 * w) = 2 ^ 64 := by rw [← Nat.pow_add]; congr 1; omega
  have hk : 0 < 2 ^ (64 - 8 * w) := Nat.two_pow_pos _
  have hn : (sxL w u).toBitVec.toNat < 2 ^ 64 := (sxL w u).toBitVec.isLt
  have hh : (sxL w u).toInt = (sxL w u).toBitVec.toInt := rfl
  rw [hh, c] at h
  generalize (sxL w u).toBitVec.toNat = n at *
  generalize hP : 2 ^ (8 * w) = P at *
  generalize 2 ^ (64 - 8 * w) = K at *
  obtain ⟨K', rfl⟩ : ∃ K', K = K' + 1 := ⟨K - 1, by omega⟩
  rw [Nat.mul_add, Nat.mul_one] at e
  by_cases q1 : 2 * n < 2 ^ 64
  · rw [if_pos q1] at h
    by_cases q2 : 2 * u < P
    · rw [if_pos q2] at h
      have : n = u := by omega
      rw [this]; exact Nat.mod_eq_of_lt hu
    · rw [if_neg q2] at h
      omega
  · rw [if_neg q1] at h
    by_cases q2 : 2 * u < P
    · rw [if_pos q2] at h
      omega
    · rw [if_neg q2] at h
      have e2 : n = u + P * K' := by
        have : (n : Int) = u + (P * K' : Nat) := by
          have e3 : ((P * K' : Nat) : Int) + P = 2 ^ 64 := by exact_mod_cast e
          omega
        exact_mod_cast this
      rw [e2, Nat.add_mul_mod_self_left]; exact Nat.mod_eq_of_lt hu
theorem l2i_nat (x : Int64) : x.toInt32.toBitVec.toNat = x.toBitVec.toNat % 2 ^ 32 := by
  show (x.toBitVec.signExtend 32).toNat = _
  rw [BitVec.signExtend_eq_setWidth_of_le _ (by decide), BitVec.toNat_setWidth]
theorem sx_u8 {u : Nat} (h : u < 2 ^ (8 * 1)) : (sxL 1 u).toInt32 &&& nI 255 = nI u := by
  have h1 : (sxL 1 u).toBitVec.toNat % 256 = u := sx_nat (by decide) (by decide) h
  rw [pk_and _ 8 (by decide), l2i_nat]
  generalize (sxL 1 u).toBitVec.toNat = n at *
  have e : n % 2 ^ 32 % 2 ^ 8 = u := by omega
  rw [e]
theorem sx_u16 {u : Nat} (h : u < 2 ^ (8 * 2)) : (sxL 2 u).toInt32 &&& nI 65535 = nI u := by
  have h1 : (sxL 2 u).toBitVec.toNat % 65536 = u := sx_nat (by decide) (by decide) h
  rw [pk_and _ 16 (by decide), l2i_nat]
  generalize (sxL 2 u).toBitVec.toNat = n at *
  have e : n % 2 ^ 32 % 2 ^ 16 = u := by omega
  rw [e]
theorem sx_u32 {u : Nat} (h : u < 2 ^ (8 * 4)) : sxL 4 u &&& (4294967295 : Int64) = lN u := by
  have h1 := sx_nat (by decide) (by decide) h
  obtain ⟨n, hn, e⟩ := wb_of (sxL 4 u)
  rw [e, wb_tn hn] at h1
  rw [e, show (4294967295 : Int64) = lN (2 ^ 32 - 1) from rfl, wb_mask hn (by decide)]
  congr 1
theorem sx_cap {u : Nat} (h : u < 2 ^ (8 * 4)) : (if (100000 : Int64) < sxL 4 u &&& (4294967295 : Int64) then (100000 : Int64) else sxL 4 u &&& (4294967295 : Int64)).toInt32 = nI (min u 100000) := by
  rw [sx_u32 h, show (100000 : Int64) = lN 100000 from rfl]
  have hu : u < 2 ^ 63 := by omega
  by_cases q : 100000 < u
  · rw [if_pos ((pk_lLT (by decide) hu).mpr q), lN_i, Nat.min_eq_right (by omega)]
  · rw [if_neg (fun z => q ((pk_lLT (by decide) hu).mp z)), lN_i, Nat.min_eq_left (by omega)]

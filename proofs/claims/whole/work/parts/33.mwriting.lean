/-! the model's writing -/
abbrev PW : Type := (Nat → Nat) × Nat × Nat × Bool
abbrev PW.mk (row : Nat → Nat) (wr wid : Nat) (ov : Bool) : PW := (row, wr, wid, ov)
abbrev PW.row (w : PW) : Nat → Nat := w.1
abbrev PW.wr (w : PW) : Nat := w.2.1
abbrev PW.wid (w : PW) : Nat := w.2.2.1
abbrev PW.ov (w : PW) : Bool := w.2.2.2
def PW.pb (w : PW) (v : Int32) : PW := if w.wr = 250 then PW.mk w.row w.wr w.wid true else PW.mk (va_up w.row (w.wr + 1) (u8 v)) (w.wr + 1) w.wid w.ov
def alI (n h : Nat) : Nat → PW → PW
  | 0, w => w
  | k + 1, w => if (w.wr + h) % n = 0 ∨ w.ov = true then w else alI n h k (w.pb (nI 0))
def PW.al (w : PW) (n h : Nat) : PW := alI n h n (PW.mk w.row w.wr (max w.wid n) w.ov)
def vM (v : Int64) (i : Nat) : Int32 := ((v >>> ((nI (8 * i)).toInt64 &&& 63)) &&& 255).toInt32
def pnI (w : PW) (v : Int64) (n : Nat) : Nat → PW
  | 0 => w
  | i + 1 => (pnI w v n i).pb (vM v (n - i - 1))
def PW.pn (w : PW) (v : Int64) (n : Nat) : PW := pnI (w.al n 0) v n n
def teI (q : SR) (c : Nat) (w : PW) : Nat → PW
  | 0 => w
  | i + 1 => (teI q c w i).pb (q.rItm (c * 12 + (q.rLen c - i - 1)))
def nrM (val : Nat → Int64) (n : Nat) (w : PW) : Nat → PW
  | 0 => w
  | i + 1 => (nrM val n w i).pn (val (n - i - 1)) 2
def txM (q : SR) (c : Nat) (w : PW) : PW := (teI q c ((w.al 4 (q.rLen c + 1)).pb (nI 0)) (q.rLen c)).pn (nI (q.rLen c)).toInt64 4
def rwM (q : SR) (c : Nat) (w : PW) : PW := (nrM (rwV q c) (q.rLen c) (w.al 4 (2 * q.rLen c)) (q.rLen c)).pn (nI (q.rLen c)).toInt64 4
/-- what is written stays; the row's end is known -/
abbrev W250 (w : PW) : Prop := w.wr ≤ 250 ∧ (w.ov = true → w.wr = 250)
abbrev Kp (w w' : PW) : Prop := W250 w' ∧ w.wr ≤ w'.wr ∧ (∀ i, i ≤ w.wr → w'.row i = w.row i) ∧ (w.ov = true → w'.ov = true) ∧ w.wid ≤ w'.wid
theorem Kp.rf {w : PW} (h : W250 w) : Kp w w := ⟨h, Nat.le_refl _, fun _ _ => rfl, id, Nat.le_refl _⟩
theorem Kp.tr {w x y : PW} (h1 : Kp w x) (h2 : Kp x y) : Kp w y := ⟨h2.1, Nat.le_trans h1.2.1 h2.2.1, fun i hi => (h2.2.2.1 i (Nat.le_trans hi h1.2.1)).trans (h1.2.2.1 i hi), fun e => h2.2.2.2.1 (h1.2.2.2.1 e), Nat.le_trans h1.2.2.2.2 h2.2.2.2.2⟩
theorem Kp_pb {w : PW} (h : W250 w) (v : Int32) : Kp w (w.pb v) := by
  unfold PW.pb
  split
  · rename_i e
    exact ⟨⟨h.1, fun _ => e⟩, Nat.le_refl _, fun _ _ => rfl, fun _ => rfl, Nat.le_refl _⟩
  · rename_i e
    have h1 := h.1
    refine ⟨⟨by show w.wr + 1 ≤ 250; omega, fun z => absurd (h.2 z) e⟩, Nat.le_succ _, fun i hi => va_up_ne _ _ (by omega), id, Nat.le_refl _⟩
theorem Kp_alI (n hh : Nat) : ∀ (k : Nat) (w : PW), W250 w → Kp w (alI n hh k w)
  | 0, w, h => Kp.rf h
  | k + 1, w, h => by
    unfold alI
    split
    · exact Kp.rf h
    · exact (Kp_pb h _).tr (Kp_alI n hh k _ (Kp_pb h _).1)
theorem Kp_al {w : PW} (h : W250 w) (n hh : Nat) : Kp w (w.al n hh) :=
  Kp.tr (x := PW.mk w.row w.wr (max w.wid n) w.ov) ⟨h, Nat.le_refl _, fun _ _ => rfl, id, Nat.le_max_left _ _⟩ (Kp_alI n hh n _ h)
theorem Kp_pnI {w : PW} (h : W250 w) (v : Int64) (n : Nat) : ∀ i, Kp w (pnI w v n i)
  | 0 => Kp.rf h
  | i + 1 => (Kp_pnI h v n i).tr (Kp_pb (Kp_pnI h v n i).1 _)
theorem Kp_pn {w : PW} (h : W250 w) (v : Int64) (n : Nat) : Kp w (w.pn v n) := (Kp_al h n 0).tr (Kp_pnI (Kp_al h n 0).1 v n n)
theorem Kp_te {w : PW} (h : W250 w) (q : SR) (c : Nat) : ∀ i, Kp w (teI q c w i)
  | 0 => Kp.rf h
  | i + 1 => (Kp_te h q c i).tr (Kp_pb (Kp_te h q c i).1 _)
theorem Kp_nr {w : PW} (h : W250 w) (val : Nat → Int64) (n : Nat) : ∀ i, Kp w (nrM val n w i)
  | 0 => Kp.rf h
  | i + 1 => (Kp_nr h val n i).tr (Kp_pn (Kp_nr h val n i).1 _ _)
theorem Kp_tx {w : PW} (h : W250 w) (q : SR) (c : Nat) : Kp w (txM q c w) :=
  let a := Kp_al h 4 (q.rLen c + 1)
  let b := a.tr (Kp_pb a.1 (nI 0))
  let d := b.tr (Kp_te b.1 q c (q.rLen c))
  d.tr (Kp_pn d.1 _ _)
theorem Kp_rw {w : PW} (h : W250 w) (q : SR) (c : Nat) : Kp w (rwM q c w) :=
  let a := Kp_al h 4 (2 * q.rLen c)
  let b := a.tr (Kp_nr a.1 (rwV q c) (q.rLen c) (q.rLen c))
  b.tr (Kp_pn b.1 _ _)
/-- the writing of both -/
abbrev PR (w : PW) (f : Nat → Nat) (a wid : Nat) : Prop := w.ov = false ∧ w.wr = a ∧ a ≤ 250 ∧ w.wid = wid ∧ (a ≤ 240 → ∀ i, 1 ≤ i → i ≤ a → w.row i = f i) ∧ (∀ i, a < i → i ≤ 240 → f i = 0)
abbrev OV (w : PW) (a : Nat) : Prop := w.ov = true ∧ w.wr = 250 ∧ 250 < a
abbrev ER (w : PW) (f : Nat → Nat) (a wid : Nat) : Prop := PR w f a wid ∨ OV w a
theorem ER.w {w : PW} {f : Nat → Nat} {a wid : Nat} (h : ER w f a wid) : W250 w := by
  rcases h with h | h
  · exact ⟨by rw [h.2.1]; exact h.2.2.1, fun e => by rw [h.1] at e; cases e⟩
  · exact ⟨by rw [h.2.1]; omega, fun _ => h.2.1⟩
theorem OV_pb {w : PW} {a a' : Nat} (h : OV w a) (v : Int32) (ha : a ≤ a') : OV (w.pb v) a' := by
  rw [PW.pb, if_pos h.2.1]
  exact ⟨rfl, h.2.1, Nat.lt_of_lt_of_le h.2.2 ha⟩
theorem ER_pb {w : PW} {f : Nat → Nat} {a wid : Nat} (h : ER w f a wid) (v : Int32) : ER (w.pb v) (va_up f (a + 1) (u8 v)) (a + 1) wid := by
  rcases h with h | h
  · obtain ⟨h1, h2, h3, h4, h5, h6⟩ := h
    by_cases e : w.wr = 250
    · right
      rw [PW.pb, if_pos e]
      exact ⟨rfl, e, by omega⟩
    · left
      rw [PW.pb, if_neg e]
      refine ⟨h1, by show w.wr + 1 = a + 1; omega, by omega, h4, fun ha i hi1 hi2 => ?_, fun i hi1 hi2 => ?_⟩
      · show va_up w.row (w.wr + 1) (u8 v) i = va_up f (a + 1) (u8 v) i
        by_cases c : i = a + 1
        · rw [c, ← h2, va_up_self, va_up_self]
        · rw [va_up_ne _ _ (by omega), va_up_ne _ _ c]; exact h5 (by omega) i hi1 (by omega)
      · rw [va_up_ne _ _ (by omega)]; exact h6 i (by omega) hi2
  · exact Or.inr (OV_pb h v (Nat.le_succ _))
theorem u8_0 : u8 (nI 0) = 0 := by decide
theorem ER_p0 {w : PW} {f : Nat → Nat} {a wid : Nat} (h : ER w f a wid) : ER (w.pb (nI 0)) f (a + 1) wid := by
  rcases h with h | h
  · have h6 := h.2.2.2.2.2
    rcases ER_pb (Or.inl h) (nI 0) with k | k
    · left
      refine ⟨k.1, k.2.1, k.2.2.1, k.2.2.2.1, fun ha i hi1 hi2 => ?_, fun i hi1 hi2 => h6 i (by omega) hi2⟩
      rw [k.2.2.2.2.1 ha i hi1 hi2]
      by_cases c : i = a + 1
      · rw [c, va_up_self, u8_0, h6 _ (by omega) (by omega)]
      · rw [va_up_ne _ _ c]
    · exact Or.inr k
  · exact Or.inr (OV_pb h _ (Nat.le_succ _))
theorem alI_ov {w : PW} (h : w.ov = true) (n hh : Nat) : ∀ k, alI n hh k w = w
  | 0 => rfl
  | k + 1 => by rw [alI, if_pos (Or.inr h)]
theorem ER_alI {n hh : Nat} (hn : pow8 n) {f : Nat → Nat} {wid : Nat} : ∀ (k a : Nat) (w : PW), ER w f a wid → (n - (a + hh) % n) % n ≤ k → ER (alI n hh k w) f (alN n a hh) wid := by
  intro k
  induction k with
  | zero =>
    intro a w h hk
    have : alN n a hh = a := by unfold alN; omega
    rw [this]; exact h
  | succ k ih =>
    intro a w h hk
    rcases h with h | h
    · by_cases c : (w.wr + hh) % n = 0
      · rw [alI, if_pos (Or.inl c)]
        have : alN n a hh = a := by
          unfold alN; rw [h.2.1] at c; rw [c, Nat.sub_zero, Nat.mod_self]; rfl
        rw [this]; exact Or.inl h
      · rw [alI, if_neg (fun z => z.elim c (fun z => by rw [h.1] at z; cases z))]
        rw [h.2.1] at c
        have e : alN n a hh = alN n (a + 1) hh := by
          unfold alN; rcases hn with rfl | rfl | rfl | rfl <;> omega
        rw [e]
        refine ih (a + 1) _ (ER_p0 (Or.inl h)) ?_
        rcases hn with rfl | rfl | rfl | rfl <;> omega
    · rw [alI_ov h.1]
      exact Or.inr ⟨h.1, h.2.1, Nat.lt_of_lt_of_le h.2.2 (alN_le _ _ _)⟩
theorem ER_al {n : Nat} (hn : pow8 n) {w : PW} {f : Nat → Nat} {a wid : Nat} (h : ER w f a wid) (hh : Nat) : ER (w.al n hh) f (alN n a hh) (max wid n) := by
  refine ER_alI hn n a _ ?_ ?_
  · rcases h with h | h
    · exact Or.inl ⟨h.1, h.2.1, h.2.2.1, by show max w.wid n = _; rw [h.2.2.2.1], h.2.2.2.2⟩
    · exact Or.inr h
  · rcases hn with rfl | rfl | rfl | rfl <;> omega
theorem u8_vM (v : Int64) (i : Nat) : u8 (vM v i) = vB v i := by
  unfold vM vB u8
  generalize v >>> ((nI (8 * i)).toInt64 &&& 63) = x
  rw [Int64.toBitVec_toInt32, Int64.toBitVec_toInt32, Int64.toBitVec_and]
  show (BitVec.signExtend 32 (x.toBitVec &&& 255#64)).toNat % 256 = (BitVec.signExtend 32 x.toBitVec).toNat % 256
  rw [BitVec.signExtend_eq_setWidth_of_le _ (by decide), BitVec.signExtend_eq_setWidth_of_le _ (by decide), BitVec.toNat_setWidth, BitVec.toNat_setWidth, BitVec.toNat_and]
  show (x.toBitVec.toNat &&& 255) % 2 ^ 32 % 256 = _
  rw [show (255 : Nat) = 2 ^ 8 - 1 from rfl, Nat.and_two_pow_sub_one_eq_mod]
  omega
theorem ER_pnI {w : PW} {f : Nat → Nat} {a wid : Nat} (h : ER w f a wid) (v : Int64) (n : Nat) : ∀ i, ER (pnI w v n i) (wNr f a v n i) (a + i) wid
  | 0 => h
  | i + 1 => by
    have := ER_pb (ER_pnI h v n i) (vM v (n - i - 1))
    rw [u8_vM] at this
    exact this
theorem ER_pn {n : Nat} (hn : pow8 n) {w : PW} {f : Nat → Nat} {a wid : Nat} (h : ER w f a wid) (v : Int64) : ER (w.pn v n) (wN f a v n) (alN n a 0 + n) (max wid n) := ER_pnI (ER_al hn h 0) v n n
theorem ER_te {w : PW} {f : Nat → Nat} {a wid : Nat} (h : ER w f a wid) (q : SR) (c : Nat) : ∀ i, ER (teI q c w i) (txB f a (q.rLen c) q.rItm c i) (a + i) wid
  | 0 => h
  | i + 1 => ER_pb (ER_te h q c i) _
theorem p8_4 : pow8 4 := Or.inr (Or.inr (Or.inl rfl))
theorem p8_2 : pow8 2 := Or.inr (Or.inl rfl)
theorem ER_nr {w : PW} {f : Nat → Nat} {a wid : Nat} (h : ER w f a wid) (h2 : 2 ≤ wid) (val : Nat → Int64) (n : Nat) : ∀ i, ER (nrM val n w i) (nrS val n f a i).1 (nrS val n f a i).2 wid
  | 0 => h
  | i + 1 => by
    have := ER_pn p8_2 (ER_nr h h2 val n i) (val (n - i - 1))
    rw [Nat.max_eq_left h2] at this
    exact this
theorem ER_tx {w : PW} {b : BS} (q : SR) (c : Nat) (h : ER w b.byt b.wrt b.wid) : ER (txM q c w) (txP q c b).byt (txP q c b).wrt (txP q c b).wid :=
  ER_pn p8_4 (ER_te (ER_pb (ER_al p8_4 h (q.rLen c + 1)) (nI 0)) q c (q.rLen c)) (nI (q.rLen c)).toInt64
theorem ER_rw {w : PW} {b : BS} (q : SR) (c : Nat) (h : ER w b.byt b.wrt b.wid) : ER (rwM q c w) (rwP q c b).byt (rwP q c b).wrt (rwP q c b).wid :=
  ER_pn p8_4 (ER_nr (ER_al p8_4 h (2 * q.rLen c)) (Nat.le_trans (by decide) (Nat.le_max_right _ _)) (rwV q c) (q.rLen c) (q.rLen c)) (nI (q.rLen c)).toInt64
/-! a record's table, by the model -/
abbrev MF : Type := PW × (Nat → Nat)
/-- one field; pl, th: the places of the records and of the contents -/
def bfS (q : SR) (pl th : Nat → Nat) (r f : Nat) (x : MF) : MF :=
  if q.rFil (r * 6 + f) = false then (x.1, va_up x.2 f 0)
  else if 4 ≤ q.sKind (q.rTab r * 6 + f) then
    (((x.1.al 4 0).pn (nI ((x.1.al 4 0).wr + 4) - nI (if q.sKind (q.rTab r * 6 + f) = 6 then pl (q.rLnk (r * 6 + f)) else th (r * 6 + f))).toInt64 4), va_up (va_up x.2 f 0) f ((x.1.al 4 0).pn (nI ((x.1.al 4 0).wr + 4) - nI (if q.sKind (q.rTab r * 6 + f) = 6 then pl (q.rLnk (r * 6 + f)) else th (r * 6 + f))).toInt64 4).wr)
  else if q.rNum (r * 6 + f) = (q.sExt (q.rTab r * 6 + f)).toInt64 then (x.1, va_up x.2 f 0)
  else (x.1.pn (q.rNum (r * 6 + f)) (kWd (q.sKind (q.rTab r * 6 + f))), va_up (va_up x.2 f 0) f (x.1.pn (q.rNum (r * 6 + f)) (kWd (q.sKind (q.rTab r * 6 + f)))).wr)
theorem bfS_0 {q : SR} {pl th : Nat → Nat} {r f : Nat} {x : MF} (h : q.rFil (r * 6 + f) = false) : bfS q pl th r f x = (x.1, va_up x.2 f 0) := by rw [bfS, if_pos h]
theorem bfS_4 {q : SR} {pl th : Nat → Nat} {r f : Nat} {x : MF} (h : q.rFil (r * 6 + f) = true) (h4 : ¬ q.sKind (q.rTab r * 6 + f) < 4) {z : Nat} (hz : (if q.sKind (q.rTab r * 6 + f) = 6 then pl (q.rLnk (r * 6 + f)) else th (r * 6 + f)) = z) : bfS q pl th r f x = (((x.1.al 4 0).pn (nI ((x.1.al 4 0).wr + 4) - nI z).toInt64 4), va_up (va_up x.2 f 0) f ((x.1.al 4 0).pn (nI ((x.1.al 4 0).wr + 4) - nI z).toInt64 4).wr) := by rw [bfS, if_neg (by rw [h]; simp), if_pos (by omega), hz]
theorem bfS_d {q : SR} {pl th : Nat → Nat} {r f : Nat} {x : MF} (h : q.rFil (r * 6 + f) = true) (h4 : q.sKind (q.rTab r * 6 + f) < 4) (hd : q.rNum (r * 6 + f) = (q.sExt (q.rTab r * 6 + f)).toInt64) : bfS q pl th r f x = (x.1, va_up x.2 f 0) := by rw [bfS, if_neg (by rw [h]; simp), if_neg (by omega), if_pos hd]
theorem bfS_n {q : SR} {pl th : Nat → Nat} {r f : Nat} {x : MF} (h : q.rFil (r * 6 + f) = true) (h4 : q.sKind (q.rTab r * 6 + f) < 4) (hd : ¬ q.rNum (r * 6 + f) = (q.sExt (q.rTab r * 6 + f)).toInt64) : bfS q pl th r f x = (x.1.pn (q.rNum (r * 6 + f)) (kWd (q.sKind (q.rTab r * 6 + f))), va_up (va_up x.2 f 0) f (x.1.pn (q.rNum (r * 6 + f)) (kWd (q.sKind (q.rTab r * 6 + f)))).wr) := by rw [bfS, if_neg (by rw [h]; simp), if_neg (by omega), if_neg hd]
def bfR (q : SR) (pl th : Nat → Nat) (r : Nat) (x : MF) : Nat → MF
  | 0 => x
  | f + 1 => bfS q pl th r f (bfR q pl th r x f)
theorem al_pos (w : PW) (v : Int64) {n : Nat} (h : W250 w) (hn : 0 < n) : 0 < (w.pn v n).wr := by
  have k := Kp_pnI (Kp_al h n 0).1 v n
  have e : ∃ j, n = j + 1 := ⟨n - 1, by omega⟩
  obtain ⟨j, e⟩ := e
  show 0 < (pnI (w.al n 0) v n n).wr
  rw [show pnI (w.al n 0) v n n = pnI (w.al n 0) v n (j + 1) by rw [← e]]
  show 0 < ((pnI (w.al n 0) v n j).pb _).wr
  unfold PW.pb
  split
  · rename_i e; show 0 < (pnI (w.al n 0) v n j).wr; omega
  · exact Nat.succ_pos _
/-- fields put so far: bytes stay, spots are known -/
abbrev KF (x : MF) (f : Nat) (y : MF) : Prop := Kp x.1 y.1 ∧ (∀ k, k ≠ f → y.2 k = x.2 k) ∧ y.2 f ≤ y.1.wr
theorem bfS_k {q : SR} (hq : SOK q) {pl th : Nat → Nat} {r f : Nat} {x : MF} (h : W250 x.1) : KF x f (bfS q pl th r f x) := by
  have z : KF x f (x.1, va_up x.2 f 0) := ⟨Kp.rf h, fun k hk => va_up_ne _ _ hk, by show va_up x.2 f 0 f ≤ _; rw [va_up_self]; exact Nat.zero_le _⟩
  have g : ∀ w, Kp x.1 w → KF x f (w, va_up (va_up x.2 f 0) f w.wr) := fun w hw => ⟨hw, fun k hk => (va_up_ne _ _ hk).trans (va_up_ne _ _ hk), by show va_up (va_up x.2 f 0) f w.wr f ≤ _; rw [va_up_self]; exact Nat.le_refl _⟩
  unfold bfS
  split
  · exact z
  · split
    · exact g _ ((Kp_al h 4 0).tr (Kp_pn (Kp_al h 4 0).1 _ _))
    · split
      · exact z
      · exact g _ (Kp_pn h _ _)
theorem bfR_k {q : SR} (hq : SOK q) {pl th : Nat → Nat} {r : Nat} {x : MF} (h : W250 x.1) : ∀ n, Kp x.1 (bfR q pl th r x n).1 ∧ ∀ k, k < n → (bfR q pl th r x n).2 k ≤ (bfR q pl th r x n).1.wr := by
  intro n
  induction n with
  | zero => exact ⟨Kp.rf h, fun k hk => absurd hk (Nat.not_lt_zero _)⟩
  | succ n ih =>
    have k := bfS_k hq (pl := pl) (th := th) (r := r) (f := n) (x := bfR q pl th r x n) ih.1.1
    refine ⟨ih.1.tr k.1, fun j hj => ?_⟩
    show (bfS q pl th r n (bfR q pl th r x n)).2 j ≤ (bfS q pl th r n (bfR q pl th r x n)).1.wr
    by_cases c : j = n
    · rw [c]; exact k.2.2
    · rw [k.2.1 j c]; exact Nat.le_trans (ih.2 j (by omega)) k.1.2.1
theorem tdR_up {sp : Nat → Nat} {f v : Nat} : ∀ n, n ≤ f → tdR (va_up sp f v) n = tdR sp n
  | 0, _ => rfl
  | n + 1, h => by rw [tdR, tdR, tdR_up n (by omega), va_up_ne _ _ (by omega)]
theorem ER_pr {w : PW} {b : BS} (h : PR w b.byt b.wrt b.wid) (z : Nat) : ER ((w.al 4 0).pn (nI ((w.al 4 0).wr + 4) - nI z).toInt64 4) (b.pr z).byt (b.pr z).wrt (b.pr z).wid := by
  show ER _ (wN b.byt (alN 4 b.wrt 0) (nI (alN 4 b.wrt 0 + 4) - nI z).toInt64 4) (alN 4 (alN 4 b.wrt 0) 0 + 4) (max (max b.wid 4) 4)
  have g1 := ER_al p8_4 (Or.inl h) 0
  generalize w.al 4 0 = y at g1 ⊢
  rcases g1 with g1 | g1
  · rw [g1.2.1]; exact ER_pn p8_4 (Or.inl g1) _
  · have gw : W250 y := ⟨by rw [g1.2.1]; exact Nat.le_refl _, fun _ => g1.2.1⟩
    have k1 := Kp_pn gw (nI (y.wr + 4) - nI z).toInt64 4
    have k2 := k1.2.2.2.1 g1.1
    have k3 := alN_le 4 (alN 4 b.wrt 0) 0
    have k4 := g1.2.2
    exact Or.inr ⟨k2, k1.1.2 k2, by omega⟩
/-- the same, of both -/
theorem bfS_er {q : SR} (hq : SOK q) {pl th : Nat → Nat} {r f : Nat} {x : MF} {b : BS} (hr : r < 16) (hf : f < 6) (hpl : ∀ k, k < 16 → pl k = b.rcp k) (hth : q.rFil (r * 6 + f) = true → ¬ q.sKind (q.rTab r * 6 + f) < 4 → ¬ q.sKind (q.rTab r * 6 + f) = 6 → th (r * 6 + f) = b.itm (r * 6 + f)) (h : PR x.1 b.byt b.wrt b.wid) (hsp : ∀ k, k < f → x.2 k = b.fld k) : ER (bfS q pl th r f x).1 (pfS q r f b).byt (pfS q r f b).wrt (pfS q r f b).wid ∧ ((bfS q pl th r f x).1.ov = false → ∀ k, k < f + 1 → (bfS q pl th r f x).2 k = (pfS q r f b).fld k) := by
  have e0 : ∀ v k, k < f + 1 → va_up x.2 f v k = va_up b.fld f v k := fun v k hk => by
    by_cases c : k = f
    · rw [c, va_up_self, va_up_self]
    · rw [va_up_ne _ _ c, va_up_ne _ _ c]; exact hsp k (by omega)
  have e1 : ∀ v k, k < f + 1 → va_up (va_up x.2 f 0) f v k = va_up (va_up b.fld f 0) f v k := fun v k hk => by
    by_cases c : k = f
    · rw [c, va_up_self, va_up_self]
    · rw [va_up_ne _ _ c, va_up_ne _ _ c, va_up_ne _ _ c, va_up_ne _ _ c]; exact hsp k (by omega)
  by_cases c0 : q.rFil (r * 6 + f) = false
  · rw [bfS_0 c0, pfS_0 c0]; exact ⟨Or.inl h, fun _ => e0 0⟩
  · have c0' : q.rFil (r * 6 + f) = true := by simpa using c0
    by_cases c4 : q.sKind (q.rTab r * 6 + f) < 4
    · by_cases cd : q.rNum (r * 6 + f) = (q.sExt (q.rTab r * 6 + f)).toInt64
      · rw [bfS_d c0' c4 cd, pfS_d c0' (by omega) cd]; exact ⟨Or.inl h, fun _ => e0 0⟩
      · rw [bfS_n c0' c4 cd, pfS_n c0' (by omega) cd]
        have g := ER_pn (kWd_pow _ (hq.hk (q.rTab r * 6 + f))) (Or.inl h) (q.rNum (r * 6 + f))
        refine ⟨g, fun ho k hk => ?_⟩
        rcases g with g | g
        · show va_up (va_up x.2 f 0) f _ k = va_up (va_up b.fld f 0) f _ k
          rw [g.2.1]; exact e1 _ k hk
        · have ho' : (x.1.pn (q.rNum (r * 6 + f)) (kWd (q.sKind (q.rTab r * 6 + f)))).ov = false := ho
          rw [g.1] at ho'; cases ho'
    · have hz : (if q.sKind (q.rTab r * 6 + f) = 6 then pl (q.rLnk (r * 6 + f)) else th (r * 6 + f)) = (if q.sKind (q.rTab r * 6 + f) = 6 then b.rcp (q.rLnk (r * 6 + f)) else b.itm (r * 6 + f)) := by
        split
        · exact hpl _ (hq.hl _)
        · rename_i c6; exact hth c0' c4 c6
      have ep : pfS q r f b = ((b.sf f 0).pr (if q.sKind (q.rTab r * 6 + f) = 6 then b.rcp (q.rLnk (r * 6 + f)) else b.itm (r * 6 + f))).sf f (alN 4 (alN 4 b.wrt 0) 0 + 4) := by rw [pfS, if_neg c0, if_pos (by omega)]
      rw [bfS_4 c0' c4 hz, ep]
      generalize (if q.sKind (q.rTab r * 6 + f) = 6 then b.rcp (q.rLnk (r * 6 + f)) else b.itm (r * 6 + f)) = z
      have g := ER_pr h z
      have q1 : ∀ v, (((b.sf f 0).pr z).sf f v).byt = (b.pr z).byt := fun _ => rfl
      have q2 : ∀ v, (((b.sf f 0).pr z).sf f v).wrt = (b.pr z).wrt := fun _ => rfl
      have q3 : ∀ v, (((b.sf f 0).pr z).sf f v).wid = (b.pr z).wid := fun _ => rfl
      rw [q1, q2, q3]
      refine ⟨g, fun ho k hk => ?_⟩
      have ho' : ((x.1.al 4 0).pn (nI ((x.1.al 4 0).wr + 4) - nI z).toInt64 4).ov = false := ho
      generalize ((x.1.al 4 0).pn (nI ((x.1.al 4 0).wr + 4) - nI z).toInt64 4) = y at g ho' ⊢
      rcases g with g | g
      · show va_up (va_up x.2 f 0) f y.wr k = va_up (va_up b.fld f 0) f (b.pr z).wrt k
        rw [g.2.1]; exact e1 _ k hk
      · rw [g.1] at ho'; cases ho'
/-- all fields -/
theorem bfR_er {q : SR} (hq : SOK q) {pl th : Nat → Nat} {r : Nat} {x : MF} {b : BS} (hr : r < 16) (hpl : ∀ k, k < 16 → pl k = b.rcp k) (h : PR x.1 b.byt b.wrt b.wid) : ∀ n, n ≤ 6 → (∀ f, f < n → q.rFil (r * 6 + f) = true → ¬ q.sKind (q.rTab r * 6 + f) < 4 → ¬ q.sKind (q.rTab r * 6 + f) = 6 → th (r * 6 + f) = b.itm (r * 6 + f)) → ER (bfR q pl th r x n).1 (pfR q r b n).byt (pfR q r b n).wrt (pfR q r b n).wid ∧ ((bfR q pl th r x n).1.ov = false → ∀ k, k < n → (bfR q pl th r x n).2 k = (pfR q r b n).fld k) := by
  intro n
  induction n with
  | zero => intro _ _; exact ⟨Or.inl h, fun _ k hk => absurd hk (Nat.not_lt_zero _)⟩
  | succ n ih =>
    intro hn hth
    obtain ⟨i1, i2⟩ := ih (by omega) (fun f hf => hth f (by omega))
    obtain ⟨s1, s2, s3, s4, s5⟩ := pfR_same q r b n
    rcases i1 with i1 | i1
    · exact bfS_er hq hr (by omega) (fun k hk => by rw [s1]; exact hpl k hk) (fun a1 a2 a3 => by rw [s2]; exact hth n (by omega) a1 a2 a3) i1 (i2 i1.1)
    · have gw : W250 (bfR q pl th r x n).1 := ⟨by rw [i1.2.1]; exact Nat.le_refl _, fun _ => i1.2.1⟩
      have k := bfS_k hq (pl := pl) (th := th) (r := r) (f := n) (x := bfR q pl th r x n) gw
      have k2 := k.1.2.2.2.1 i1.1
      have g := pfS_g hq r n (pfR q r b n)
      exact ⟨Or.inr ⟨k2, k.1.1.2 k2, Nat.lt_of_lt_of_le i1.2.2 g.lo⟩, fun ho => by
        have ho' : (bfS q pl th r n (bfR q pl th r x n)).1.ov = false := ho
        rw [k2] at ho'; cases ho'⟩
/-! the shared offsets, by the model -/
def wdM (sp : Nat → Nat) (td tp bw k : Nat) : Nat := if k = 0 then 2 * (td + 2) else if k = 1 then tp - bw else if sp (k - 2) = 0 then 0 else tp - sp (k - 2)
def rwd (row : Nat → Nat) (s k : Nat) : Nat := row (s - 2 * k) + 256 * row (s - 2 * k - 1)
def smM (row sp : Nat → Nat) (s td tp bw : Nat) : Nat → Bool
  | 0 => true
  | k + 1 => smM row sp s td tp bw k && decide (rwd row s k = wdM sp td tp bw k)
theorem smM_no {row sp : Nat → Nat} {s td tp bw k : Nat} (h : ¬ rwd row s k = wdM sp td tp bw k) : ∀ n, k < n → smM row sp s td tp bw n = false := by
  intro n
  induction n with
  | zero => intro h; omega
  | succ n ih =>
    intro hk
    by_cases e : k = n
    · subst e; simp [smM, h]
    · simp [smM, ih (by omega)]
def fsM (row sp sh : Nat → Nat) (td tp bw : Nat) : Nat → Nat
  | 0 => 0
  | n + 1 => if fsM row sp sh td tp bw n < n then fsM row sp sh td tp bw n else if smM row sp (sh n) td tp bw (td + 2) = true then n else n + 1
theorem fsM_le (row sp sh : Nat → Nat) (td tp bw n : Nat) : fsM row sp sh td tp bw n ≤ n := by
  induction n with
  | zero => exact Nat.le_refl _
  | succ n ih => simp only [fsM]; split <;> (try split) <;> omega
theorem fsM_no {row sp sh : Nat → Nat} {td tp bw n : Nat} (h : fsM row sp sh td tp bw n = n) (h2 : smM row sp (sh n) td tp bw (td + 2) = false) : fsM row sp sh td tp bw (n + 1) = n + 1 := by
  rw [fsM, if_neg (by omega), if_neg (by simp [h2])]
theorem fsM_yes {row sp sh : Nat → Nat} {td tp bw i : Nat} (h : fsM row sp sh td tp bw i = i) (h2 : smM row sp (sh i) td tp bw (td + 2) = true) : ∀ n, i < n → fsM row sp sh td tp bw n = i := by
  intro n
  induction n with
  | zero => intro h; omega
  | succ n ih =>
    intro hn
    by_cases e : i = n
    · subst e; rw [fsM, if_neg (by omega), if_pos h2]
    · rw [fsM, if_pos (by rw [ih (by omega)]; omega), ih (by omega)]
def woV (sp : Nat → Nat) (td tp bw : Nat) : Nat → Int64 := fun k => (nI (wdM sp td tp bw k)).toInt64
abbrev MB : Type := PW × (Nat → Nat) × (Nat → Nat) × (Nat → Nat) × (Nat → Nat) × Nat
abbrev MB.mk (w : PW) (pl th sp sh : Nat → Nat) (shs : Nat) : MB := (w, pl, th, sp, sh, shs)
abbrev MB.w (m : MB) : PW := m.1
abbrev MB.pl (m : MB) : Nat → Nat := m.2.1
abbrev MB.th (m : MB) : Nat → Nat := m.2.2.1
abbrev MB.sp (m : MB) : Nat → Nat := m.2.2.2.1
abbrev MB.sh (m : MB) : Nat → Nat := m.2.2.2.2.1
abbrev MB.shs (m : MB) : Nat := m.2.2.2.2.2
/-- the words put, where no shared ones are alike -/
def ofM (w : PW) (sp sh : Nat → Nat) (shs td tp bw : Nat) : PW := if fsM w.row sp sh td tp bw shs < shs then w else nrM (woV sp td tp bw) (td + 2) w (td + 2)
def ofV (w : PW) (sp sh : Nat → Nat) (shs td tp bw : Nat) : Nat := if fsM w.row sp sh td tp bw shs < shs then sh (fsM w.row sp sh td tp bw shs) else (ofM w sp sh shs td tp bw).wr
def ofS (w : PW) (sp sh : Nat → Nat) (shs td tp bw : Nat) : Nat → Nat := if fsM w.row sp sh td tp bw shs < shs then sh else va_up sh shs (ofM w sp sh shs td tp bw).wr
def ofN (w : PW) (sp sh : Nat → Nat) (shs td tp bw : Nat) : Nat := if fsM w.row sp sh td tp bw shs < shs then shs else shs + 1
def bdX (q : SR) (r : Nat) (m : MB) : MF := bfR q m.pl m.th r (m.w, m.sp) (q.sLen (q.rTab r))
def bdW (q : SR) (r : Nat) (m : MB) : PW := (bdX q r m).1.pn 0 4
def bdT (q : SR) (r : Nat) (m : MB) : Nat := tdR (bdX q r m).2 (q.sLen (q.rTab r))
def flW (w : PW) (tp : Nat) (v : Int32) : PW := if w.ov = true then w else PW.mk (flR w.row tp v 4) w.wr w.wid w.ov
def bdM (q : SR) (r : Nat) (m : MB) : MB :=
  MB.mk (flW (ofM (bdW q r m) (bdX q r m).2 m.sh m.shs (bdT q r m) (bdW q r m).wr m.w.wr) (bdW q r m).wr (nI (ofV (bdW q r m) (bdX q r m).2 m.sh m.shs (bdT q r m) (bdW q r m).wr m.w.wr) - nI (bdW q r m).wr)) (va_up m.pl r (bdW q r m).wr) m.th (bdX q r m).2 (ofS (bdW q r m) (bdX q r m).2 m.sh m.shs (bdT q r m) (bdW q r m).wr m.w.wr) (ofN (bdW q r m) (bdX q r m).2 m.sh m.shs (bdT q r m) (bdW q r m).wr m.w.wr)
/-- the class's tail of a record -/
def bdB (q : SR) (r : Nat) (b : BS) : BS := pr6 ((pfR q r b (q.sLen (q.rTab r))).pn 0 4).wrt (nI (plD (pr4 q r b.wrt ((pfR q r b (q.sLen (q.rTab r))).pn 0 4))) - nI ((pfR q r b (q.sLen (q.rTab r))).pn 0 4).wrt) (pdP (pr4 q r b.wrt ((pfR q r b (q.sLen (q.rTab r))).pn 0 4)))
/-- the shared offsets of both -/
abbrev SHR (row : Nat → Nat) (wr : Nat) (sh : Nat → Nat) (off ofp : Nat → Nat) (kept : Nat) : Prop := ∀ s, s < kept → sh s = ofp s ∧ off (s * 8) = 2 * (off (s * 8) / 2) ∧ 2 ≤ off (s * 8) / 2 ∧ off (s * 8) / 2 ≤ 8 ∧ off (s * 8) ≤ sh s ∧ sh s ≤ wr ∧ ∀ k, k < off (s * 8) / 2 → rwd row (sh s) k = off (s * 8 + k)
abbrev RM (m : MB) (b : BS) : Prop := PR m.w b.byt b.wrt b.wid ∧ 4 ≤ b.wid ∧ (∀ k, k < 16 → m.pl k = b.rcp k) ∧ m.shs = b.kept ∧ SHR m.w.row m.w.wr m.sh b.off b.ofp b.kept
theorem SHR_kp {row row' : Nat → Nat} {wr wr' : Nat} {sh off ofp : Nat → Nat} {kept : Nat} (h : SHR row wr sh off ofp kept) (hw : wr ≤ wr') (hr : ∀ i, i ≤ wr → row' i = row i) : SHR row' wr' sh off ofp kept := by
  intro s hs
  obtain ⟨h1, h2, h3, h4, h5, h6, h7⟩ := h s hs
  refine ⟨h1, h2, h3, h4, h5, by omega, fun k hk => ?_⟩
  rw [← h7 k hk, rwd, rwd, hr _ (by omega), hr _ (by omega)]
theorem drR_far {off : Nat → Nat} {dr : Nat} {fld : Nat → Nat} {pl : Nat} : ∀ (n j : Nat), j < dr + 2 → drR off dr fld pl n j = off j
  | 0, _, _ => rfl
  | n + 1, j, h => by rw [drR, va_up_ne _ _ (by omega), drR_far n j h]
theorem drR_at {off : Nat → Nat} {dr : Nat} {fld : Nat → Nat} {pl : Nat} : ∀ (n f : Nat), f < n → drR off dr fld pl n (dr + 2 + f) = if fld f = 0 then 0 else pl - fld f
  | 0, f, h => absurd h (Nat.not_lt_zero _)
  | n + 1, f, h => by
    rw [drR]
    by_cases c : f = n
    · rw [c, va_up_self]
    · rw [va_up_ne _ _ (by omega), drR_at n f (by omega)]
theorem drP_far {off : Nat → Nat} {dr : Nat} {fld : Nat → Nat} {n bw tp j : Nat} (h : j < dr) : drP off dr fld n bw tp j = off j := by
  rw [drP, va_up_ne _ _ (by omega), va_up_ne _ _ (by omega), drR_far n j (by omega)]
theorem drP_wd {off : Nat → Nat} {dr : Nat} {fld : Nat → Nat} {n bw tp k : Nat} (h : k < n + 2) : drP off dr fld n bw tp (dr + k) = wdM fld (tdR fld n) tp bw k := by
  unfold wdM
  split
  · rename_i c; rw [c, Nat.add_zero, drP_0]; omega
  · split
    · rename_i c; rw [c, drP, va_up_self]
    · rename_i c0 c1
      rw [drP, va_up_ne _ _ (by omega), va_up_ne _ _ (by omega), show dr + k = dr + 2 + (k - 2) by omega, drR_at n (k - 2) (by omega)]
theorem tdR_congr {f g : Nat → Nat} : ∀ n, (∀ k, k < n → f k = g k) → tdR f n = tdR g n
  | 0, _ => rfl
  | n + 1, h => by rw [tdR, tdR, tdR_congr n (fun k hk => h k (by omega)), h n (by omega)]
theorem wdM_congr {f g : Nat → Nat} {td tp bw n k : Nat} (h : ∀ k, k < n → f k = g k) (hk : k < n + 2) : wdM f td tp bw k = wdM g td tp bw k := by
  unfold wdM
  split
  · rfl
  · split
    · rfl
    · rw [h (k - 2) (by omega)]
theorem smM_eq {row sp off : Nat → Nat} {s a d td tp bw n : Nat} (hw : ∀ k, k < n → off (d + k) = wdM sp td tp bw k) (hr : ∀ k, k < n → rwd row s k = off (a + k)) : ∀ k, k ≤ n → smM row sp s td tp bw k = smA off a d k := by
  intro k
  induction k with
  | zero => intro _; rfl
  | succ k ih =>
    intro hk
    rw [smM, smA, ih (by omega), hr k (by omega), hw k (by omega)]
theorem fsM_eq {row sp sh off ofp : Nat → Nat} {wr td tp bw kept : Nat} (h : SHR row wr sh off ofp kept) (hd : off (kept * 8) = 2 * (2 + td)) (hw : ∀ k, k < td + 2 → off (kept * 8 + k) = wdM sp td tp bw k) : ∀ n, n ≤ kept → fsM row sp sh td tp bw n = fsR off kept n := by
  intro n
  induction n with
  | zero => intro _; rfl
  | succ n ih =>
    intro hn
    have e : smM row sp (sh n) td tp bw (td + 2) = smP off kept n := by
      obtain ⟨h1, h2, h3, h4, h5, h6, h7⟩ := h n (by omega)
      have hd2 : off (kept * 8) / 2 = td + 2 := by omega
      unfold smP
      rw [hd2]
      by_cases c : off (n * 8) / 2 = td + 2
      · exact smM_eq hw (fun k hk => h7 k (by omega)) _ (Nat.le_refl _)
      · have h70 := h7 0 (by omega)
        have hw0 := hw 0 (by omega)
        rw [smM_no (k := 0) (by rw [h70, ← hw0, Nat.add_zero, Nat.add_zero, hd]; omega) _ (by omega)]
        exact (smA_no (k := 0) (by rw [Nat.add_zero, Nat.add_zero, hd]; omega) _ (by omega)).symm
    rw [fsM, fsR, ih (by omega), e]
theorem nrM_congr {v v' : Nat → Int64} {n : Nat} (h : ∀ k, k < n → v k = v' k) (w : PW) : ∀ i, i ≤ n → nrM v n w i = nrM v' n w i
  | 0, _ => rfl
  | i + 1, hi => by rw [nrM, nrM, nrM_congr h w i (by omega), h _ (by omega)]
theorem pb_no {w : PW} {v : Int32} (h : (w.pb v).ov = false) : w.pb v = PW.mk (va_up w.row (w.wr + 1) (u8 v)) (w.wr + 1) w.wid w.ov := by
  unfold PW.pb at h ⊢
  split at h
  · cases h
  · rename_i c; rw [if_neg c]
theorem PR_self {w : PW} (h : W250 w) (ho : w.ov = false) : PR w (fun i => if i ≤ w.wr then w.row i else 0) w.wr w.wid := ⟨ho, rfl, h.1, rfl, fun _ i _ hi => (if_pos hi).symm, fun i hi _ => if_neg (by omega)⟩
theorem pn2_no {w : PW} {v : Int64} (hw : W250 w) (h : (w.pn v 2).ov = false) : w.ov = false ∧ (w.pn v 2).wr = alN 2 w.wr 0 + 2 ∧ (w.pn v 2).row (alN 2 w.wr 0 + 2) = vB v 0 ∧ (w.pn v 2).row (alN 2 w.wr 0 + 1) = vB v 1 ∧ ∀ i, i ≤ w.wr → (w.pn v 2).row i = w.row i := by
  have k0 := Kp_pn hw v 2
  have k1 := Kp_al hw 2 0
  have hov : w.ov = false := by
    cases c : w.ov with
    | false => rfl
    | true => rw [k0.2.2.2.1 c] at h; cases h
  have g := ER_al p8_2 (Or.inl (PR_self hw hov)) 0
  have e : w.pn v 2 = ((w.al 2 0).pb (vM v 1)).pb (vM v 0) := rfl
  refine ⟨hov, ?_⟩
  have k3 := k0.2.2.1
  rw [e] at h k3 ⊢
  generalize hy : w.al 2 0 = y at *
  have kp1 := Kp_pb k1.1 (vM v 1)
  have h1 : (y.pb (vM v 1)).ov = false := by
    cases c : (y.pb (vM v 1)).ov with
    | false => rfl
    | true => rw [(Kp_pb kp1.1 (vM v 0)).2.2.2.1 c] at h; cases h
  have hyo : y.ov = false := by
    cases c : y.ov with
    | false => rfl
    | true => rw [kp1.2.2.2.1 c] at h1; cases h1
  have hwr : y.wr = alN 2 w.wr 0 := by
    rcases g with g | g
    · exact g.2.1
    · rw [g.1] at hyo; cases hyo
  have e1 := pb_no h1
  have e2 := pb_no h
  refine ⟨?_, ?_, ?_, k3⟩
  · rw [e2, e1]; show y.wr + 1 + 1 = _; omega
  · rw [e2, e1]; show va_up (va_up y.row (y.wr + 1) (u8 (vM v 1))) (y.wr + 1 + 1) (u8 (vM v 0)) (alN 2 w.wr 0 + 2) = _
    rw [← hwr, va_up_self, u8_vM]
  · rw [e2, e1]; show va_up (va_up y.row (y.wr + 1) (u8 (vM v 1))) (y.wr + 1 + 1) (u8 (vM v 0)) (alN 2 w.wr 0 + 1) = _
    rw [← hwr, va_up_ne _ _ (by omega), va_up_self, u8_vM]
theorem alN2_ev {a : Nat} (h : a % 2 = 0) : alN 2 a 0 = a := by unfold alN; omega
theorem nrM_w {val : Nat → Int64} {n : Nat} {w : PW} (hw : W250 w) : ∀ i, (nrM val n w i).ov = false → (0 < i → (nrM val n w i).wr = alN 2 w.wr 0 + 2 * i) ∧ ∀ j, j < i → (nrM val n w i).row (alN 2 w.wr 0 + 2 * j + 2) = vB (val (n - j - 1)) 0 ∧ (nrM val n w i).row (alN 2 w.wr 0 + 2 * j + 1) = vB (val (n - j - 1)) 1 := by
  intro i
  induction i with
  | zero => intro _; exact ⟨fun h => absurd h (Nat.lt_irrefl _), fun j hj => absurd hj (Nat.not_lt_zero _)⟩
  | succ i ih =>
    intro h
    have kn := Kp_nr hw val n i
    obtain ⟨p1, p2, p3, p4, p5⟩ := pn2_no kn.1 (show ((nrM val n w i).pn (val (n - i - 1)) 2).ov = false from h)
    obtain ⟨i1, i2⟩ := ih p1
    have hA : alN 2 (nrM val n w i).wr 0 = alN 2 w.wr 0 + 2 * i := by
      cases i with
      | zero => rfl
      | succ i =>
        have := i1 (Nat.succ_pos _)
        rw [this]
        have h2 : alN 2 w.wr 0 % 2 = 0 := by unfold alN; omega
        rw [alN2_ev (by omega)]
    have hge := i1
    rw [hA] at p2 p3 p4
    refine ⟨fun _ => ?_, fun j hj => ?_⟩
    · show ((nrM val n w i).pn (val (n - i - 1)) 2).wr = _
      rw [p2]; omega
    · show ((nrM val n w i).pn (val (n - i - 1)) 2).row _ = _ ∧ ((nrM val n w i).pn (val (n - i - 1)) 2).row _ = _
      by_cases c : j = i
      · rw [c]; exact ⟨p3, p4⟩
      · have := i1 (by omega)
        rw [p5 _ (by omega), p5 _ (by omega)]
        exact i2 j (by omega)
theorem vB_16 {x : Nat} (h : x < 65536) : vB (nI x).toInt64 0 + 256 * vB (nI x).toInt64 1 = x := by
  have hb : (nI x).toInt64.toBitVec = BitVec.ofNat 64 x := by
    rw [Int32.toBitVec_toInt64]
    show BitVec.signExtend 64 (BitVec.ofNat 32 x) = _
    rw [BitVec.signExtend_eq_setWidth_of_msb_false (by rw [BitVec.msb_eq_decide, BitVec.toNat_ofNat]; simp; omega)]
    apply BitVec.eq_of_toNat_eq
    simp [BitVec.toNat_ofNat]
    omega
  have key : ∀ s : Int64, ∀ k : Nat, s.toBitVec.smod 64 = BitVec.ofNat 64 k → k < 64 → u8 (((nI x).toInt64 >>> s).toInt32) = (x >>> k) % 256 := by
    intro s k hs hk
    unfold u8
    rw [Int64.toBitVec_toInt32, Int64.toBitVec_shiftRight, hs, hb, BitVec.sshiftRight_eq', BitVec.sshiftRight_eq_of_msb_false (by rw [BitVec.msb_eq_decide, BitVec.toNat_ofNat]; simp; omega), BitVec.signExtend_eq_setWidth_of_le _ (by decide), BitVec.toNat_setWidth, BitVec.toNat_ushiftRight, BitVec.toNat_ofNat, BitVec.toNat_ofNat, Nat.mod_eq_of_lt (show x < 2 ^ 64 by omega), Nat.mod_eq_of_lt (show k < 2 ^ 64 by omega), Nat.shiftRight_eq_div_pow]
    have : x / 2 ^ k ≤ x := Nat.div_le_self _ _
    rw [Nat.mod_eq_of_lt (show x / 2 ^ k < 2 ^ 32 by omega)]
  unfold vB
  rw [key _ 0 (by decide) (by decide), key _ 8 (by decide) (by decide)]
  show (x >>> 0) % 256 + 256 * ((x >>> 8) % 256) = x
  rw [Nat.shiftRight_eq_div_pow, Nat.shiftRight_eq_div_pow]
  omega
/-! a record's table, of both -/
theorem flR_pt {f g : Nat → Nat} {p : Nat} {v : Int32} {i : Nat} (h : f i = g i) : ∀ n, flR f p v n i = flR g p v n i
  | 0 => h
  | n + 1 => by
    rw [flR, flR]
    by_cases c : i = p - n
    · rw [c, va_up_self, va_up_self]
    · rw [va_up_ne _ _ c, va_up_ne _ _ c]; exact flR_pt h n
theorem flR_far {f : Nat → Nat} {p : Nat} {v : Int32} {i : Nat} : ∀ n, n ≤ p + 1 → (p < i ∨ i + n ≤ p) → flR f p v n i = f i
  | 0, _, _ => rfl
  | n + 1, hn, h => by
    rw [flR, va_up_ne _ _ (by omega)]; exact flR_far n (by omega) (by omega)
theorem flW_ov (w : PW) (tp : Nat) (v : Int32) : (flW w tp v).ov = w.ov ∧ (flW w tp v).wr = w.wr ∧ (flW w tp v).wid = w.wid := by
  unfold flW; split <;> exact ⟨rfl, rfl, rfl⟩
theorem PR_fl {w : PW} {f : Nat → Nat} {a wid tp : Nat} (h : PR w f a wid) (v : Int32) (ht : tp ≤ a) (ht4 : 4 ≤ tp) : PR (flW w tp v) (if tp ≤ 240 then flR f tp v 4 else f) a wid := by
  have e : flW w tp v = PW.mk (flR w.row tp v 4) w.wr w.wid w.ov := by rw [flW, if_neg (by rw [h.1]; simp)]
  rw [e]
  refine ⟨h.1, h.2.1, h.2.2.1, h.2.2.2.1, fun ha i h1 h2 => ?_, fun i h1 h2 => ?_⟩
  · rw [if_pos (by omega)]
    exact flR_pt (h.2.2.2.2.1 ha i h1 h2) 4
  · split
    · rw [flR_far 4 (by omega) (by omega)]; exact h.2.2.2.2.2 i h1 h2
    · exact h.2.2.2.2.2 i h1 h2
/-- what the class's tail is made of -/
theorem bdB_m {q : SR} (hq : SOK q) (r : Nat) (b : BS) : b.wrt ≤ (bdB q r b).wrt ∧ (bdB q r b).itm = b.itm := by
  have g := (pfR_g hq r b (q.sLen (q.rTab r))).lo
  obtain ⟨s1, s2, s3, s4, s5⟩ := pfR_same q r b (q.sLen (q.rTab r))
  unfold bdB
  generalize pfR q r b (q.sLen (q.rTab r)) = b2 at *
  have h1 := alN_le 4 b2.wrt 0
  show b.wrt ≤ (pdP (pr4 q r b.wrt (b2.pn 0 4))).wrt ∧ (pdP (pr4 q r b.wrt (b2.pn 0 4))).itm = b.itm
  have h2 : b.wrt ≤ (pr4 q r b.wrt (b2.pn 0 4)).wrt := by show b.wrt ≤ alN 4 b2.wrt 0 + 4; omega
  have h3 : (pr4 q r b.wrt (b2.pn 0 4)).itm = b.itm := s2
  generalize pr4 q r b.wrt (b2.pn 0 4) = b4 at *
  unfold pdP
  split
  · exact ⟨h2, h3⟩
  · exact ⟨Nat.le_trans h2 (nrS_le _ _ _ _ _).1, h3⟩
theorem bdM_k {q : SR} (hq : SOK q) (r : Nat) {m : MB} (h : W250 m.w) : W250 (bdM q r m).w ∧ m.w.wr ≤ (bdM q r m).w.wr ∧ (m.w.ov = true → (bdM q r m).w.ov = true) ∧ ((bdW q r m).ov = true → (bdM q r m).w.ov = true) ∧ Kp m.w (bdX q r m).1 ∧ Kp m.w (bdW q r m) ∧ m.w.wid ≤ (bdM q r m).w.wid := by
  have k1 := (bfR_k hq (pl := m.pl) (th := m.th) (r := r) (x := (m.w, m.sp)) h (q.sLen (q.rTab r))).1
  have k2 : Kp m.w (bdW q r m) := k1.tr (Kp_pn k1.1 0 4)
  have k3 : Kp (bdW q r m) (ofM (bdW q r m) (bdX q r m).2 m.sh m.shs (bdT q r m) (bdW q r m).wr m.w.wr) := by
    unfold ofM; split
    · exact Kp.rf k2.1
    · exact Kp_nr k2.1 _ _ _
  have e := flW_ov (ofM (bdW q r m) (bdX q r m).2 m.sh m.shs (bdT q r m) (bdW q r m).wr m.w.wr) (bdW q r m).wr (nI (ofV (bdW q r m) (bdX q r m).2 m.sh m.shs (bdT q r m) (bdW q r m).wr m.w.wr) - nI (bdW q r m).wr)
  have k4 := k2.tr k3
  show W250 (flW _ _ _) ∧ m.w.wr ≤ (flW _ _ _).wr ∧ (m.w.ov = true → (flW _ _ _).ov = true) ∧ ((bdW q r m).ov = true → (flW _ _ _).ov = true) ∧ _
  refine ⟨⟨by rw [e.2.1]; exact k4.1.1, fun z => by rw [e.2.1]; rw [e.1] at z; exact k4.1.2 z⟩, by rw [e.2.1]; exact k4.2.1, fun z => by rw [e.1]; exact k4.2.2.2.1 z, fun z => by rw [e.1]; exact k3.2.2.2.1 z, k1, k2, ?_⟩
  show m.w.wid ≤ (flW _ _ _).wid
  rw [e.2.2]; exact k4.2.2.2.2
theorem RM_bd {q : SR} (hq : SOK q) {r : Nat} {m : MB} {b : BS} (hr : r < 16) (h : RM m b) (hth : ∀ f, f < q.sLen (q.rTab r) → q.rFil (r * 6 + f) = true → ¬ q.sKind (q.rTab r * 6 + f) < 4 → ¬ q.sKind (q.rTab r * 6 + f) = 6 → m.th (r * 6 + f) = b.itm (r * 6 + f)) : RM (bdM q r m) (bdB q r b) ∨ OV (bdM q r m).w (bdB q r b).wrt := by
  obtain ⟨hP, h4, hpl, hsh, hS⟩ := h
  have hn : q.sLen (q.rTab r) ≤ 6 := hq.hL _
  have hw : W250 m.w := ER.w (Or.inl hP)
  obtain ⟨x1, x2⟩ := bfR_er hq (pl := m.pl) (th := m.th) (r := r) (x := (m.w, m.sp)) hr hpl hP (q.sLen (q.rTab r)) hn hth
  have hsp := (bfR_k hq (pl := m.pl) (th := m.th) (r := r) (x := (m.w, m.sp)) hw (q.sLen (q.rTab r))).2
  obtain ⟨kk1, kk2, kk3, kk4, kk5, kk6, kk7⟩ := bdM_k hq r hw
  obtain ⟨s1, s2, s3, s4, s5⟩ := pfR_same q r b (q.sLen (q.rTab r))
  have pg := (pfR_g hq r b (q.sLen (q.rTab r)))
  have hX : bfR q m.pl m.th r (m.w, m.sp) (q.sLen (q.rTab r)) = bdX q r m := rfl
  rw [hX] at x1 x2 hsp
  have w3 : ER (bdW q r m) ((pfR q r b (q.sLen (q.rTab r))).pn 0 4).byt ((pfR q r b (q.sLen (q.rTab r))).pn 0 4).wrt ((pfR q r b (q.sLen (q.rTab r))).pn 0 4).wid := ER_pn p8_4 x1 0
  have b3w : b.wrt + 4 ≤ ((pfR q r b (q.sLen (q.rTab r))).pn 0 4).wrt := by
    have := alN_le 4 (pfR q r b (q.sLen (q.rTab r))).wrt 0
    have := pg.lo
    show b.wrt + 4 ≤ alN 4 (pfR q r b (q.sLen (q.rTab r))).wrt 0 + 4
    omega
  have bw : ((pfR q r b (q.sLen (q.rTab r))).pn 0 4).wrt ≤ (bdB q r b).wrt := by
    show _ ≤ (pdP (pr4 q r b.wrt ((pfR q r b (q.sLen (q.rTab r))).pn 0 4))).wrt
    unfold pdP
    split
    · exact Nat.le_refl _
    · exact (nrS_le _ _ _ _ _).1
  rcases w3 with w3 | w3
  · have hno : (bdX q r m).1.ov = false := by
      cases c : (bdX q r m).1.ov with
      | false => rfl
      | true =>
        have := (Kp_pn kk5.1 0 4).2.2.2.1 c
        have e : (bdW q r m).ov = false := w3.1
        rw [show (bdW q r m).ov = true from this] at e; cases e
    have x3 := x2 hno
    have htd : bdT q r m = tdR (pfR q r b (q.sLen (q.rTab r))).fld (q.sLen (q.rTab r)) := tdR_congr _ x3
    have htp : (bdW q r m).wr = ((pfR q r b (q.sLen (q.rTab r))).pn 0 4).wrt := w3.2.1
    have hbw : m.w.wr = b.wrt := hP.2.1
    have htl := tdR_le (pfR q r b (q.sLen (q.rTab r))).fld (q.sLen (q.rTab r))
    have hwl : (bdW q r m).wr ≤ 250 := kk6.1.1
    -- words
    have hws : ∀ k, k < bdT q r m + 2 → (pr4 q r b.wrt ((pfR q r b (q.sLen (q.rTab r))).pn 0 4)).off (b.kept * 8 + k) = wdM (bdX q r m).2 (bdT q r m) (bdW q r m).wr m.w.wr k := by
      intro k hk
      rw [htd] at hk
      show drP (pfR q r b (q.sLen (q.rTab r))).off ((pfR q r b (q.sLen (q.rTab r))).kept * 8) (pfR q r b (q.sLen (q.rTab r))).fld (q.sLen (q.rTab r)) b.wrt ((pfR q r b (q.sLen (q.rTab r))).pn 0 4).wrt (b.kept * 8 + k) = _
      rw [s5, drP_wd (by omega), htd, htp, hbw]
      exact (wdM_congr (n := q.sLen (q.rTab r)) x3 (by omega)).symm
    have hd0 : (pr4 q r b.wrt ((pfR q r b (q.sLen (q.rTab r))).pn 0 4)).off (b.kept * 8) = 2 * (2 + bdT q r m) := by
      have := hws 0 (by omega)
      rw [Nat.add_zero] at this
      rw [this, wdM, if_pos rfl]; omega
    have hfar : ∀ s k, s < b.kept → k < 8 → (pr4 q r b.wrt ((pfR q r b (q.sLen (q.rTab r))).pn 0 4)).off (s * 8 + k) = b.off (s * 8 + k) := by
      intro s k hs hk
      show drP (pfR q r b (q.sLen (q.rTab r))).off ((pfR q r b (q.sLen (q.rTab r))).kept * 8) (pfR q r b (q.sLen (q.rTab r))).fld (q.sLen (q.rTab r)) b.wrt ((pfR q r b (q.sLen (q.rTab r))).pn 0 4).wrt (s * 8 + k) = _
      rw [s5, s3, drP_far (by omega)]
    have hS4 : SHR m.w.row m.w.wr m.sh (pr4 q r b.wrt ((pfR q r b (q.sLen (q.rTab r))).pn 0 4)).off b.ofp b.kept := by
      intro s hs
      obtain ⟨a1, a2, a3, a4, a5, a6, a7⟩ := hS s hs
      have e0 := hfar s 0 hs (by omega)
      rw [Nat.add_zero] at e0
      rw [e0]
      exact ⟨a1, a2, a3, a4, a5, a6, fun k hk => by rw [hfar s k hs (by omega)]; exact a7 k hk⟩
    -- of any row that keeps what was there before the record
    have hkeep : ∀ (row' : Nat → Nat) (wr' : Nat), m.w.wr ≤ wr' → (∀ i, i ≤ m.w.wr → row' i = m.w.row i) → SHR row' wr' m.sh (pr4 q r b.wrt ((pfR q r b (q.sLen (q.rTab r))).pn 0 4)).off b.ofp b.kept := fun row' wr' a1 a2 => SHR_kp hS4 a1 a2
    have hS3 := hkeep (bdW q r m).row (bdW q r m).wr kk6.2.1 kk6.2.2.1
    have hfs := fsM_eq (sp := (bdX q r m).2) (td := bdT q r m) (tp := (bdW q r m).wr) (bw := m.w.wr) hS3 hd0 hws b.kept (Nat.le_refl _)
    have hpl' : ∀ k, k < 16 → (bdM q r m).pl k = (bdB q r b).rcp k := by
      intro k hk
      have e : (bdB q r b).rcp = va_up (pfR q r b (q.sLen (q.rTab r))).rcp r ((pfR q r b (q.sLen (q.rTab r))).pn 0 4).wrt := by
        show (pdP (pr4 q r b.wrt ((pfR q r b (q.sLen (q.rTab r))).pn 0 4))).rcp = _
        unfold pdP; split <;> rfl
      rw [e, s1]
      show va_up m.pl r (bdW q r m).wr k = _
      rw [htp]
      by_cases c : k = r
      · rw [c, va_up_self, va_up_self]
      · rw [va_up_ne _ _ c, va_up_ne _ _ c]; exact hpl k hk
    have hb4k : (pr4 q r b.wrt ((pfR q r b (q.sLen (q.rTab r))).pn 0 4)).kept = b.kept := s5
    have hb4o : (pr4 q r b.wrt ((pfR q r b (q.sLen (q.rTab r))).pn 0 4)).ofp = b.ofp := s4
    have hb4w : (pr4 q r b.wrt ((pfR q r b (q.sLen (q.rTab r))).pn 0 4)).wrt = ((pfR q r b (q.sLen (q.rTab r))).pn 0 4).wrt := rfl
    have hb4d : (pr4 q r b.wrt ((pfR q r b (q.sLen (q.rTab r))).pn 0 4)).wid = ((pfR q r b (q.sLen (q.rTab r))).pn 0 4).wid := rfl
    have hb4b : (pr4 q r b.wrt ((pfR q r b (q.sLen (q.rTab r))).pn 0 4)).byt = ((pfR q r b (q.sLen (q.rTab r))).pn 0 4).byt := rfl
    have hwid4 : 4 ≤ ((pfR q r b (q.sLen (q.rTab r))).pn 0 4).wid := Nat.le_max_right _ _
    have eB : bdB q r b = pr6 ((pfR q r b (q.sLen (q.rTab r))).pn 0 4).wrt (nI (plD (pr4 q r b.wrt ((pfR q r b (q.sLen (q.rTab r))).pn 0 4))) - nI ((pfR q r b (q.sLen (q.rTab r))).pn 0 4).wrt) (pdP (pr4 q r b.wrt ((pfR q r b (q.sLen (q.rTab r))).pn 0 4))) := rfl
    have eM : bdM q r m = MB.mk (flW (ofM (bdW q r m) (bdX q r m).2 m.sh m.shs (bdT q r m) (bdW q r m).wr m.w.wr) (bdW q r m).wr (nI (ofV (bdW q r m) (bdX q r m).2 m.sh m.shs (bdT q r m) (bdW q r m).wr m.w.wr) - nI (bdW q r m).wr)) (va_up m.pl r (bdW q r m).wr) m.th (bdX q r m).2 (ofS (bdW q r m) (bdX q r m).2 m.sh m.shs (bdT q r m) (bdW q r m).wr m.w.wr) (ofN (bdW q r m) (bdX q r m).2 m.sh m.shs (bdT q r m) (bdW q r m).wr m.w.wr) := rfl
    have hwds : ∀ k, k < bdT q r m + 2 → wdM (bdX q r m).2 (bdT q r m) (bdW q r m).wr m.w.wr k < 65536 := by
      intro k hk
      unfold wdM
      split
      · omega
      · split
        · omega
        · split <;> omega
    generalize (pfR q r b (q.sLen (q.rTab r))).pn 0 4 = b3 at *
    generalize pr4 q r b.wrt b3 = b4 at *
    generalize hWe : bdW q r m = W3 at *
    generalize (bdX q r m).2 = sp' at *
    generalize bdT q r m = td at *
    by_cases c : fsM W3.row sp' m.sh td W3.wr m.w.wr b.kept < b.kept
    · -- shared
      left
      have c' : fsR b4.off b4.kept b4.kept < b4.kept := by rw [hb4k, ← hfs]; exact c
      have e1 : ofM W3 sp' m.sh m.shs td W3.wr m.w.wr = W3 := by rw [ofM, hsh, if_pos c]
      have e2 : ofV W3 sp' m.sh m.shs td W3.wr m.w.wr = plD b4 := by
        rw [ofV, hsh, if_pos c, plD_y c', hb4k, hb4o, hfs]
        exact (hS _ (by rw [← hfs]; exact c)).1
      have e3 : ofS W3 sp' m.sh m.shs td W3.wr m.w.wr = m.sh := by rw [ofS, hsh, if_pos c]
      have e4 : ofN W3 sp' m.sh m.shs td W3.wr m.w.wr = b.kept := by rw [ofN, hsh, if_pos c]
      rw [e1, e2, e3, e4] at eM
      rw [pdP_y c'] at eB
      have hpl2 := hpl'
      rw [eM, eB] at hpl2 ⊢
      refine ⟨?_, ?_, hpl2, hb4k.symm, ?_⟩
      · show PR _ (if b3.wrt ≤ 240 then flR b4.byt b3.wrt _ 4 else b4.byt) b4.wrt b4.wid
        rw [hb4w, hb4d, hb4b, htp]
        exact PR_fl w3 _ (Nat.le_refl _) (by omega)
      · show 4 ≤ b4.wid
        rw [hb4d]; exact hwid4
      · show SHR _ _ m.sh b4.off b4.ofp b4.kept
        rw [hb4o, hb4k]
        refine hkeep _ _ (by rw [(flW_ov _ _ _).2.1]; exact kk6.2.1) (fun i hi => ?_)
        show (flW W3 W3.wr _).row i = _
        rw [flW, if_neg (by rw [w3.1]; simp)]
        show flR W3.row W3.wr _ 4 i = _
        rw [flR_far 4 (by omega) (by omega)]
        exact kk6.2.2.1 i hi
    · -- put
      have c' : ¬ fsR b4.off b4.kept b4.kept < b4.kept := by rw [hb4k, ← hfs]; exact c
      have hq2 : b4.off (b4.kept * 8) / 2 = td + 2 := by rw [hb4k, hd0]; omega
      have hval : ∀ k, k < td + 2 → woV sp' td W3.wr m.w.wr k = pdV b4.off b4.kept k := by
        intro k hk
        show (nI _).toInt64 = (nI (b4.off (b4.kept * 8 + k))).toInt64
        rw [hb4k, hws k hk]
      have e1 : ofM W3 sp' m.sh m.shs td W3.wr m.w.wr = nrM (pdV b4.off b4.kept) (td + 2) W3 (td + 2) := by
        rw [ofM, hsh, if_neg c]
        exact nrM_congr hval W3 _ (Nat.le_refl _)
      have g : ER (nrM (pdV b4.off b4.kept) (td + 2) W3 (td + 2)) (pdQ b4).1 (pdQ b4).2 b4.wid := by
        have := ER_nr (Or.inl w3) (by omega) (pdV b4.off b4.kept) (td + 2) (td + 2)
        rw [pdQ, hq2, hb4b, hb4w, hb4d]
        exact this
      have kn := Kp_nr kk6.1 (pdV b4.off b4.kept) (td + 2) (td + 2)
      have wordsN := nrM_w (val := pdV b4.off b4.kept) (n := td + 2) kk6.1 (td + 2)
      have e2 : ofV W3 sp' m.sh m.shs td W3.wr m.w.wr = (nrM (pdV b4.off b4.kept) (td + 2) W3 (td + 2)).wr := by rw [ofV, e1, hsh, if_neg c]
      have e3 : ofS W3 sp' m.sh m.shs td W3.wr m.w.wr = va_up m.sh b.kept (nrM (pdV b4.off b4.kept) (td + 2) W3 (td + 2)).wr := by rw [ofS, e1, hsh, if_neg c]
      have e4 : ofN W3 sp' m.sh m.shs td W3.wr m.w.wr = b.kept + 1 := by rw [ofN, hsh, if_neg c]
      rw [e1, e2, e3, e4] at eM
      rw [pdP_n c', plD_n c'] at eB
      have hpl2 := hpl'
      rw [eM, eB] at hpl2 ⊢
      generalize nrM (pdV b4.off b4.kept) (td + 2) W3 (td + 2) = W4 at *
      rcases g with g | g
      · left
        have hw4 := (wordsN g.1).1 (by omega)
        have hwd4 := (wordsN g.1).2
        have hA := alN_le 2 W3.wr 0
        have g2 := g.2.1
        refine ⟨?_, ?_, hpl2, by show b.kept + 1 = b4.kept + 1; rw [hb4k], ?_⟩
        · show PR (flW W4 W3.wr (nI W4.wr - nI W3.wr)) (if b3.wrt ≤ 240 then flR (pdQ b4).1 b3.wrt (nI (pdQ b4).2 - nI b3.wrt) 4 else (pdQ b4).1) (pdQ b4).2 b4.wid
          have g' : PR W4 (pdQ b4).1 W4.wr b4.wid := by rw [g2]; exact g
          rw [← htp, ← g2]
          exact PR_fl g' _ (by omega) (by omega)
        · show 4 ≤ b4.wid
          rw [hb4d]; exact hwid4
        · have hrow : ∀ i, (i ≤ m.w.wr ∨ W3.wr < i) → (flW W4 W3.wr (nI W4.wr - nI W3.wr)).row i = W4.row i := by
            intro i hi
            rw [flW, if_neg (by rw [g.1]; simp)]
            show flR W4.row W3.wr _ 4 i = _
            rw [flR_far 4 (by omega) (by omega)]
          have hwr := (flW_ov W4 W3.wr (nI W4.wr - nI W3.wr)).2.1
          show SHR (flW W4 W3.wr (nI W4.wr - nI W3.wr)).row (flW W4 W3.wr (nI W4.wr - nI W3.wr)).wr (va_up m.sh b.kept W4.wr) b4.off (va_up b4.ofp b4.kept (pdQ b4).2) (b4.kept + 1)
          rw [hwr, hb4k, hb4o]
          intro s hs
          by_cases cs : s = b.kept
          · rw [cs, va_up_self, va_up_self, hd0]
            refine ⟨g2, by omega, by omega, by omega, by omega, Nat.le_refl _, fun k hk => ?_⟩
            have hk' : k < td + 2 := by omega
            have hj := hwd4 (td + 2 - k - 1) (by omega)
            rw [rwd, hrow _ (by omega), hrow _ (by omega), show W4.wr - 2 * k = alN 2 W3.wr 0 + 2 * (td + 2 - k - 1) + 2 by omega, show alN 2 W3.wr 0 + 2 * (td + 2 - k - 1) + 2 - 1 = alN 2 W3.wr 0 + 2 * (td + 2 - k - 1) + 1 by omega, hj.1, hj.2, show td + 2 - (td + 2 - k - 1) - 1 = k by omega]
            show vB (nI (b4.off (b4.kept * 8 + k))).toInt64 0 + 256 * vB (nI (b4.off (b4.kept * 8 + k))).toInt64 1 = _
            rw [hb4k, vB_16 (by rw [hws k hk']; exact hwds k hk')]
          · rw [va_up_ne _ _ cs, va_up_ne _ _ cs]
            exact hkeep (flW W4 W3.wr (nI W4.wr - nI W3.wr)).row W4.wr (Nat.le_trans kk6.2.1 kn.2.1) (fun i hi => by rw [hrow i (Or.inl hi), kn.2.2.1 i (Nat.le_trans hi kk6.2.1)]; exact kk6.2.2.1 i hi) s (by omega)
      · right
        show OV (flW W4 W3.wr (nI W4.wr - nI W3.wr)) (pdQ b4).2
        have e := flW_ov W4 W3.wr (nI W4.wr - nI W3.wr)
        exact ⟨by rw [e.1]; exact g.1, by rw [e.2.1]; exact g.2.1, g.2.2⟩
  · right
    have h1 := kk4 w3.1
    exact ⟨h1, kk1.2 h1, Nat.lt_of_lt_of_le w3.2.2 bw⟩
/-! all records, by a pile; of the model and of the class -/
abbrev JS (X : Type) : Type := X × (Nat → Nat) × (Nat → Nat) × Nat
abbrev JS.x {X : Type} (s : JS X) : X := s.1
abbrev JS.pile {X : Type} (s : JS X) : Nat → Nat := s.2.1
abbrev JS.next {X : Type} (s : JS X) : Nat → Nat := s.2.2.1
abbrev JS.n {X : Type} (s : JS X) : Nat := s.2.2.2
abbrev JS.mk {X : Type} (x : X) (pile next : Nat → Nat) (n : Nat) : JS X := (x, pile, next, n)
def sjX {X : Type} (q : SR) (bd : Nat → X → X) (pe : Nat → Nat → X → X) (pl : X → Nat → Nat) (s : JS X) : JS X :=
  if s.next (s.n - 1) = q.sLen (q.rTab (s.pile (s.n - 1))) then JS.mk (bd (s.pile (s.n - 1)) s.x) s.pile s.next (s.n - 1)
  else if q.rFil (s.pile (s.n - 1) * 6 + s.next (s.n - 1)) = false ∨ q.sKind (q.rTab (s.pile (s.n - 1)) * 6 + s.next (s.n - 1)) < 4 then JS.mk s.x s.pile (va_up s.next (s.n - 1) (s.next (s.n - 1) + 1)) s.n
  else if q.sKind (q.rTab (s.pile (s.n - 1)) * 6 + s.next (s.n - 1)) < 6 then JS.mk (pe (s.pile (s.n - 1) * 6 + s.next (s.n - 1)) (q.sKind (q.rTab (s.pile (s.n - 1)) * 6 + s.next (s.n - 1))) s.x) s.pile (va_up s.next (s.n - 1) (s.next (s.n - 1) + 1)) s.n
  else if pl s.x (q.rLnk (s.pile (s.n - 1) * 6 + s.next (s.n - 1))) = 0 then JS.mk s.x (va_up s.pile s.n (q.rLnk (s.pile (s.n - 1) * 6 + s.next (s.n - 1)))) (va_up (va_up s.next (s.n - 1) (s.next (s.n - 1) + 1)) s.n 0) (s.n + 1)
  else JS.mk s.x s.pile (va_up s.next (s.n - 1) (s.next (s.n - 1) + 1)) s.n
/-- contents put, their place kept -/
def peM (q : SR) (c k : Nat) (m : MB) : MB := if k = 4 then MB.mk (txM q c m.w) m.pl (va_up m.th c (txM q c m.w).wr) m.sp m.sh m.shs else MB.mk (rwM q c m.w) m.pl (va_up m.th c (rwM q c m.w).wr) m.sp m.sh m.shs
def peB (q : SR) (c k : Nat) (b : BS) : BS := if k = 4 then txP q c b else rwP q c b
def sjM (q : SR) (s : JS MB) : JS MB := sjX q (bdM q) (peM q) (fun m => m.pl) s
def sjB (q : SR) (s : JS BS) : JS BS := sjX q (bdB q) (peB q) (fun b => b.rcp) s
def itJ (q : SR) : Nat → JS MB → JS MB
  | 0, s => s
  | k + 1, s => if s.n = 0 ∨ s.x.w.ov = true then s else itJ q k (sjM q s)
def itB (q : SR) : Nat → JS BS → JS BS
  | 0, s => s
  | k + 1, s => if s.n = 0 then s else itB q k (sjB q s)
abbrev dnJ (s : JS MB) : Prop := s.n = 0 ∨ s.x.w.ov = true
theorem itJ_dn {q : SR} {s : JS MB} (h : dnJ s) : ∀ k, itJ q k s = s
  | 0 => rfl
  | k + 1 => by rw [itJ, if_pos h]
theorem itJ_st {q : SR} {s : JS MB} (h : ¬ dnJ s) (k : Nat) : itJ q (k + 1) s = itJ q k (sjM q s) := by rw [itJ, if_neg h]
theorem itB_st {q : SR} {s : JS BS} (h : ¬ s.n = 0) (k : Nat) : itB q (k + 1) s = itB q k (sjB q s) := by rw [itB, if_neg h]
theorem itB_dn {q : SR} {s : JS BS} (h : s.n = 0) : ∀ k, itB q k s = s
  | 0 => rfl
  | k + 1 => by rw [itB, if_pos h]
theorem itB_add {q : SR} : ∀ (j k : Nat) (s : JS BS), itB q (j + k) s = itB q k (itB q j s)
  | 0, k, s => by rw [Nat.zero_add]; rfl
  | j + 1, k, s => by
    by_cases h : s.n = 0
    · rw [itB_dn h, itB_dn h, itB_dn h]
    · rw [show j + 1 + k = j + k + 1 by omega, itB_st h, itB_st h, itB_add j k]
/-- the pile: links lead to lower records, none on it is placed -/
abbrev JI (q : SR) (z : JS BS) : Prop := (∀ i, i < z.n → i + 1 + z.pile i ≤ 16 ∧ z.next i ≤ q.sLen (q.rTab (z.pile i)) ∧ z.x.rcp (z.pile i) = 0) ∧ (∀ i j, i < j → j < z.n → z.pile j < z.pile i) ∧ z.x.kept ≤ cnN z.x.rcp 16
theorem bdB_r (q : SR) (r : Nat) (b : BS) : (∃ v, 0 < v ∧ (bdB q r b).rcp = va_up b.rcp r v) ∧ (bdB q r b).kept ≤ b.kept + 1 := by
  obtain ⟨s1, s2, s3, s4, s5⟩ := pfR_same q r b (q.sLen (q.rTab r))
  unfold bdB
  generalize pfR q r b (q.sLen (q.rTab r)) = b2 at *
  show (∃ v, 0 < v ∧ (pdP (pr4 q r b.wrt (b2.pn 0 4))).rcp = va_up b.rcp r v) ∧ (pdP (pr4 q r b.wrt (b2.pn 0 4))).kept ≤ b.kept + 1
  have h3 : (pr4 q r b.wrt (b2.pn 0 4)).rcp = va_up b.rcp r (alN 4 b2.wrt 0 + 4) := by show va_up b2.rcp r _ = _; rw [s1]; rfl
  have h5 : (pr4 q r b.wrt (b2.pn 0 4)).kept = b.kept := s5
  generalize pr4 q r b.wrt (b2.pn 0 4) = b4 at *
  unfold pdP
  split
  · exact ⟨⟨_, by omega, h3⟩, by omega⟩
  · exact ⟨⟨_, by omega, h3⟩, by show b4.kept + 1 ≤ _; omega⟩
theorem cn_lt {f : Nat → Nat} {r : Nat} (hr : r < 16) (h : f r = 0) : cnN f 16 < 16 := by
  have e := cnN_up (f := f) (v := 1) hr h (by decide)
  have := cnN_le (va_up f r 1) 16
  omega
/-- what a step does to the pile, whatever is written -/
theorem JI_st {q : SR} (hq : SOK q) {z : JS BS} (h : JI q z) (hn : ¬ z.n = 0) : JI q (sjB q z) ∧ z.x.wrt ≤ (sjB q z).x.wrt := by
  obtain ⟨h1, h2, h3⟩ := h
  obtain ⟨t1, t2, t3⟩ := h1 (z.n - 1) (by omega)
  have nx : ∀ i, i < z.n → va_up z.next (z.n - 1) (z.next (z.n - 1) + 1) i ≤ q.sLen (q.rTab (z.pile i)) ∨ ¬ z.next (z.n - 1) < q.sLen (q.rTab (z.pile (z.n - 1))) := by
    intro i hi
    by_cases c : i = z.n - 1
    · rw [c, va_up_self]; omega
    · rw [va_up_ne _ _ c]; exact Or.inl (h1 i hi).2.1
  unfold sjB sjX
  split
  · obtain ⟨⟨v, v0, ev⟩, ek⟩ := bdB_r q (z.pile (z.n - 1)) z.x
    refine ⟨⟨fun i hi => ?_, fun i j hij hj => h2 i j hij (Nat.lt_of_lt_of_le hj (Nat.sub_le _ _)), ?_⟩, (bdB_m hq _ _).1⟩
    · have hi' : i < z.n - 1 := hi
      have a := h1 i (by omega)
      refine ⟨a.1, a.2.1, ?_⟩
      show (bdB q (z.pile (z.n - 1)) z.x).rcp (z.pile i) = 0
      have := h2 i (z.n - 1) hi' (by omega)
      rw [ev, va_up_ne _ _ (by omega)]; exact a.2.2
    · show (bdB q (z.pile (z.n - 1)) z.x).kept ≤ cnN (bdB q (z.pile (z.n - 1)) z.x).rcp 16
      rw [ev, cnN_up (by omega) t3 (by omega)]
      omega
  · rename_i c0
    have c0' : z.next (z.n - 1) < q.sLen (q.rTab (z.pile (z.n - 1))) := by omega
    have nx' : ∀ i, i < z.n → va_up z.next (z.n - 1) (z.next (z.n - 1) + 1) i ≤ q.sLen (q.rTab (z.pile i)) := fun i hi => (nx i hi).resolve_right (fun z => z c0')
    have plain : ∀ x : BS, x.rcp = z.x.rcp → x.kept = z.x.kept → JI q (JS.mk x z.pile (va_up z.next (z.n - 1) (z.next (z.n - 1) + 1)) z.n) := fun x e1 e2 => ⟨fun i hi => ⟨(h1 i hi).1, nx' i hi, by show x.rcp (z.pile i) = 0; rw [e1]; exact (h1 i hi).2.2⟩, h2, by show x.kept ≤ cnN x.rcp 16; rw [e1, e2]; exact h3⟩
    split
    · exact ⟨plain z.x rfl rfl, Nat.le_refl _⟩
    · split
      · unfold peB
        split
        · refine ⟨plain _ rfl rfl, ?_⟩
          show z.x.wrt ≤ alN 4 (alN 4 z.x.wrt (q.rLen _ + 1) + 1 + q.rLen _) 0 + 4
          have a1 := alN_le 4 z.x.wrt (q.rLen (z.pile (z.n - 1) * 6 + z.next (z.n - 1)) + 1)
          have a2 := alN_le 4 (alN 4 z.x.wrt (q.rLen (z.pile (z.n - 1) * 6 + z.next (z.n - 1)) + 1) + 1 + q.rLen (z.pile (z.n - 1) * 6 + z.next (z.n - 1))) 0
          omega
        · refine ⟨plain _ rfl rfl, ?_⟩
          show z.x.wrt ≤ alN 4 (rwQ q _ z.x).2 0 + 4
          have a1 := alN_le 4 z.x.wrt (2 * q.rLen (z.pile (z.n - 1) * 6 + z.next (z.n - 1)))
          have a2 := alN_le 4 (rwQ q (z.pile (z.n - 1) * 6 + z.next (z.n - 1)) z.x).2 0
          have a3 : alN 4 z.x.wrt (2 * q.rLen (z.pile (z.n - 1) * 6 + z.next (z.n - 1))) ≤ (rwQ q (z.pile (z.n - 1) * 6 + z.next (z.n - 1)) z.x).2 := (nrS_le _ _ _ _ _).1
          omega
      · rename_i c1 c2
        have hL := hq.hL (q.rTab (z.pile (z.n - 1)))
        have hk := hq.hk (q.rTab (z.pile (z.n - 1)) * 6 + z.next (z.n - 1))
        have hf : q.rFil (z.pile (z.n - 1) * 6 + z.next (z.n - 1)) = true := by
          cases c : q.rFil (z.pile (z.n - 1) * 6 + z.next (z.n - 1)) with
          | true => rfl
          | false => exact absurd (Or.inl c) c1
        have hlt := hq.hlt (z.pile (z.n - 1)) (z.next (z.n - 1)) (by omega) (by omega) hf (by omega)
        split
        · rename_i c3
          refine ⟨⟨fun i hi => ?_, fun i j hij hj => ?_, h3⟩, Nat.le_refl _⟩
          · have hi' : i < z.n + 1 := hi
            show i + 1 + va_up z.pile z.n _ i ≤ 16 ∧ va_up (va_up z.next (z.n - 1) (z.next (z.n - 1) + 1)) z.n 0 i ≤ q.sLen (q.rTab (va_up z.pile z.n _ i)) ∧ z.x.rcp (va_up z.pile z.n _ i) = 0
            by_cases c : i = z.n
            · rw [c, va_up_self, va_up_self]; exact ⟨by omega, Nat.zero_le _, c3⟩
            · rw [va_up_ne _ _ c, va_up_ne _ _ c]; exact ⟨(h1 i (by omega)).1, nx' i (by omega), (h1 i (by omega)).2.2⟩
          · have hj' : j < z.n + 1 := hj
            show va_up z.pile z.n _ j < va_up z.pile z.n _ i
            by_cases c : j = z.n
            · rw [c, va_up_self, va_up_ne _ _ (by omega)]
              by_cases c' : i = z.n - 1
              · rw [c']; exact hlt
              · exact Nat.lt_trans hlt (h2 i (z.n - 1) (by omega) (by omega))
            · rw [va_up_ne _ _ c, va_up_ne _ _ (by omega)]; exact h2 i j hij (by omega)
        · exact ⟨plain z.x rfl rfl, Nat.le_refl _⟩
theorem JI_it {q : SR} (hq : SOK q) : ∀ (k : Nat) (z : JS BS), JI q z → JI q (itB q k z) ∧ z.x.wrt ≤ (itB q k z).x.wrt
  | 0, z, h => ⟨h, Nat.le_refl _⟩
  | k + 1, z, h => by
    by_cases c : z.n = 0
    · rw [itB_dn c]; exact ⟨h, Nat.le_refl _⟩
    · rw [itB_st c]
      obtain ⟨a1, a2⟩ := JI_st hq h c
      obtain ⟨b1, b2⟩ := JI_it hq k _ a1
      exact ⟨b1, Nat.le_trans a2 b2⟩
/-- the class's records, by the pile -/
abbrev BelJ (z z' : JS BS) (n : Nat) : Prop := ∀ i, i < n → z'.pile i = z.pile i ∧ z'.next i = z.next i
abbrev PJ (q : SR) (N : Nat) : Prop := ∀ (r : Nat) (z : JS BS), r < N → JI q z → 0 < z.n → z.pile (z.n - 1) = r → z.next (z.n - 1) = 0 → ∃ k, (itB q k z).x = prF q N r z.x ∧ (itB q k z).n = z.n - 1 ∧ BelJ z (itB q k z) (z.n - 1)
theorem PJ_f {q : SR} (hq : SOK q) {N : Nat} (ih : PJ q N) {r : Nat} {z : JS BS} (hr : r < N + 1) (hz : 0 < z.n) : ∀ (m f : Nat) (z1 : JS BS), f + m = q.sLen (q.rTab r) → JI q z1 → z1.n = z.n → z1.pile (z.n - 1) = r → z1.next (z.n - 1) = f → z1.x = pcR (prF q N) q r z.x f → BelJ z z1 (z.n - 1) → ∃ k, (itB q k z1).x = bdB q r (pcR (prF q N) q r z.x (q.sLen (q.rTab r))) ∧ (itB q k z1).n = z.n - 1 ∧ BelJ z (itB q k z1) (z.n - 1) := by
  intro m
  induction m with
  | zero =>
    intro f z1 hm h1 h2 h3 h4 h5 h6
    refine ⟨1, ?_⟩
    rw [itB_st (by omega)]
    show (sjB q z1).x = _ ∧ (sjB q z1).n = _ ∧ BelJ z (sjB q z1) _
    have e : sjB q z1 = JS.mk (bdB q r z1.x) z1.pile z1.next (z.n - 1) := by
      rw [sjB, sjX, h2, h3, h4, if_pos (by omega)]
    rw [e, h5, ← hm, Nat.add_zero]
    exact ⟨rfl, rfl, h6⟩
  | succ m ihm =>
    intro f z1 hm h1 h2 h3 h4 h5 h6
    have hL := hq.hL (q.rTab r)
    have hp := (h1.1 (z.n - 1) (by omega)).1
    rw [h3] at hp
    have hk7 := hq.hk (q.rTab r * 6 + f)
    have nb : ∀ i, i < z.n - 1 → va_up z1.next (z.n - 1) (f + 1) i = z.next i := fun i hi => (va_up_ne _ _ (by omega)).trans (h6 i hi).2
    have e0 : sjB q z1 = if q.rFil (r * 6 + f) = false ∨ q.sKind (q.rTab r * 6 + f) < 4 then JS.mk z1.x z1.pile (va_up z1.next (z.n - 1) (f + 1)) z.n
        else if q.sKind (q.rTab r * 6 + f) < 6 then JS.mk (peB q (r * 6 + f) (q.sKind (q.rTab r * 6 + f)) z1.x) z1.pile (va_up z1.next (z.n - 1) (f + 1)) z.n
        else if z1.x.rcp (q.rLnk (r * 6 + f)) = 0 then JS.mk z1.x (va_up z1.pile z.n (q.rLnk (r * 6 + f))) (va_up (va_up z1.next (z.n - 1) (f + 1)) z.n 0) (z.n + 1)
        else JS.mk z1.x z1.pile (va_up z1.next (z.n - 1) (f + 1)) z.n := by
      rw [sjB, sjX, h2, h3, h4, if_neg (by omega)]
    have hJ := (JI_st hq h1 (by omega)).1
    have plain : ∀ x : BS, sjB q z1 = JS.mk x z1.pile (va_up z1.next (z.n - 1) (f + 1)) z.n → pcR (prF q N) q r z.x (f + 1) = x → ∃ k, (itB q k z1).x = bdB q r (pcR (prF q N) q r z.x (q.sLen (q.rTab r))) ∧ (itB q k z1).n = z.n - 1 ∧ BelJ z (itB q k z1) (z.n - 1) := by
      intro x e ex
      rw [e] at hJ
      obtain ⟨k, hk⟩ := ihm (f + 1) (JS.mk x z1.pile (va_up z1.next (z.n - 1) (f + 1)) z.n) (by omega) hJ rfl h3 (va_up_self _ _ _) ex.symm (fun i hi => ⟨(h6 i hi).1, nb i hi⟩)
      exact ⟨k + 1, by rw [itB_st (by omega), e]; exact hk⟩
    by_cases c0 : q.rFil (r * 6 + f) = false
    · exact plain z1.x (by rw [e0, if_pos (Or.inl c0)]) (by rw [pcR, pcS_0 c0, h5])
    · have c0' : q.rFil (r * 6 + f) = true := by simpa using c0
      by_cases c4 : q.sKind (q.rTab r * 6 + f) < 4
      · exact plain z1.x (by rw [e0, if_pos (Or.inr c4)]) (by rw [pcR, pcS_d (by omega) (by omega) (by omega), h5])
      · have cc : ¬ (q.rFil (r * 6 + f) = false ∨ q.sKind (q.rTab r * 6 + f) < 4) := fun z => z.elim c0 c4
        by_cases c6 : q.sKind (q.rTab r * 6 + f) < 6
        · refine plain (peB q (r * 6 + f) (q.sKind (q.rTab r * 6 + f)) z1.x) (by rw [e0, if_neg cc, if_pos c6]) ?_
          by_cases ck : q.sKind (q.rTab r * 6 + f) = 4
          · rw [pcR, pcS_4 c0' ck, peB, if_pos ck, h5]
          · rw [pcR, pcS_5 c0' ck (by omega), peB, if_neg ck, h5]
        · have k6 : q.sKind (q.rTab r * 6 + f) = 6 := by omega
          have epc : pcR (prF q N) q r z.x (f + 1) = prF q N (q.rLnk (r * 6 + f)) z1.x := by rw [pcR, pcS_6 c0' (by omega) (by omega) k6, h5]
          by_cases cr : z1.x.rcp (q.rLnk (r * 6 + f)) = 0
          · have e1 : sjB q z1 = JS.mk z1.x (va_up z1.pile z.n (q.rLnk (r * 6 + f))) (va_up (va_up z1.next (z.n - 1) (f + 1)) z.n 0) (z.n + 1) := by rw [e0, if_neg cc, if_neg c6, if_pos cr]
            rw [e1] at hJ
            have hlt := hq.hlt r f (by omega) (by omega) c0' k6
            obtain ⟨k, a1, a2, a3⟩ := ih (q.rLnk (r * 6 + f)) (JS.mk z1.x (va_up z1.pile z.n (q.rLnk (r * 6 + f))) (va_up (va_up z1.next (z.n - 1) (f + 1)) z.n 0) (z.n + 1)) (by omega) hJ (Nat.succ_pos _) (va_up_self _ _ _) (va_up_self _ _ _)
            have hJ2 := (JI_it hq k _ hJ).1
            have pb := fun i (hi : i < z.n) => a3 i hi
            obtain ⟨k2, hk2⟩ := ihm (f + 1) (itB q k (JS.mk z1.x (va_up z1.pile z.n (q.rLnk (r * 6 + f))) (va_up (va_up z1.next (z.n - 1) (f + 1)) z.n 0) (z.n + 1))) (by omega) hJ2 a2 ((pb (z.n - 1) (by omega)).1.trans ((va_up_ne _ _ (by omega)).trans h3)) ((pb (z.n - 1) (by omega)).2.trans ((va_up_ne _ _ (by omega)).trans (va_up_self _ _ _))) (a1.trans epc.symm) (fun i hi => ⟨(pb i (by omega)).1.trans ((va_up_ne _ _ (by omega)).trans (h6 i hi).1), (pb i (by omega)).2.trans ((va_up_ne _ _ (by omega)).trans (nb i hi))⟩)
            refine ⟨(k + k2) + 1, ?_⟩
            rw [itB_st (by omega), e1, itB_add]
            exact hk2
          · refine plain z1.x (by rw [e0, if_neg cc, if_neg c6, if_neg cr]) ?_
            rw [epc]
            cases N with
            | zero => rfl
            | succ N => rw [prF, if_neg cr]
theorem PJ_all {q : SR} (hq : SOK q) : ∀ N, PJ q N := by
  intro N
  induction N with
  | zero => intro r z hr; exact absurd hr (Nat.not_lt_zero _)
  | succ N ih =>
    intro r z hr hJ hz hp hn
    obtain ⟨k, hk⟩ := PJ_f hq ih (r := r) (z := z) hr hz (q.sLen (q.rTab r)) 0 z (by omega) hJ rfl hp hn rfl (fun i _ => ⟨rfl, rfl⟩)
    refine ⟨k, ?_⟩
    have h0 := (hJ.1 (z.n - 1) (by omega)).2.2
    rw [hp] at h0
    rw [prF, if_pos h0]
    exact hk
/-! the model's pile and the class's records -/
abbrev TH (q : SR) (s : JS MB) (z : JS BS) : Prop := ∀ i, i < s.n → ∀ f, f < s.next i → q.rFil (s.pile i * 6 + f) = true → ¬ q.sKind (q.rTab (s.pile i) * 6 + f) < 4 → ¬ q.sKind (q.rTab (s.pile i) * 6 + f) = 6 → s.x.th (s.pile i * 6 + f) = z.x.itm (s.pile i * 6 + f)
abbrev RJ (q : SR) (s : JS MB) (z : JS BS) : Prop := s.2 = z.2 ∧ RM s.x z.x ∧ JI q z ∧ TH q s z
theorem peM_th (q : SR) (c k : Nat) (m : MB) (b : BS) (h : ER (peM q c k m).w (peB q c k b).byt (peB q c k b).wrt (peB q c k b).wid) (ho : (peM q c k m).w.ov = false) : ∀ j, (m.th j = b.itm j ∨ j = c) → (peM q c k m).th j = (peB q c k b).itm j := by
  intro j hj
  have hw : (peM q c k m).w.wr = (peB q c k b).wrt := by
    rcases h with h | h
    · exact h.2.1
    · rw [h.1] at ho; cases ho
  have e1 : (peM q c k m).th = va_up m.th c (peM q c k m).w.wr := by unfold peM; split <;> rfl
  have e2 : (peB q c k b).itm = va_up b.itm c (peB q c k b).wrt := by unfold peB; split <;> rfl
  rw [e1, e2, hw]
  by_cases cj : j = c
  · rw [cj, va_up_self, va_up_self]
  · rw [va_up_ne _ _ cj, va_up_ne _ _ cj]; exact hj.resolve_right cj
theorem tx_same (q : SR) (c : Nat) (b : BS) : (txP q c b).rcp = b.rcp ∧ (txP q c b).kept = b.kept ∧ (txP q c b).off = b.off ∧ (txP q c b).ofp = b.ofp ∧ 4 ≤ (txP q c b).wid := ⟨rfl, rfl, rfl, rfl, Nat.le_max_right _ _⟩
theorem rw_same (q : SR) (c : Nat) (b : BS) : (rwP q c b).rcp = b.rcp ∧ (rwP q c b).kept = b.kept ∧ (rwP q c b).off = b.off ∧ (rwP q c b).ofp = b.ofp ∧ 4 ≤ (rwP q c b).wid := ⟨rfl, rfl, rfl, rfl, Nat.le_max_right _ _⟩
theorem RM_of {w w' : PW} {pl th sp sh th' : Nat → Nat} {shs : Nat} {b b' : BS} (h : RM (MB.mk w pl th sp sh shs) b) (hs : b'.rcp = b.rcp ∧ b'.kept = b.kept ∧ b'.off = b.off ∧ b'.ofp = b.ofp ∧ 4 ≤ b'.wid) (k : Kp w w') (g : ER w' b'.byt b'.wrt b'.wid) : RM (MB.mk w' pl th' sp sh shs) b' ∨ OV w' b'.wrt := by
  obtain ⟨h1, h2, h3, h4, h5⟩ := h
  obtain ⟨s1, s2, s3, s4, s5⟩ := hs
  rcases g with g | g
  · left
    refine ⟨g, s5, ?_, ?_, ?_⟩
    · rw [s1]; exact h3
    · rw [s2]; exact h4
    · rw [s2, s3, s4]; exact SHR_kp h5 k.2.1 k.2.2.1
  · exact Or.inr g
theorem RM_pe {q : SR} {c k : Nat} {m : MB} {b : BS} (h : RM m b) : RM (peM q c k m) (peB q c k b) ∨ OV (peM q c k m).w (peB q c k b).wrt := by
  have hw := ER.w (Or.inl h.1)
  by_cases ck : k = 4
  · rw [peM, if_pos ck, peB, if_pos ck]
    exact RM_of h (tx_same q c b) (Kp_tx hw q c) (ER_tx q c (Or.inl h.1))
  · rw [peM, if_neg ck, peB, if_neg ck]
    exact RM_of h (rw_same q c b) (Kp_rw hw q c) (ER_rw q c (Or.inl h.1))
theorem RJ_st {q : SR} (hq : SOK q) {s : JS MB} {z : JS BS} (h : RJ q s z) (hn : ¬ s.n = 0) : RJ q (sjM q s) (sjB q z) ∨ OV (sjM q s).x.w (sjB q z).x.wrt := by
  obtain ⟨e, hR, hJ, hT⟩ := h
  obtain ⟨m, pile, next, n⟩ := s
  obtain ⟨b, pile', next', n'⟩ := z
  have e1 : pile = pile' ∧ next = next' ∧ n = n' := by
    have := Prod.mk.inj e
    exact ⟨this.1, (Prod.mk.inj this.2).1, (Prod.mk.inj this.2).2⟩
  obtain ⟨e1, e2, e3⟩ := e1
  subst e1; subst e2; subst e3
  have hn' : ¬ n = 0 := hn
  obtain ⟨t1, t2, t3⟩ := hJ.1 (n - 1) (show n - 1 < n by omega)
  have t1' : n - 1 + 1 + pile (n - 1) ≤ 16 := t1
  have t2' : next (n - 1) ≤ q.sLen (q.rTab (pile (n - 1))) := t2
  obtain ⟨hJ2, _⟩ := JI_st hq hJ hn'
  have hT' : ∀ i, i < n → ∀ f, f < next i → q.rFil (pile i * 6 + f) = true → ¬ q.sKind (q.rTab (pile i) * 6 + f) < 4 → ¬ q.sKind (q.rTab (pile i) * 6 + f) = 6 → m.th (pile i * 6 + f) = b.itm (pile i * 6 + f) := hT
  have hR' : RM m b := hR
  by_cases c0 : next (n - 1) = q.sLen (q.rTab (pile (n - 1)))
  · have d1 : sjM q (JS.mk m pile next n) = JS.mk (bdM q (pile (n - 1)) m) pile next (n - 1) := by rw [sjM, sjX, if_pos c0]
    have d2 : sjB q (JS.mk b pile next n) = JS.mk (bdB q (pile (n - 1)) b) pile next (n - 1) := by rw [sjB, sjX, if_pos c0]
    rw [show sjB q (b, pile, next, n) = JS.mk (bdB q (pile (n - 1)) b) pile next (n - 1) from d2] at hJ2 ⊢
    rw [show sjM q (m, pile, next, n) = JS.mk (bdM q (pile (n - 1)) m) pile next (n - 1) from d1]
    rcases RM_bd hq (r := pile (n - 1)) (by omega) hR' (fun f hf => hT' (n - 1) (by omega) f (by omega)) with g | g
    · refine Or.inl ⟨rfl, g, hJ2, fun i hi f hf a1 a2 a3 => ?_⟩
      show (bdM q (pile (n - 1)) m).th _ = (bdB q (pile (n - 1)) b).itm _
      rw [(bdB_m hq _ _).2]
      exact hT' i (Nat.lt_of_lt_of_le hi (Nat.sub_le _ _)) f hf a1 a2 a3
    · exact Or.inr g
  · -- the field's number is told
    have stay : ∀ (m1 : MB) (b1 : BS), RM m1 b1 → (∀ j, m.th j = b.itm j → m1.th j = b1.itm j) → (q.rFil (pile (n - 1) * 6 + next (n - 1)) = true → ¬ q.sKind (q.rTab (pile (n - 1)) * 6 + next (n - 1)) < 4 → ¬ q.sKind (q.rTab (pile (n - 1)) * 6 + next (n - 1)) = 6 → m1.th (pile (n - 1) * 6 + next (n - 1)) = b1.itm (pile (n - 1) * 6 + next (n - 1))) → JI q (JS.mk b1 pile (va_up next (n - 1) (next (n - 1) + 1)) n) → RJ q (JS.mk m1 pile (va_up next (n - 1) (next (n - 1) + 1)) n) (JS.mk b1 pile (va_up next (n - 1) (next (n - 1) + 1)) n) := by
      intro m1 b1 g1 g2 g3 g4
      refine ⟨rfl, g1, g4, fun i hi f hf a1 a2 a3 => ?_⟩
      have hf' : f < va_up next (n - 1) (next (n - 1) + 1) i := hf
      show m1.th (pile i * 6 + f) = b1.itm (pile i * 6 + f)
      by_cases ci : i = n - 1
      · rw [ci, va_up_self] at hf'
        by_cases cf : f = next (n - 1)
        · have a1' : q.rFil (pile i * 6 + f) = true := a1
          have a2' : ¬ q.sKind (q.rTab (pile i) * 6 + f) < 4 := a2
          have a3' : ¬ q.sKind (q.rTab (pile i) * 6 + f) = 6 := a3
          rw [ci, cf] at a1' a2' a3' ⊢
          exact g3 a1' a2' a3'
        · exact g2 _ (hT' i hi f (by rw [ci]; omega) a1 a2 a3)
      · rw [va_up_ne _ _ ci] at hf'
        exact g2 _ (hT' i hi f hf' a1 a2 a3)
    by_cases c1 : q.rFil (pile (n - 1) * 6 + next (n - 1)) = false ∨ q.sKind (q.rTab (pile (n - 1)) * 6 + next (n - 1)) < 4
    · have d1 : sjM q (m, pile, next, n) = JS.mk m pile (va_up next (n - 1) (next (n - 1) + 1)) n := by rw [sjM, sjX, if_neg c0, if_pos c1]
      have d2 : sjB q (b, pile, next, n) = JS.mk b pile (va_up next (n - 1) (next (n - 1) + 1)) n := by rw [sjB, sjX, if_neg c0, if_pos c1]
      rw [d2] at hJ2 ⊢
      rw [d1]
      exact Or.inl (stay m b hR' (fun _ h => h) (fun a1 a2 _ => absurd c1 (fun z => z.elim (fun z => by rw [a1] at z; cases z) a2)) hJ2)
    · by_cases c2 : q.sKind (q.rTab (pile (n - 1)) * 6 + next (n - 1)) < 6
      · have d1 : sjM q (m, pile, next, n) = JS.mk (peM q (pile (n - 1) * 6 + next (n - 1)) (q.sKind (q.rTab (pile (n - 1)) * 6 + next (n - 1))) m) pile (va_up next (n - 1) (next (n - 1) + 1)) n := by rw [sjM, sjX, if_neg c0, if_neg c1, if_pos c2]
        have d2 : sjB q (b, pile, next, n) = JS.mk (peB q (pile (n - 1) * 6 + next (n - 1)) (q.sKind (q.rTab (pile (n - 1)) * 6 + next (n - 1))) b) pile (va_up next (n - 1) (next (n - 1) + 1)) n := by rw [sjB, sjX, if_neg c0, if_neg c1, if_pos c2]
        rw [d2] at hJ2 ⊢
        rw [d1]
        rcases RM_pe (q := q) (c := pile (n - 1) * 6 + next (n - 1)) (k := q.sKind (q.rTab (pile (n - 1)) * 6 + next (n - 1))) hR' with g | g
        · have th := peM_th q (pile (n - 1) * 6 + next (n - 1)) (q.sKind (q.rTab (pile (n - 1)) * 6 + next (n - 1))) m b (Or.inl g.1) g.1.1
          exact Or.inl (stay _ _ g (fun j h => th j (Or.inl h)) (fun _ _ _ => th _ (Or.inr rfl)) hJ2)
        · exact Or.inr g
      · have hk7 := hq.hk (q.rTab (pile (n - 1)) * 6 + next (n - 1))
        have hl := hR'.2.2.1 _ (hq.hl (pile (n - 1) * 6 + next (n - 1)))
        by_cases c3 : b.rcp (q.rLnk (pile (n - 1) * 6 + next (n - 1))) = 0
        · have d1 : sjM q (m, pile, next, n) = JS.mk m (va_up pile n (q.rLnk (pile (n - 1) * 6 + next (n - 1)))) (va_up (va_up next (n - 1) (next (n - 1) + 1)) n 0) (n + 1) := by rw [sjM, sjX, if_neg c0, if_neg c1, if_neg c2, if_pos (hl.trans c3)]
          have d2 : sjB q (b, pile, next, n) = JS.mk b (va_up pile n (q.rLnk (pile (n - 1) * 6 + next (n - 1)))) (va_up (va_up next (n - 1) (next (n - 1) + 1)) n 0) (n + 1) := by rw [sjB, sjX, if_neg c0, if_neg c1, if_neg c2, if_pos c3]
          rw [d2] at hJ2 ⊢
          rw [d1]
          refine Or.inl ⟨rfl, hR', hJ2, fun i hi f hf a1 a2 a3 => ?_⟩
          have hi' : i < n + 1 := hi
          have hf' : f < va_up (va_up next (n - 1) (next (n - 1) + 1)) n 0 i := hf
          have a1' : q.rFil (va_up pile n (q.rLnk (pile (n - 1) * 6 + next (n - 1))) i * 6 + f) = true := a1
          have a2' : ¬ q.sKind (q.rTab (va_up pile n (q.rLnk (pile (n - 1) * 6 + next (n - 1))) i) * 6 + f) < 4 := a2
          have a3' : ¬ q.sKind (q.rTab (va_up pile n (q.rLnk (pile (n - 1) * 6 + next (n - 1))) i) * 6 + f) = 6 := a3
          show m.th (va_up pile n (q.rLnk (pile (n - 1) * 6 + next (n - 1))) i * 6 + f) = b.itm (va_up pile n (q.rLnk (pile (n - 1) * 6 + next (n - 1))) i * 6 + f)
          by_cases ci : i = n
          · rw [ci, va_up_self] at hf'; exact absurd hf' (Nat.not_lt_zero _)
          · rw [va_up_ne _ _ ci] at hf' a1' a2' a3' ⊢
            by_cases cj : i = n - 1
            · rw [cj, va_up_self] at hf'
              by_cases cf : f = next (n - 1)
              · rw [cj, cf] at a3'; exact absurd (by omega) a3'
              · exact hT' i (by omega) f (by rw [cj]; omega) a1' a2' a3'
            · rw [va_up_ne _ _ cj] at hf'
              exact hT' i (by omega) f hf' a1' a2' a3'
        · have d1 : sjM q (m, pile, next, n) = JS.mk m pile (va_up next (n - 1) (next (n - 1) + 1)) n := by rw [sjM, sjX, if_neg c0, if_neg c1, if_neg c2, if_neg (fun z => c3 (hl.symm.trans z))]
          have d2 : sjB q (b, pile, next, n) = JS.mk b pile (va_up next (n - 1) (next (n - 1) + 1)) n := by rw [sjB, sjX, if_neg c0, if_neg c1, if_neg c2, if_neg c3]
          rw [d2] at hJ2 ⊢
          rw [d1]
          exact Or.inl (stay m b hR' (fun _ h => h) (fun _ a2 a3 => absurd (by omega) a3) hJ2)
theorem RJ_it {q : SR} (hq : SOK q) : ∀ (k : Nat) (s : JS MB) (z : JS BS), RJ q s z → RJ q (itJ q k s) (itB q k z) ∨ OV (itJ q k s).x.w (itB q k z).x.wrt
  | 0, s, z, h => Or.inl h
  | k + 1, s, z, h => by
    have en : s.n = z.n := by rw [show s.n = s.2.2.2 from rfl, h.1]
    by_cases c : s.n = 0
    · rw [itJ_dn (Or.inl c), itB_dn (en.symm.trans c)]; exact Or.inl h
    · have hov : s.x.w.ov = false := h.2.1.1.1
      rw [itJ_st (fun z => z.elim c (fun z => by rw [hov] at z; cases z)), itB_st (by omega)]
      rcases RJ_st hq h c with g | g
      · exact RJ_it hq k _ _ g
      · rw [itJ_dn (Or.inr g.1)]
        have := (JI_it hq k _ (JI_st hq h.2.2.1 (by omega)).1).2
        exact Or.inr ⟨g.1, g.2.1, Nat.lt_of_lt_of_le g.2.2 this⟩
/-- the building begins, and ends -/
def j0M (row : Nat → Nat) (pl th sp sh pile next : Nat → Nat) (r : Nat) : JS MB := JS.mk (MB.mk (PW.mk row 0 4 false) pl th sp sh 0) (va_up pile 0 r) (va_up next 0 0) 1
def enM (r : Nat) (m : MB) : PW := (m.w.al m.w.wid 4).pn (nI ((m.w.al m.w.wid 4).wr + 4) - nI (m.pl r)).toInt64 4
theorem zrB_0 (f : Nat → Nat) : ∀ (n i : Nat), n ≤ 240 → i ≤ 240 → 240 < i + n → zrB f n i = 0
  | 0, i, _, h1, h2 => absurd h2 (by omega)
  | n + 1, i, hn, h1, h2 => by
    rw [zrB]
    by_cases c : i = 240 - n
    · rw [c, va_up_self]; exact u8_0
    · rw [va_up_ne _ _ c]; exact zrB_0 f n i (by omega) h1 (by omega)
theorem RJ_0 {q : SR} (row pl th sp sh pile next : Nat → Nat) {r : Nat} (b : BS) (hr : r < 16) (hpl : ∀ k, k < 16 → pl k = 0) : RJ q (j0M row pl th sp sh pile next r) (JS.mk (b0P b) (va_up pile 0 r) (va_up next 0 0) 1) := by
  refine ⟨rfl, ⟨⟨rfl, rfl, Nat.zero_le _, rfl, fun _ i h1 h2 => absurd h2 (by show ¬ i ≤ 0; omega), fun i h1 h2 => zrB_0 _ 240 i (by decide) h2 (by have h1' : 0 < i := h1; omega)⟩, Nat.le_refl _, fun k hk => (hpl k hk).trans (zrI_0 _ _ k hk).symm, rfl, fun s hs => absurd hs (Nat.not_lt_zero _)⟩, ⟨fun i hi => ?_, fun i j h1 h2 => ?_, Nat.zero_le _⟩, fun i hi f hf => ?_⟩
  · have hi' : i < 1 := hi
    show i + 1 + va_up pile 0 r i ≤ 16 ∧ va_up next 0 0 i ≤ q.sLen (q.rTab (va_up pile 0 r i)) ∧ zrI b.rcp 16 (va_up pile 0 r i) = 0
    rw [show i = 0 by omega, va_up_self, va_up_self]
    exact ⟨by omega, Nat.zero_le _, zrI_0 _ _ r hr⟩
  · have h2' : j < 1 := h2
    omega
  · have hi' : i < 1 := hi
    have hf' : f < va_up next 0 0 i := hf
    rw [show i = 0 by omega, va_up_self] at hf'
    exact absurd hf' (Nat.not_lt_zero _)
theorem asE_le (fs : Nat) (b : BS) : b.wrt ≤ (asE fs b).wrt := by
  show b.wrt ≤ alN 4 (alN b.wid b.wrt 4) 0 + 4
  have h1 := alN_le b.wid b.wrt 4
  have h2 := alN_le 4 (alN b.wid b.wrt 4) 0
  omega
theorem ER_end {m : MB} {b : BS} {fs : Nat} (h : RM m b) (hw : b.wid = 4 ∨ b.wid = 8) (hf : fs < 16) : ER (enM fs m) (asE fs b).byt (asE fs b).wrt (asE fs b).wid := by
  obtain ⟨h1, h2, h3, h4, h5⟩ := h
  have hp : pow8 b.wid := hw.elim (fun z => Or.inr (Or.inr (Or.inl z))) (fun z => Or.inr (Or.inr (Or.inr z)))
  show ER _ (wN b.byt (alN b.wid b.wrt 4) (nI (alN b.wid b.wrt 4 + 4) - nI (b.rcp fs)).toInt64 4) (alN 4 (alN b.wid b.wrt 4) 0 + 4) (max (max b.wid b.wid) 4)
  have g := ER_al hp (Or.inl h1) 4
  unfold enM
  rw [h3 fs hf, show m.w.wid = b.wid from h1.2.2.2.1]
  generalize m.w.al b.wid 4 = y at g ⊢
  rcases g with g | g
  · rw [g.2.1]; exact ER_pn p8_4 (Or.inl g) _
  · have gw : W250 y := ⟨by rw [g.2.1]; exact Nat.le_refl _, fun _ => g.2.1⟩
    have k1 := Kp_pn gw (nI (y.wr + 4) - nI (b.rcp fs)).toInt64 4
    have k2 := k1.2.2.2.1 g.1
    have k3 := alN_le 4 (alN b.wid b.wrt 4) 0
    have k4 := g.2.2
    exact Or.inr ⟨k2, k1.1.2 k2, by omega⟩
theorem mB_all {q : SR} (hq : SOK q) (row pl th sp sh pile next : Nat → Nat) {r : Nat} (b : BS) (hr : r < 16) (hpl : ∀ k, k < 16 → pl k = 0) (hO : ∀ j, b.off j < 100000 ∧ b.rcp j < 100000) : ∃ k, dnJ (itJ q k (j0M row pl th sp sh pile next r)) ∧ ER (enM r (itJ q k (j0M row pl th sp sh pile next r)).x) (asP q r b).byt (asP q r b).wrt (asP q r b).wid := by
  have h0 := RJ_0 (q := q) row pl th sp sh pile next b hr hpl
  obtain ⟨k, a1, a2, a3⟩ := PJ_all hq 16 r (JS.mk (b0P b) (va_up pile 0 r) (va_up next 0 0) 1) hr h0.2.2.1 (Nat.succ_pos _) (va_up_self pile 0 r) (va_up_self next 0 0)
  have g := prF_gr hq 16 r 1 (b0P b) hr (by omega) (Nat.le_refl _) (b0P_bi hO)
  refine ⟨k, ?_⟩
  rcases RJ_it hq k _ _ h0 with g1 | g1
  · have en : (itJ q k (j0M row pl th sp sh pile next r)).n = 0 := by
      show (itJ q k (j0M row pl th sp sh pile next r)).2.2.2 = 0
      rw [g1.1]; exact a2
    refine ⟨Or.inl en, ?_⟩
    have hR := g1.2.1
    rw [a1] at hR
    exact ER_end hR g.1.2.2.2.2.1 hr
  · refine ⟨Or.inr g1.1, Or.inr ?_⟩
    have hb := g1.2.2
    rw [a1] at hb
    have gw : W250 (itJ q k (j0M row pl th sp sh pile next r)).x.w := ⟨by rw [g1.2.1]; exact Nat.le_refl _, fun _ => g1.2.1⟩
    have k1 := Kp_al gw (itJ q k (j0M row pl th sp sh pile next r)).x.w.wid 4
    have k2 := k1.tr (Kp_pn k1.1 (nI (((itJ q k (j0M row pl th sp sh pile next r)).x.w.al (itJ q k (j0M row pl th sp sh pile next r)).x.w.wid 4).wr + 4) - nI ((itJ q k (j0M row pl th sp sh pile next r)).x.pl r)).toInt64 4)
    have k3 := k2.2.2.2.1 g1.1
    exact ⟨k3, k2.1.2 k3, Nat.lt_of_lt_of_le hb (asE_le r _)⟩
/-! what is lacked -/
def laS (q : SR) (k f : Nat) (x : Bool × (Nat → Bool)) : Bool × (Nat → Bool) := (if q.sMust (q.rTab k * 6 + f) = true ∧ q.rFil (k * 6 + f) = false then true else x.1, if q.sKind (q.rTab k * 6 + f) = 6 ∧ q.rFil (k * 6 + f) = true then va_up x.2 (q.rLnk (k * 6 + f)) true else x.2)
def laF (q : SR) (k : Nat) (x : Bool × (Nat → Bool)) : Nat → Bool × (Nat → Bool)
  | 0 => x
  | f + 1 => laS q k f (laF q k x f)
def laR (q : SR) (fs : Nat) (x : Bool × (Nat → Bool)) : Nat → Bool × (Nat → Bool)
  | 0 => x
  | j + 1 => if (laR q fs x j).2 (fs + 1 - j - 1) = true then laF q (fs + 1 - j - 1) (laR q fs x j) (q.sLen (q.rTab (fs + 1 - j - 1))) else laR q fs x j
theorem laF_l {q : SR} {k : Nat} {x : Bool × (Nat → Bool)} (h : x.1 = true) : ∀ n, (laF q k x n).1 = true
  | 0 => h
  | n + 1 => by
    show (if _ then true else (laF q k x n).1) = true
    rw [laF_l h n]; split <;> rfl
theorem laF_ok {q : SR} {k : Nat} {rea : Nat → Bool} : ∀ n, (okR q k n = true → laF q k (false, rea) n = (false, haR q k rea n)) ∧ (okR q k n = false → (laF q k (false, rea) n).1 = true)
  | 0 => ⟨fun _ => rfl, fun h => by cases h⟩
  | n + 1 => by
    obtain ⟨i1, i2⟩ := laF_ok (q := q) (k := k) (rea := rea) n
    have e : okR q k (n + 1) = (okR q k n && !(!(q.rFil (k * 6 + n)) && q.sMust (q.rTab k * 6 + n))) := rfl
    constructor
    · intro h
      have h' := h
      rw [e] at h'
      have h1 : okR q k n = true := by revert h'; cases okR q k n <;> simp
      have h2 : ¬ (q.sMust (q.rTab k * 6 + n) = true ∧ q.rFil (k * 6 + n) = false) := by
        rintro ⟨a, b⟩; rw [a, b] at h'; simp at h'
      show laS q k n (laF q k (false, rea) n) = _
      rw [i1 h1, laS, if_neg h2, haR, if_pos h, mkR]
      congr 1
      by_cases c : q.rFil (k * 6 + n) = true ∧ q.sKind (q.rTab k * 6 + n) = 6
      · rw [if_pos c, if_pos ⟨c.2, c.1⟩]
      · rw [if_neg c, if_neg (fun z => c ⟨z.2, z.1⟩)]
    · intro h
      rw [e] at h
      show (if _ then true else (laF q k (false, rea) n).1) = true
      split
      · rfl
      · rename_i c
        apply i2
        cases h1 : okR q k n with
        | false => rfl
        | true =>
          rw [h1] at h
          exfalso; apply c
          revert h
          cases q.rFil (k * 6 + n) <;> cases q.sMust (q.rTab k * 6 + n) <;> simp
theorem laR_l {q : SR} {fs : Nat} {x : Bool × (Nat → Bool)} : ∀ (j n : Nat), j ≤ n → (laR q fs x j).1 = true → (laR q fs x n).1 = true := by
  intro j n
  induction n with
  | zero => intro h1 h2; rw [show j = 0 by omega] at h2; exact h2
  | succ n ih =>
    intro h1 h2
    by_cases c : j = n + 1
    · rw [← c]; exact h2
    · have h3 := ih (by omega) h2
      rw [laR]
      split
      · exact laF_l h3 _
      · exact h3
theorem laR_wh {q : SR} {fs : Nat} {rea : Nat → Bool} : ∀ j, ((whR q fs rea j).1 = true → laR q fs (false, rea) j = (false, (whR q fs rea j).2)) ∧ ((whR q fs rea j).1 = false → (laR q fs (false, rea) j).1 = true) := by
  intro j
  induction j with
  | zero => exact ⟨fun _ => rfl, fun h => by cases h⟩
  | succ j ih =>
    by_cases c1 : (whR q fs rea j).1 = true
    · have e := ih.1 c1
      rw [laR, e]
      by_cases c2 : (whR q fs rea j).2 (fs + 1 - j - 1) = true
      · rw [wh_b c1 c2, if_pos c2]
        exact laF_ok _
      · rw [wh_a (by simpa using c2), if_neg c2]
        exact ⟨fun _ => rfl, fun h => by rw [c1] at h; cases h⟩
    · have c1' : (whR q fs rea j).1 = false := by simpa using c1
      have e := wh_s c1' (j + 1) (by omega)
      rw [e]
      exact ⟨fun h => absurd h c1, fun _ => laR_l j (j + 1) (by omega) (ih.2 c1')⟩
theorem laR_eq {q : SR} {fs : Nat} {rea : Nat → Bool} (j : Nat) : (laR q fs (false, rea) j).1 = !(whR q fs rea j).1 := by
  obtain ⟨h1, h2⟩ := laR_wh (q := q) (fs := fs) (rea := rea) j
  cases c : (whR q fs rea j).1 with
  | true => rw [h1 c]; rfl
  | false => rw [h2 c]; rfl
/-! for the walks -/
abbrev dnA (n h : Nat) (w : PW) : Prop := (w.wr + h) % n = 0 ∨ w.ov = true
theorem alI_dn {n h : Nat} {w : PW} (hd : dnA n h w) : ∀ k, alI n h k w = w
  | 0 => rfl
  | k + 1 => by rw [alI, if_pos hd]
theorem alI_pos {n h k : Nat} {w fin : PW} (hf : alI n h k w = fin) (hd : dnA n h fin) (hw : ¬ dnA n h w) : ∃ j, k = j + 1 ∧ alI n h j (w.pb (nI 0)) = fin := by
  cases k with
  | zero => exact absurd (by rw [show w = fin from hf]; exact hd) hw
  | succ j => exact ⟨j, rfl, by rw [alI, if_neg hw] at hf; exact hf⟩
theorem al_done {n : Nat} (hn : pow8 n) {w : PW} (hw : W250 w) (h : Nat) : dnA n h (w.al n h) := by
  cases c : w.ov with
  | true => exact Or.inr ((Kp_al hw n h).2.2.2.1 c)
  | false =>
    rcases ER_al hn (Or.inl (PR_self hw c)) h with g | g
    · left
      rw [g.2.1]
      unfold alN
      rcases hn with rfl | rfl | rfl | rfl <;> omega
    · exact Or.inr g.1
theorem pb_wid (w : PW) (v : Int32) : (w.pb v).wid = w.wid := by unfold PW.pb; split <;> rfl
theorem alI_wid (n h : Nat) : ∀ k w, (alI n h k w).wid = w.wid
  | 0, _ => rfl
  | k + 1, w => by
    rw [alI]; split
    · rfl
    · rw [alI_wid n h k, pb_wid]
theorem al_wid (w : PW) (n h : Nat) : (w.al n h).wid = max w.wid n := alI_wid n h n _
theorem pnI_wid (w : PW) (v : Int64) (n : Nat) : ∀ i, (pnI w v n i).wid = w.wid
  | 0 => rfl
  | i + 1 => by rw [pnI, pb_wid, pnI_wid w v n i]
theorem pn_wid (w : PW) (v : Int64) (n : Nat) : (w.pn v n).wid = max w.wid n := by rw [PW.pn, pnI_wid, al_wid]
/-- bytes, and a width of four or eight -/
abbrev WI (w : PW) : Prop := (w.wid = 4 ∨ w.wid = 8) ∧ ∀ i, w.row i < 256
abbrev RB (w : PW) : Prop := ∀ i, w.row i < 256
theorem RB_pb {w : PW} (h : RB w) (v : Int32) : RB (w.pb v) := by
  unfold PW.pb
  split
  · exact h
  · intro i
    show va_up w.row (w.wr + 1) (u8 v) i < 256
    by_cases c : i = w.wr + 1
    · rw [c, va_up_self]; exact u8_lt v
    · rw [va_up_ne _ _ c]; exact h i
theorem RB_alI (n hh : Nat) : ∀ k (w : PW), RB w → RB (alI n hh k w)
  | 0, _, h => h
  | k + 1, w, h => by
    rw [alI]; split
    · exact h
    · exact RB_alI n hh k _ (RB_pb h _)
theorem RB_al {w : PW} (h : RB w) (n hh : Nat) : RB (w.al n hh) := RB_alI n hh n _ h
theorem RB_pnI {w : PW} (h : RB w) (v : Int64) (n : Nat) : ∀ i, RB (pnI w v n i)
  | 0 => h
  | i + 1 => RB_pb (RB_pnI h v n i) _
theorem RB_pn {w : PW} (h : RB w) (v : Int64) (n : Nat) : RB (w.pn v n) := RB_pnI (RB_al h n 0) v n n
theorem RB_te {w : PW} (h : RB w) (q : SR) (c : Nat) : ∀ i, RB (teI q c w i)
  | 0 => h
  | i + 1 => RB_pb (RB_te h q c i) _
theorem RB_nr {w : PW} (h : RB w) (val : Nat → Int64) (n : Nat) : ∀ i, RB (nrM val n w i)
  | 0 => h
  | i + 1 => RB_pn (RB_nr h val n i) _ _
theorem w48m {a n : Nat} (h : a = 4 ∨ a = 8) (hn : pow8 n) : max a n = 4 ∨ max a n = 8 := by rcases hn with h1 | h1 | h1 | h1 <;> omega
theorem WI_al {w : PW} (h : WI w) {n : Nat} (hn : pow8 n) (hh : Nat) : WI (w.al n hh) := ⟨by rw [al_wid]; exact w48m h.1 hn, RB_al h.2 n hh⟩
theorem WI_pn {w : PW} (h : WI w) (v : Int64) {n : Nat} (hn : pow8 n) : WI (w.pn v n) := ⟨by rw [pn_wid]; exact w48m h.1 hn, RB_pn h.2 v n⟩
theorem WI_pb {w : PW} (h : WI w) (v : Int32) : WI (w.pb v) := ⟨by rw [pb_wid]; exact h.1, RB_pb h.2 v⟩
theorem WI_te {w : PW} (h : WI w) (q : SR) (c : Nat) : ∀ i, WI (teI q c w i)
  | 0 => h
  | i + 1 => WI_pb (WI_te h q c i) _
theorem WI_nr {w : PW} (h : WI w) (val : Nat → Int64) (n : Nat) : ∀ i, WI (nrM val n w i)
  | 0 => h
  | i + 1 => WI_pn (WI_nr h val n i) _ p8_2
theorem WI_pnI {w : PW} (h : WI w) (v : Int64) (n : Nat) : ∀ i, WI (pnI w v n i)
  | 0 => h
  | i + 1 => WI_pb (WI_pnI h v n i) _
theorem WI_tx {w : PW} (h : WI w) (q : SR) (c : Nat) : WI (txM q c w) := WI_pn (WI_te (WI_pb (WI_al h p8_4 _) _) q c _) _ p8_4
theorem WI_rw {w : PW} (h : WI w) (q : SR) (c : Nat) : WI (rwM q c w) := WI_pn (WI_nr (WI_al h p8_4 _) _ _ _) _ p8_4
theorem WI_w {w : PW} (h : WI w) : w.wid < 1000 := by have := h.1; omega
theorem WI_bf {q : SR} (hq : SOK q) {pl th : Nat → Nat} {r f : Nat} {x : MF} (h : WI x.1) : WI (bfS q pl th r f x).1 := by
  unfold bfS
  split
  · exact h
  · split
    · exact WI_pn (WI_al h p8_4 0) _ p8_4
    · split
      · exact h
      · exact WI_pn h _ (kWd_pow _ (hq.hk _))
theorem WI_bfR {q : SR} (hq : SOK q) {pl th : Nat → Nat} {r : Nat} {x : MF} (h : WI x.1) : ∀ n, WI (bfR q pl th r x n).1
  | 0 => h
  | n + 1 => WI_bf hq (WI_bfR hq h n)
theorem flR_lt {f : Nat → Nat} {p : Nat} {v : Int32} (h : ∀ i, f i < 256) : ∀ n i, flR f p v n i < 256
  | 0, i => h i
  | n + 1, i => by
    rw [flR]
    by_cases c : i = p - n
    · rw [c, va_up_self]; exact u8_lt _
    · rw [va_up_ne _ _ c]; exact flR_lt h n i
theorem WI_of {w : PW} (h : WI w) (sp sh : Nat → Nat) (shs td tp bw : Nat) : WI (ofM w sp sh shs td tp bw) := by
  unfold ofM; split
  · exact h
  · exact WI_nr h _ _ _
theorem WI_fl {w : PW} (h : WI w) (tp : Nat) (v : Int32) : WI (flW w tp v) := by
  unfold flW; split
  · exact h
  · exact ⟨h.1, flR_lt h.2 4⟩
theorem WI_bd {q : SR} (hq : SOK q) {r : Nat} {m : MB} (h : WI m.w) : WI (bdM q r m).w :=
  WI_fl (WI_of (WI_pn (WI_bfR hq (x := (m.w, m.sp)) h _) 0 p8_4) _ _ _ _ _ _) _ _
/-- the shared offsets, for the reading -/
abbrev SHK (row : Nat → Nat) (wr : Nat) (sh : Nat → Nat) (shs : Nat) : Prop := ∀ s, s < shs → 2 ≤ sh s ∧ sh s ≤ wr ∧ rwd row (sh s) 0 ≤ sh s
theorem SHK_kp {w w' : PW} {sh : Nat → Nat} {shs : Nat} (h : SHK w.row w.wr sh shs) (k : Kp w w') : SHK w'.row w'.wr sh shs := by
  intro s hs
  obtain ⟨h1, h2, h3⟩ := h s hs
  have hk := k.2.1
  refine ⟨h1, by omega, ?_⟩
  have e : rwd w'.row (sh s) 0 = rwd w.row (sh s) 0 := by rw [rwd, rwd, k.2.2.1 _ (by omega), k.2.2.1 _ (by omega)]
  rw [e]; exact h3
theorem SHK_of {row : Nat → Nat} {wr : Nat} {sh off ofp : Nat → Nat} {kept : Nat} (h : SHR row wr sh off ofp kept) : SHK row wr sh kept := by
  intro s hs
  obtain ⟨h1, h2, h3, h4, h5, h6, h7⟩ := h s hs
  have := h7 0 (by omega)
  rw [Nat.add_zero] at this
  exact ⟨by omega, h6, by rw [this]; exact h5⟩
theorem wdM_lt {sp : Nat → Nat} {td tp bw k : Nat} (ht : td ≤ 6) (hp : tp ≤ 250) : wdM sp td tp bw k < 1000 := by
  unfold wdM
  split
  · omega
  · split
    · omega
    · split <;> omega
theorem td_0 (sp : Nat → Nat) (n : Nat) : tdR (va_up sp n 0) (n + 1) = tdR sp n := by rw [tdR, va_up_self, if_pos rfl, tdR_up n (Nat.le_refl _)]
theorem td_1 (sp : Nat → Nat) (n : Nat) {v : Nat} (h : ¬ v = 0) : tdR (va_up sp n v) (n + 1) = n + 1 := by rw [tdR, va_up_self, if_neg h]
def tkM (R d : Nat → Nat) (sz n : Nat) : Nat → Nat := fun j => if j < n then R (sz - j) else d j
theorem tkM_s (R d : Nat → Nat) (sz n : Nat) : va_up (tkM R d sz n) n (R (sz - n)) = tkM R d sz (n + 1) := by
  funext j
  unfold tkM
  by_cases c : j = n
  · rw [c, va_up_self, if_pos (by omega)]
  · rw [va_up_ne _ _ c]
    by_cases c2 : j < n
    · rw [if_pos c2, if_pos (by omega)]
    · rw [if_neg c2, if_neg (by omega)]
theorem tkM_e {w : PW} {f d : Nat → Nat} {a wid : Nat} (h : PR w f a wid) (ha : a ≤ 240) : tkM w.row d a a = tkE f d a := by
  funext j
  unfold tkM tkE
  by_cases c : j < a
  · rw [if_pos c, if_pos c]; exact h.2.2.2.2.1 ha _ (by omega) (by omega)
  · rw [if_neg c, if_neg c]
theorem laF_k {q : SR} (hq : SOK q) {k : Nat} (hk : k < 16) {x : Bool × (Nat → Bool)} : ∀ n, n ≤ 6 → (laF q k x n).2 k = x.2 k
  | 0, _ => rfl
  | n + 1, h => by
    show (if _ then va_up (laF q k x n).2 (q.rLnk (k * 6 + n)) true else (laF q k x n).2) k = _
    split
    · rename_i c
      have := hq.hlt k n hk (by omega) c.2 c.1
      rw [va_up_ne _ _ (by omega)]; exact laF_k hq hk n (by omega)
    · exact laF_k hq hk n (by omega)
theorem la_exit {q : SR} {k ff L : Nat} {x : Bool × (Nat → Bool)} (h : 0 < ff → x.2 k = true) (he : ff = L ∨ x.2 k = false) : (if x.2 k = true then laF q k x L else x) = laF q k x ff := by
  by_cases c : x.2 k = true
  · rw [if_pos c]
    rcases he with e | e
    · rw [e]
    · rw [c] at e; cases e
  · rw [if_neg c, show ff = 0 from Nat.eq_zero_of_not_pos (fun z => c (h z))]; rfl
def peW (q : SR) (c k : Nat) (w : PW) : PW := if k = 4 then txM q c w else rwM q c w
theorem peM_eq (q : SR) (c k : Nat) (m : MB) : peM q c k m = MB.mk (peW q c k m.w) m.pl (va_up m.th c (peW q c k m.w).wr) m.sp m.sh m.shs := by
  unfold peM peW; split <;> rfl
theorem WI_pe {w : PW} (h : WI w) (q : SR) (c k : Nat) : WI (peW q c k w) := by
  unfold peW; split
  · exact WI_tx h q c
  · exact WI_rw h q c
theorem sjM_b {q : SR} {m : MB} {pi nx : Nat → Nat} {n : Nat} (h : nx (n - 1) = q.sLen (q.rTab (pi (n - 1)))) : sjM q (JS.mk m pi nx n) = JS.mk (bdM q (pi (n - 1)) m) pi nx (n - 1) := by rw [sjM, sjX, if_pos h]
theorem sjM_0 {q : SR} {m : MB} {pi nx : Nat → Nat} {n : Nat} (h : ¬ nx (n - 1) = q.sLen (q.rTab (pi (n - 1)))) (h1 : q.rFil (pi (n - 1) * 6 + nx (n - 1)) = false ∨ q.sKind (q.rTab (pi (n - 1)) * 6 + nx (n - 1)) < 4) : sjM q (JS.mk m pi nx n) = JS.mk m pi (va_up nx (n - 1) (nx (n - 1) + 1)) n := by rw [sjM, sjX, if_neg h, if_pos h1]
theorem sjM_e {q : SR} {m : MB} {pi nx : Nat → Nat} {n : Nat} (h : ¬ nx (n - 1) = q.sLen (q.rTab (pi (n - 1)))) (h1 : ¬ (q.rFil (pi (n - 1) * 6 + nx (n - 1)) = false ∨ q.sKind (q.rTab (pi (n - 1)) * 6 + nx (n - 1)) < 4)) (h2 : q.sKind (q.rTab (pi (n - 1)) * 6 + nx (n - 1)) < 6) : sjM q (JS.mk m pi nx n) = JS.mk (MB.mk (peW q (pi (n - 1) * 6 + nx (n - 1)) (q.sKind (q.rTab (pi (n - 1)) * 6 + nx (n - 1))) m.w) m.pl (va_up m.th (pi (n - 1) * 6 + nx (n - 1)) (peW q (pi (n - 1) * 6 + nx (n - 1)) (q.sKind (q.rTab (pi (n - 1)) * 6 + nx (n - 1))) m.w).wr) m.sp m.sh m.shs) pi (va_up nx (n - 1) (nx (n - 1) + 1)) n := by rw [sjM, sjX, if_neg h, if_neg h1, if_pos h2, peM_eq]
theorem sjM_p {q : SR} {m : MB} {pi nx : Nat → Nat} {n : Nat} (h : ¬ nx (n - 1) = q.sLen (q.rTab (pi (n - 1)))) (h1 : ¬ (q.rFil (pi (n - 1) * 6 + nx (n - 1)) = false ∨ q.sKind (q.rTab (pi (n - 1)) * 6 + nx (n - 1)) < 4)) (h2 : ¬ q.sKind (q.rTab (pi (n - 1)) * 6 + nx (n - 1)) < 6) (h3 : m.pl (q.rLnk (pi (n - 1) * 6 + nx (n - 1))) = 0) : sjM q (JS.mk m pi nx n) = JS.mk m (va_up pi n (q.rLnk (pi (n - 1) * 6 + nx (n - 1)))) (va_up (va_up nx (n - 1) (nx (n - 1) + 1)) n 0) (n + 1) := by rw [sjM, sjX, if_neg h, if_neg h1, if_neg h2, if_pos h3]
theorem sjM_s {q : SR} {m : MB} {pi nx : Nat → Nat} {n : Nat} (h : ¬ nx (n - 1) = q.sLen (q.rTab (pi (n - 1)))) (h1 : ¬ (q.rFil (pi (n - 1) * 6 + nx (n - 1)) = false ∨ q.sKind (q.rTab (pi (n - 1)) * 6 + nx (n - 1)) < 4)) (h2 : ¬ q.sKind (q.rTab (pi (n - 1)) * 6 + nx (n - 1)) < 6) (h3 : ¬ m.pl (q.rLnk (pi (n - 1) * 6 + nx (n - 1))) = 0) : sjM q (JS.mk m pi nx n) = JS.mk m pi (va_up nx (n - 1) (nx (n - 1) + 1)) n := by rw [sjM, sjX, if_neg h, if_neg h1, if_neg h2, if_neg h3]
theorem WI_sj {q : SR} (hq : SOK q) {s : JS MB} (h : WI s.x.w) : WI (sjM q s).x.w := by
  unfold sjM sjX
  split
  · exact WI_bd hq h
  · split
    · exact h
    · split
      · show WI (peM q _ _ s.x).w
        rw [peM_eq]; exact WI_pe h q _ _
      · split
        · exact h
        · exact h
theorem RJ_facts {q : SR} {s : JS MB} {z : JS BS} (h : RJ q s z) (hn : ¬ s.n = 0) : s.n + s.pile (s.n - 1) ≤ 16 ∧ s.next (s.n - 1) ≤ q.sLen (q.rTab (s.pile (s.n - 1))) ∧ W250 s.x.w ∧ s.x.shs < 16 ∧ SHK s.x.w.row s.x.w.wr s.x.sh s.x.shs := by
  obtain ⟨e, hR, hJ, hT⟩ := h
  have en : s.n = z.n := by rw [show s.n = s.2.2.2 from rfl, e]
  have ep : s.pile = z.pile := by rw [show s.pile = s.2.1 from rfl, e]
  have ex : s.next = z.next := by rw [show s.next = s.2.2.1 from rfl, e]
  obtain ⟨t1, t2, t3⟩ := hJ.1 (z.n - 1) (by omega)
  rw [ep, ex, en]
  refine ⟨by omega, t2, ER.w (Or.inl hR.1), ?_, ?_⟩
  · rw [hR.2.2.2.1]
    exact Nat.lt_of_le_of_lt hJ.2.2 (cn_lt (r := z.pile (z.n - 1)) (by omega) t3)
  · rw [hR.2.2.2.1]; exact SHK_of hR.2.2.2.2
theorem RJ_next {q : SR} (hq : SOK q) {s : JS MB} {z : JS BS} (h : RJ q s z) (hn : ¬ s.n = 0) : (sjM q s).x.w.ov = true ∨ ∃ z, RJ q (sjM q s) z := by
  rcases RJ_st hq h hn with g | g
  · exact Or.inr ⟨_, g⟩
  · exact Or.inl g.1
theorem itJ_pos {q : SR} {k : Nat} {s fin : JS MB} (h : itJ q k s = fin) (hf : dnJ fin) (hs : ¬ dnJ s) : ∃ j, k = j + 1 ∧ itJ q j (sjM q s) = fin := by
  cases k with
  | zero => exact absurd (by rw [show s = fin from h]; exact hf) hs
  | succ j => exact ⟨j, rfl, by rw [← itJ_st hs]; exact h⟩
theorem pnI_ge (w : PW) (v : Int64) (n : Nat) : ∀ i, i ≤ 250 → i ≤ (pnI w v n i).wr
  | 0, _ => Nat.zero_le _
  | i + 1, h => by
    have ih := pnI_ge w v n i (by omega)
    rw [pnI]
    unfold PW.pb
    split
    · rename_i c; show i + 1 ≤ (pnI w v n i).wr; omega
    · show i + 1 ≤ (pnI w v n i).wr + 1; omega
theorem pn4_ge {w : PW} (h : W250 w) (v : Int64) : 4 ≤ (w.pn v 4).wr := pnI_ge _ v 4 4 (by decide)
theorem l_p3 {x : Int32} {td : Nat} (h : x = nI td - 1) : x + nI 3 = nI (td + 2) := by
  rw [h, Int32.sub_eq_add_neg, Int32.add_assoc, show (-1 : Int32) + nI 3 = nI 2 by decide, nI_add]
theorem l_p2 {x : Int32} {td : Nat} (h : x = nI td - 1) : x + nI 2 = nI (td + 2 - 0) - 1 := by
  rw [h, Nat.sub_zero, Int32.sub_eq_add_neg, Int32.sub_eq_add_neg, Int32.add_assoc, Int32.add_comm (-1) (nI 2), ← Int32.add_assoc, nI_add]
theorem p8_1 {w : Nat} (h : pow8 w) : 1 ≤ w ∧ w ≤ 8 := by rcases h with h | h | h | h <;> omega
theorem cdBu {a b c : Prop} [Decidable a] [Decidable b] [Decidable c] : True := trivial
theorem wd_7837caa3 : Cond.fieldLink R_M 114 R_M "written" "I" ∈ kGW := kGW_of (List.mem_of_getElem? (i := 832) (by decide +kernel)) (by decide)
theorem wd_717cc709 : Cond.fieldLink R_M 42 R_M "row" "[I" ∈ kGW := kGW_of (List.mem_of_getElem? (i := 831) (by decide +kernel)) (by decide)
theorem wd_2c07c180 : Cond.fieldLink R_M 117 R_M "over" "Z" ∈ kGW := kGW_of (List.mem_of_getElem? (i := 834) (by decide +kernel)) (by decide)
theorem wd_6c52aa6d : Cond.fieldLink R_M 120 R_M "widest" "I" ∈ kGW := kGW_of (List.mem_of_getElem? (i := 833) (by decide +kernel)) (by decide)
theorem wd_77c1de03 : Cond.methodLink R_M 123 y_M_put ∈ kGW := kGW_of (List.mem_of_getElem? (i := 1013) (by decide +kernel)) (by decide)
theorem wd_a90934a3 : Cond.methodLink R_M 127 y_M_align ∈ kGW := kGW_of (List.mem_of_getElem? (i := 1009) (by decide +kernel)) (by decide)
theorem wd_ab05ea2b : Cond.constantLong R_M 131 255 ∈ kGW := kGW_of (List.mem_of_getElem? (i := 1017) (by decide +kernel)) (by decide)
theorem wd_109caaca : Cond.methodLink R_M 133 y_M_putNumber ∈ kGW := kGW_of (List.mem_of_getElem? (i := 1005) (by decide +kernel)) (by decide)
theorem wd_b7f970ef : Cond.fieldLink R_M 48 R_M "thing" "[I" ∈ kGW := kGW_of (List.mem_of_getElem? (i := 836) (by decide +kernel)) (by decide)
theorem wd_edc4f26f : Cond.fieldLink R_M 51 R_M "spots" "[I" ∈ kGW := kGW_of (List.mem_of_getElem? (i := 837) (by decide +kernel)) (by decide)
set_option maxRecDepth 20000 in
theorem wd_98c8d9b3 : Cond.code y_M_put b_M_put 2 none ∈ kGW := kGW_of (List.mem_of_getElem? (i := 1016) (by rfl)) (by decide)
theorem wd_052429f9 : Cond.instanceMethod y_M_put ∈ kGW := kGW_of (List.mem_of_getElem? (i := 1015) (by decide +kernel)) (by decide)
theorem wd_73018ff2 : Cond.selects R_M y_M_put y_M_put ∈ kGW := kGW_of (List.mem_of_getElem? (i := 30) (by decide +kernel)) (by decide)
set_option maxRecDepth 20000 in
theorem wd_e3affcd1 : Cond.code y_M_align b_M_align 3 none ∈ kGW := kGW_of (List.mem_of_getElem? (i := 1012) (by rfl)) (by decide)
theorem wd_74f06e53 : Cond.instanceMethod y_M_align ∈ kGW := kGW_of (List.mem_of_getElem? (i := 1011) (by decide +kernel)) (by decide)
theorem wd_27be8369 : Cond.selects R_M y_M_align y_M_align ∈ kGW := kGW_of (List.mem_of_getElem? (i := 29) (by decide +kernel)) (by decide)
set_option maxRecDepth 20000 in
theorem wd_30485267 : Cond.code y_M_putNumber b_M_putNumber 5 none ∈ kGW := kGW_of (List.mem_of_getElem? (i := 1008) (by rfl)) (by decide)
theorem wd_451af6e6 : Cond.instanceMethod y_M_putNumber ∈ kGW := kGW_of (List.mem_of_getElem? (i := 1007) (by decide +kernel)) (by decide)
theorem wd_300ed3db : Cond.selects R_M y_M_putNumber y_M_putNumber ∈ kGW := kGW_of (List.mem_of_getElem? (i := 28) (by decide +kernel)) (by decide)
set_option maxRecDepth 20000 in
theorem wd_24734cb7 : Cond.code y_M_putElements b_M_putElements 5 none ∈ kGW := kGW_of (List.mem_of_getElem? (i := 1029) (by rfl)) (by decide)
theorem wd_9ec96592 : Cond.instanceMethod y_M_putElements ∈ kGW := kGW_of (List.mem_of_getElem? (i := 1028) (by decide +kernel)) (by decide)
theorem wd_eedf1771 : Cond.selects R_M y_M_putElements y_M_putElements ∈ kGW := kGW_of (List.mem_of_getElem? (i := 33) (by decide +kernel)) (by decide)
set_option maxRecDepth 20000 in
theorem wd_8bb659cc : Cond.code y_M_word b_M_word 5 (some .int) ∈ kGW := kGW_of (List.mem_of_getElem? (i := 1025) (by rfl)) (by decide)
theorem wd_9f54a54a : Cond.instanceMethod y_M_word ∈ kGW := kGW_of (List.mem_of_getElem? (i := 1024) (by decide +kernel)) (by decide)
theorem wd_0f29432a : Cond.selects R_M y_M_word y_M_word ∈ kGW := kGW_of (List.mem_of_getElem? (i := 32) (by decide +kernel)) (by decide)
theorem d_M_put_0 : decode b_M_put 0 = .ok (.aload_n 0, 1) := by decide +kernel
theorem d_M_put_1 : decode b_M_put 1 = .ok (.getfield 114, 3) := by decide +kernel
theorem d_M_put_4 : decode b_M_put 4 = .ok (.sipush 250, 3) := by decide +kernel
theorem d_M_put_7 : decode b_M_put 7 = .ok (.if_icmp .ne 9, 3) := by decide +kernel
theorem d_M_put_10 : decode b_M_put 10 = .ok (.aload_n 0, 1) := by decide +kernel
theorem d_M_put_11 : decode b_M_put 11 = .ok (.iconst 1, 1) := by decide +kernel
theorem d_M_put_12 : decode b_M_put 12 = .ok (.putfield 117, 3) := by decide +kernel
theorem d_M_put_15 : decode b_M_put 15 = .ok (.return_, 1) := by decide +kernel
theorem d_M_put_16 : decode b_M_put 16 = .ok (.aload_n 0, 1) := by decide +kernel
theorem d_M_put_17 : decode b_M_put 17 = .ok (.dup, 1) := by decide +kernel
theorem d_M_put_18 : decode b_M_put 18 = .ok (.getfield 114, 3) := by decide +kernel
theorem d_M_put_21 : decode b_M_put 21 = .ok (.iconst 1, 1) := by decide +kernel
theorem d_M_put_22 : decode b_M_put 22 = .ok (.iadd, 1) := by decide +kernel
theorem d_M_put_23 : decode b_M_put 23 = .ok (.putfield 114, 3) := by decide +kernel
theorem d_M_put_26 : decode b_M_put 26 = .ok (.aload_n 0, 1) := by decide +kernel
theorem d_M_put_27 : decode b_M_put 27 = .ok (.getfield 42, 3) := by decide +kernel
theorem d_M_put_30 : decode b_M_put 30 = .ok (.sipush 260, 3) := by decide +kernel
theorem d_M_put_33 : decode b_M_put 33 = .ok (.aload_n 0, 1) := by decide +kernel
theorem d_M_put_34 : decode b_M_put 34 = .ok (.getfield 114, 3) := by decide +kernel
theorem d_M_put_37 : decode b_M_put 37 = .ok (.isub, 1) := by decide +kernel
theorem d_M_put_38 : decode b_M_put 38 = .ok (.iload_n 1, 1) := by decide +kernel
theorem d_M_put_39 : decode b_M_put 39 = .ok (.sipush 255, 3) := by decide +kernel
theorem d_M_put_42 : decode b_M_put 42 = .ok (.iand, 1) := by decide +kernel
theorem d_M_put_43 : decode b_M_put 43 = .ok (.iastore, 1) := by decide +kernel
theorem d_M_put_44 : decode b_M_put 44 = .ok (.return_, 1) := by decide +kernel
theorem d_M_align_0 : decode b_M_align 0 = .ok (.iload_n 1, 1) := by decide +kernel
theorem d_M_align_1 : decode b_M_align 1 = .ok (.aload_n 0, 1) := by decide +kernel
theorem d_M_align_2 : decode b_M_align 2 = .ok (.getfield 120, 3) := by decide +kernel
theorem d_M_align_5 : decode b_M_align 5 = .ok (.if_icmp .le 8, 3) := by decide +kernel
theorem d_M_align_8 : decode b_M_align 8 = .ok (.aload_n 0, 1) := by decide +kernel
theorem d_M_align_9 : decode b_M_align 9 = .ok (.iload_n 1, 1) := by decide +kernel
theorem d_M_align_10 : decode b_M_align 10 = .ok (.putfield 120, 3) := by decide +kernel
theorem d_M_align_13 : decode b_M_align 13 = .ok (.aload_n 0, 1) := by decide +kernel
theorem d_M_align_14 : decode b_M_align 14 = .ok (.getfield 114, 3) := by decide +kernel
theorem d_M_align_17 : decode b_M_align 17 = .ok (.iload_n 2, 1) := by decide +kernel
theorem d_M_align_18 : decode b_M_align 18 = .ok (.iadd, 1) := by decide +kernel
theorem d_M_align_19 : decode b_M_align 19 = .ok (.iload_n 1, 1) := by decide +kernel
theorem d_M_align_20 : decode b_M_align 20 = .ok (.irem, 1) := by decide +kernel
theorem d_M_align_21 : decode b_M_align 21 = .ok (.ifCond .eq 18, 3) := by decide +kernel
theorem d_M_align_24 : decode b_M_align 24 = .ok (.aload_n 0, 1) := by decide +kernel
theorem d_M_align_25 : decode b_M_align 25 = .ok (.getfield 117, 3) := by decide +kernel
theorem d_M_align_28 : decode b_M_align 28 = .ok (.ifCond .ne 11, 3) := by decide +kernel
theorem d_M_align_31 : decode b_M_align 31 = .ok (.aload_n 0, 1) := by decide +kernel
theorem d_M_align_32 : decode b_M_align 32 = .ok (.iconst 0, 1) := by decide +kernel
theorem d_M_align_33 : decode b_M_align 33 = .ok (.invokevirtual 123, 3) := by decide +kernel
theorem d_M_align_36 : decode b_M_align 36 = .ok (.goto (-23), 3) := by decide +kernel
theorem d_M_align_39 : decode b_M_align 39 = .ok (.return_, 1) := by decide +kernel
theorem d_M_putNumber_0 : decode b_M_putNumber 0 = .ok (.aload_n 0, 1) := by decide +kernel
theorem d_M_putNumber_1 : decode b_M_putNumber 1 = .ok (.iload_n 1, 1) := by decide +kernel
theorem d_M_putNumber_2 : decode b_M_putNumber 2 = .ok (.iconst 0, 1) := by decide +kernel
theorem d_M_putNumber_3 : decode b_M_putNumber 3 = .ok (.invokevirtual 127, 3) := by decide +kernel
theorem d_M_putNumber_6 : decode b_M_putNumber 6 = .ok (.iload_n 1, 1) := by decide +kernel
theorem d_M_putNumber_7 : decode b_M_putNumber 7 = .ok (.iconst 1, 1) := by decide +kernel
theorem d_M_putNumber_8 : decode b_M_putNumber 8 = .ok (.isub, 1) := by decide +kernel
theorem d_M_putNumber_9 : decode b_M_putNumber 9 = .ok (.istore 4, 2) := by decide +kernel
theorem d_M_putNumber_11 : decode b_M_putNumber 11 = .ok (.iload 4, 2) := by decide +kernel
theorem d_M_putNumber_13 : decode b_M_putNumber 13 = .ok (.ifCond .lt 25, 3) := by decide +kernel
theorem d_M_putNumber_16 : decode b_M_putNumber 16 = .ok (.aload_n 0, 1) := by decide +kernel
theorem d_M_putNumber_17 : decode b_M_putNumber 17 = .ok (.lload_n 2, 1) := by decide +kernel
theorem d_M_putNumber_18 : decode b_M_putNumber 18 = .ok (.bipush 8, 2) := by decide +kernel
theorem d_M_putNumber_20 : decode b_M_putNumber 20 = .ok (.iload 4, 2) := by decide +kernel
theorem d_M_putNumber_22 : decode b_M_putNumber 22 = .ok (.imul, 1) := by decide +kernel
theorem d_M_putNumber_23 : decode b_M_putNumber 23 = .ok (.lshr, 1) := by decide +kernel
theorem d_M_putNumber_24 : decode b_M_putNumber 24 = .ok (.ldc2_w 131, 3) := by decide +kernel
theorem d_M_putNumber_27 : decode b_M_putNumber 27 = .ok (.land, 1) := by decide +kernel
theorem d_M_putNumber_28 : decode b_M_putNumber 28 = .ok (.l2i, 1) := by decide +kernel
theorem d_M_putNumber_29 : decode b_M_putNumber 29 = .ok (.invokevirtual 123, 3) := by decide +kernel
theorem d_M_putNumber_32 : decode b_M_putNumber 32 = .ok (.iinc 4 (-1), 3) := by decide +kernel
theorem d_M_putNumber_35 : decode b_M_putNumber 35 = .ok (.goto (-24), 3) := by decide +kernel
theorem d_M_putNumber_38 : decode b_M_putNumber 38 = .ok (.return_, 1) := by decide +kernel
theorem d_M_putElements_0 : decode b_M_putElements 0 = .ok (.aload_n 0, 1) := by decide +kernel
theorem d_M_putElements_1 : decode b_M_putElements 1 = .ok (.getfield 33, 3) := by decide +kernel
theorem d_M_putElements_4 : decode b_M_putElements 4 = .ok (.iload_n 1, 1) := by decide +kernel
theorem d_M_putElements_5 : decode b_M_putElements 5 = .ok (.iaload, 1) := by decide +kernel
theorem d_M_putElements_6 : decode b_M_putElements 6 = .ok (.istore_n 3, 1) := by decide +kernel
theorem d_M_putElements_7 : decode b_M_putElements 7 = .ok (.iload_n 2, 1) := by decide +kernel
theorem d_M_putElements_8 : decode b_M_putElements 8 = .ok (.iconst 4, 1) := by decide +kernel
theorem d_M_putElements_9 : decode b_M_putElements 9 = .ok (.if_icmp .ne 51, 3) := by decide +kernel
theorem d_M_putElements_12 : decode b_M_putElements 12 = .ok (.aload_n 0, 1) := by decide +kernel
theorem d_M_putElements_13 : decode b_M_putElements 13 = .ok (.iconst 4, 1) := by decide +kernel
theorem d_M_putElements_14 : decode b_M_putElements 14 = .ok (.iload_n 3, 1) := by decide +kernel
theorem d_M_putElements_15 : decode b_M_putElements 15 = .ok (.iconst 1, 1) := by decide +kernel
theorem d_M_putElements_16 : decode b_M_putElements 16 = .ok (.iadd, 1) := by decide +kernel
theorem d_M_putElements_17 : decode b_M_putElements 17 = .ok (.invokevirtual 127, 3) := by decide +kernel
theorem d_M_putElements_20 : decode b_M_putElements 20 = .ok (.aload_n 0, 1) := by decide +kernel
theorem d_M_putElements_21 : decode b_M_putElements 21 = .ok (.iconst 0, 1) := by decide +kernel
theorem d_M_putElements_22 : decode b_M_putElements 22 = .ok (.invokevirtual 123, 3) := by decide +kernel
theorem d_M_putElements_25 : decode b_M_putElements 25 = .ok (.iload_n 3, 1) := by decide +kernel
theorem d_M_putElements_26 : decode b_M_putElements 26 = .ok (.iconst 1, 1) := by decide +kernel
theorem d_M_putElements_27 : decode b_M_putElements 27 = .ok (.isub, 1) := by decide +kernel
theorem d_M_putElements_28 : decode b_M_putElements 28 = .ok (.istore 4, 2) := by decide +kernel
theorem d_M_putElements_30 : decode b_M_putElements 30 = .ok (.iload 4, 2) := by decide +kernel
theorem d_M_putElements_32 : decode b_M_putElements 32 = .ok (.ifCond .lt 25, 3) := by decide +kernel
theorem d_M_putElements_35 : decode b_M_putElements 35 = .ok (.aload_n 0, 1) := by decide +kernel
theorem d_M_putElements_36 : decode b_M_putElements 36 = .ok (.aload_n 0, 1) := by decide +kernel
theorem d_M_putElements_37 : decode b_M_putElements 37 = .ok (.getfield 36, 3) := by decide +kernel
theorem d_M_putElements_40 : decode b_M_putElements 40 = .ok (.bipush 12, 2) := by decide +kernel
theorem d_M_putElements_42 : decode b_M_putElements 42 = .ok (.iload_n 1, 1) := by decide +kernel
theorem d_M_putElements_43 : decode b_M_putElements 43 = .ok (.imul, 1) := by decide +kernel
theorem d_M_putElements_44 : decode b_M_putElements 44 = .ok (.iload 4, 2) := by decide +kernel
theorem d_M_putElements_46 : decode b_M_putElements 46 = .ok (.iadd, 1) := by decide +kernel
theorem d_M_putElements_47 : decode b_M_putElements 47 = .ok (.iaload, 1) := by decide +kernel
theorem d_M_putElements_48 : decode b_M_putElements 48 = .ok (.invokevirtual 123, 3) := by decide +kernel
theorem d_M_putElements_51 : decode b_M_putElements 51 = .ok (.iinc 4 (-1), 3) := by decide +kernel
theorem d_M_putElements_54 : decode b_M_putElements 54 = .ok (.goto (-24), 3) := by decide +kernel
theorem d_M_putElements_57 : decode b_M_putElements 57 = .ok (.goto 45, 3) := by decide +kernel
theorem d_M_putElements_60 : decode b_M_putElements 60 = .ok (.aload_n 0, 1) := by decide +kernel
theorem d_M_putElements_61 : decode b_M_putElements 61 = .ok (.iconst 4, 1) := by decide +kernel
theorem d_M_putElements_62 : decode b_M_putElements 62 = .ok (.iconst 2, 1) := by decide +kernel
theorem d_M_putElements_63 : decode b_M_putElements 63 = .ok (.iload_n 3, 1) := by decide +kernel
theorem d_M_putElements_64 : decode b_M_putElements 64 = .ok (.imul, 1) := by decide +kernel
theorem d_M_putElements_65 : decode b_M_putElements 65 = .ok (.invokevirtual 127, 3) := by decide +kernel
theorem d_M_putElements_68 : decode b_M_putElements 68 = .ok (.iload_n 3, 1) := by decide +kernel
theorem d_M_putElements_69 : decode b_M_putElements 69 = .ok (.iconst 1, 1) := by decide +kernel
theorem d_M_putElements_70 : decode b_M_putElements 70 = .ok (.isub, 1) := by decide +kernel
theorem d_M_putElements_71 : decode b_M_putElements 71 = .ok (.istore 4, 2) := by decide +kernel
theorem d_M_putElements_73 : decode b_M_putElements 73 = .ok (.iload 4, 2) := by decide +kernel
theorem d_M_putElements_75 : decode b_M_putElements 75 = .ok (.ifCond .lt 27, 3) := by decide +kernel
theorem d_M_putElements_78 : decode b_M_putElements 78 = .ok (.aload_n 0, 1) := by decide +kernel
theorem d_M_putElements_79 : decode b_M_putElements 79 = .ok (.iconst 2, 1) := by decide +kernel
theorem d_M_putElements_80 : decode b_M_putElements 80 = .ok (.aload_n 0, 1) := by decide +kernel
theorem d_M_putElements_81 : decode b_M_putElements 81 = .ok (.getfield 36, 3) := by decide +kernel
theorem d_M_putElements_84 : decode b_M_putElements 84 = .ok (.bipush 12, 2) := by decide +kernel
theorem d_M_putElements_86 : decode b_M_putElements 86 = .ok (.iload_n 1, 1) := by decide +kernel
theorem d_M_putElements_87 : decode b_M_putElements 87 = .ok (.imul, 1) := by decide +kernel
theorem d_M_putElements_88 : decode b_M_putElements 88 = .ok (.iload 4, 2) := by decide +kernel
theorem d_M_putElements_90 : decode b_M_putElements 90 = .ok (.iadd, 1) := by decide +kernel
theorem d_M_putElements_91 : decode b_M_putElements 91 = .ok (.iaload, 1) := by decide +kernel
theorem d_M_putElements_92 : decode b_M_putElements 92 = .ok (.i2l, 1) := by decide +kernel
theorem d_M_putElements_93 : decode b_M_putElements 93 = .ok (.invokevirtual 133, 3) := by decide +kernel
theorem d_M_putElements_96 : decode b_M_putElements 96 = .ok (.iinc 4 (-1), 3) := by decide +kernel
theorem d_M_putElements_99 : decode b_M_putElements 99 = .ok (.goto (-26), 3) := by decide +kernel
theorem d_M_putElements_102 : decode b_M_putElements 102 = .ok (.aload_n 0, 1) := by decide +kernel
theorem d_M_putElements_103 : decode b_M_putElements 103 = .ok (.iconst 4, 1) := by decide +kernel
theorem d_M_putElements_104 : decode b_M_putElements 104 = .ok (.iload_n 3, 1) := by decide +kernel
theorem d_M_putElements_105 : decode b_M_putElements 105 = .ok (.i2l, 1) := by decide +kernel
theorem d_M_putElements_106 : decode b_M_putElements 106 = .ok (.invokevirtual 133, 3) := by decide +kernel
theorem d_M_putElements_109 : decode b_M_putElements 109 = .ok (.aload_n 0, 1) := by decide +kernel
theorem d_M_putElements_110 : decode b_M_putElements 110 = .ok (.getfield 48, 3) := by decide +kernel
theorem d_M_putElements_113 : decode b_M_putElements 113 = .ok (.iload_n 1, 1) := by decide +kernel
theorem d_M_putElements_114 : decode b_M_putElements 114 = .ok (.aload_n 0, 1) := by decide +kernel
theorem d_M_putElements_115 : decode b_M_putElements 115 = .ok (.getfield 114, 3) := by decide +kernel
theorem d_M_putElements_118 : decode b_M_putElements 118 = .ok (.iastore, 1) := by decide +kernel
theorem d_M_putElements_119 : decode b_M_putElements 119 = .ok (.return_, 1) := by decide +kernel
theorem d_M_word_0 : decode b_M_word 0 = .ok (.iload 4, 2) := by decide +kernel
theorem d_M_word_2 : decode b_M_word 2 = .ok (.ifCond .ne 11, 3) := by decide +kernel
theorem d_M_word_5 : decode b_M_word 5 = .ok (.iconst 2, 1) := by decide +kernel
theorem d_M_word_6 : decode b_M_word 6 = .ok (.iload_n 3, 1) := by decide +kernel
theorem d_M_word_7 : decode b_M_word 7 = .ok (.iconst 3, 1) := by decide +kernel
theorem d_M_word_8 : decode b_M_word 8 = .ok (.iadd, 1) := by decide +kernel
theorem d_M_word_9 : decode b_M_word 9 = .ok (.imul, 1) := by decide +kernel
theorem d_M_word_10 : decode b_M_word 10 = .ok (.goto 42, 3) := by decide +kernel
theorem d_M_word_13 : decode b_M_word 13 = .ok (.iload 4, 2) := by decide +kernel
theorem d_M_word_15 : decode b_M_word 15 = .ok (.iconst 1, 1) := by decide +kernel
theorem d_M_word_16 : decode b_M_word 16 = .ok (.if_icmp .ne 9, 3) := by decide +kernel
theorem d_M_word_19 : decode b_M_word 19 = .ok (.iload_n 1, 1) := by decide +kernel
theorem d_M_word_20 : decode b_M_word 20 = .ok (.iload_n 2, 1) := by decide +kernel
theorem d_M_word_21 : decode b_M_word 21 = .ok (.isub, 1) := by decide +kernel
theorem d_M_word_22 : decode b_M_word 22 = .ok (.goto 30, 3) := by decide +kernel
theorem d_M_word_25 : decode b_M_word 25 = .ok (.aload_n 0, 1) := by decide +kernel
theorem d_M_word_26 : decode b_M_word 26 = .ok (.getfield 51, 3) := by decide +kernel
theorem d_M_word_29 : decode b_M_word 29 = .ok (.iload 4, 2) := by decide +kernel
theorem d_M_word_31 : decode b_M_word 31 = .ok (.iconst 2, 1) := by decide +kernel
theorem d_M_word_32 : decode b_M_word 32 = .ok (.isub, 1) := by decide +kernel
theorem d_M_word_33 : decode b_M_word 33 = .ok (.iaload, 1) := by decide +kernel
theorem d_M_word_34 : decode b_M_word 34 = .ok (.ifCond .ne 7, 3) := by decide +kernel
theorem d_M_word_37 : decode b_M_word 37 = .ok (.iconst 0, 1) := by decide +kernel
theorem d_M_word_38 : decode b_M_word 38 = .ok (.goto 14, 3) := by decide +kernel
theorem d_M_word_41 : decode b_M_word 41 = .ok (.iload_n 1, 1) := by decide +kernel
theorem d_M_word_42 : decode b_M_word 42 = .ok (.aload_n 0, 1) := by decide +kernel
theorem d_M_word_43 : decode b_M_word 43 = .ok (.getfield 51, 3) := by decide +kernel
theorem d_M_word_46 : decode b_M_word 46 = .ok (.iload 4, 2) := by decide +kernel
theorem d_M_word_48 : decode b_M_word 48 = .ok (.iconst 2, 1) := by decide +kernel
theorem d_M_word_49 : decode b_M_word 49 = .ok (.isub, 1) := by decide +kernel
theorem d_M_word_50 : decode b_M_word 50 = .ok (.iaload, 1) := by decide +kernel
theorem d_M_word_51 : decode b_M_word 51 = .ok (.isub, 1) := by decide +kernel
theorem d_M_word_52 : decode b_M_word 52 = .ok (.ireturn, 1) := by decide +kernel
theorem m_M_put : kIV y_M_put b_M_put 2 none 1 := ⟨⟨wd_98c8d9b3, wd_5cde94ae, ⟨by decide, by decide⟩, by decide +kernel⟩, wd_052429f9, wd_73018ff2⟩
theorem m_M_align : kIV y_M_align b_M_align 3 none 2 := ⟨⟨wd_e3affcd1, wd_5cde94ae, ⟨by decide, by decide⟩, by decide +kernel⟩, wd_74f06e53, wd_27be8369⟩
theorem m_M_putNumber : kIV y_M_putNumber b_M_putNumber 5 none 2 := ⟨⟨wd_30485267, wd_5cde94ae, ⟨by decide, by decide⟩, by decide +kernel⟩, wd_451af6e6, wd_300ed3db⟩
theorem m_M_putElements : kIV y_M_putElements b_M_putElements 5 none 2 := ⟨⟨wd_24734cb7, wd_5cde94ae, ⟨by decide, by decide⟩, by decide +kernel⟩, wd_9ec96592, wd_eedf1771⟩
theorem m_M_word : kIV y_M_word b_M_word 5 (some .int) 4 := ⟨⟨wd_8bb659cc, wd_5cde94ae, ⟨by decide, by decide⟩, by decide +kernel⟩, wd_9f54a54a, wd_0f29432a⟩
set_option maxHeartbeats 4000000 in
set_option maxRecDepth 100000 in
theorem m_put (l : Launch) (D : va_G) (am : Nat → Nat) (gm : Nat → ClassId) (tw : Nat) (sLen sKind : Nat → Nat) (sExt : Nat → Int32) (sMust : Nat → Bool) (rTab : Nat → Nat) (rFil : Nat → Bool) (mNum : Nat → Int64) (rLen : Nat → Nat) (rItm : Nat → Int32) (made : Nat) (pItm : Nat → Int32) (held : Nat) (dByt : Nat → Nat) (dLen : Nat) (ver : Bool) (fAdr fTab adr tab : Nat) (lf : Int32) (mCode : Nat) (row : Nat → Nat) (mWr mWid : Nat) (mOv : Bool) (mPl mTh mSp mPile mNext mSh : Nat → Nat) (mShs : Nat) (mRea : Nat → Bool) (mWg : Int32) (mEn mDp : Nat) (mAt mTb mSt : Nat → Nat) (x : Int32)  (hw : W250 (PW.mk row mWr mWid mOv)) : kM l y_M_put b_M_put 2 none ({ frames := 0, cells := 0, slots := 0, locals := 0 }) D vwCl (WmT gm) tw [.ref (am 0), .int x] (Wm am gm sLen sKind sExt sMust rTab rFil mNum rLen rItm made pItm held dByt dLen ver fAdr fTab adr tab lf mCode row mWr mWid mOv mPl mTh mSp mPile mNext mSh mShs mRea mWg mEn mDp mAt mTb mSt) none (Wm am gm sLen sKind sExt sMust rTab rFil mNum rLen rItm made pItm held dByt dLen ver fAdr fTab adr tab lf mCode (((PW.mk row mWr mWid mOv).pb x).row) (((PW.mk row mWr mWid mOv).pb x).wr) (((PW.mk row mWr mWid mOv).pb x).wid) (((PW.mk row mWr mWid mOv).pb x).ov) mPl mTh mSp mPile mNext mSh mShs mRea mWg mEn mDp mAt mTb mSt) := by
  refine k_of (by decide) (Nat.le_of_ble_eq_true rfl) ?_
  intro p e s m below meth c A ls hx hb hr hlocks hml hts hown hin0 hA hP hK hD hS hZ hl
  have hl : lv_has ls 2 [(0, .ref (am 0)), (1, .int x)] := hl
  have hw1 : mWr ≤ 250 := hw.1
  refine lv_aload_n hx hb d_M_put_0 rfl (lv_at hl 0 rfl) ?_
  refine va_get (D := D) (ci := 8) (C := R_M) (T := T_M) (N := 39) hx hb hts (fun w h => kT w (i_M w h)) hown hK hP 0 rfl rfl 14 (by decide) (hts _ (kT _ wd_7837caa3)) (fun _ h9 => h9) rfl d_M_put_1 ?_
  refine lv_sipush (v := nI 250) hx hb d_M_put_4 (by decide) ?_
  refine lv_icmp_ne (tgt := 16) hx hb d_M_put_7 (by decide) (fun c_7 => ?_) (fun c_7 => ?_)
  · skip
    have c_7 := mt (nI_eq (by omega) (by omega)).mpr c_7
    refine lv_aload_n hx hb d_M_put_16 rfl (lv_at hl 0 rfl) ?_
    refine lv_dup hx hb d_M_put_17 rfl ?_
    refine va_get (D := D) (ci := 8) (C := R_M) (T := T_M) (N := 39) hx hb hts (fun w h => kT w (i_M w h)) hown hK hP 0 rfl rfl 14 (by decide) (hts _ (kT _ wd_7837caa3)) (fun _ h9 => h9) rfl d_M_put_18 ?_
    refine lv_iconst (v := nI 1) hx hb d_M_put_21 (by decide) ?_
    refine lv_iadd hx hb d_M_put_22 ?_
    refine lv_eqi (nI_add _ _) ?_
    refine va_put (D := D) (ci := 8) (ty := .int) (C := R_M) (T := T_M) (N := 39) hx hb hts (fun w h => kT w (i_M w h)) ty_M tyk_M nm_M hown hK hP hD hS 0 rfl rfl 14 (by decide) (hts _ (kT _ wd_7837caa3)) (fun _ h9 => h9) rfl (by decide +kernel) rfl rfl (Nat.le_of_ble_eq_true rfl) d_M_put_23 (fun H locs hP hD hS => ?_)
    have hP : va_P D vwCl (Wm am gm sLen sKind sExt sMust rTab rFil mNum rLen rItm made pItm held dByt dLen ver fAdr fTab adr tab lf mCode row (mWr + 1) mWid mOv mPl mTh mSp mPile mNext mSh mShs mRea mWg mEn mDp mAt mTb mSt) H := hP
    have hD : va_D A (Wm am gm sLen sKind sExt sMust rTab rFil mNum rLen rItm made pItm held dByt dLen ver fAdr fTab adr tab lf mCode row (mWr + 1) mWid mOv mPl mTh mSp mPile mNext mSh mShs mRea mWg mEn mDp mAt mTb mSt) := hD
    refine lv_aload_n hx hb d_M_put_26 rfl (lv_at hl 0 rfl) ?_
    refine va_get (D := D) (ci := 8) (C := R_M) (T := T_M) (N := 39) hx hb hts (fun w h => kT w (i_M w h)) hown hK hP 0 rfl rfl 13 (by decide) (hts _ (kT _ wd_717cc709)) (fun _ h9 => h9) rfl d_M_put_27 ?_
    refine lv_sipush (v := nI 260) hx hb d_M_put_30 (by decide) ?_
    refine lv_aload_n hx hb d_M_put_33 rfl (lv_at hl 0 rfl) ?_
    refine va_get (D := D) (ci := 8) (C := R_M) (T := T_M) (N := 39) hx hb hts (fun w h => kT w (i_M w h)) hown hK hP 0 rfl rfl 14 (by decide) (hts _ (kT _ wd_7837caa3)) (fun _ h9 => h9) rfl d_M_put_34 ?_
    refine lv_isub hx hb d_M_put_37 ?_
    refine lv_eqi (pk_sub (by omega)) ?_
    refine lv_iload_n hx hb d_M_put_38 rfl (lv_at hl 1 rfl) ?_
    refine lv_sipush (v := nI 255) hx hb d_M_put_39 (by decide) ?_
    refine lv_iand hx hb d_M_put_42 ?_
    refine lv_eqi (b255 x) ?_
    refine rw_iast hx hb hK hP hD hS 11 10 rfl rfl (k := (mWr + 1)) (by omega) (by omega) d_M_put_43 (fun H locs hP hD hS => ?_)
    have hP : va_P D vwCl (Wm am gm sLen sKind sExt sMust rTab rFil mNum rLen rItm made pItm held dByt dLen ver fAdr fTab adr tab lf mCode (va_up row (mWr + 1) (u8 x)) (mWr + 1) mWid mOv mPl mTh mSp mPile mNext mSh mShs mRea mWg mEn mDp mAt mTb mSt) H := hP
    have hD : va_D A (Wm am gm sLen sKind sExt sMust rTab rFil mNum rLen rItm made pItm held dByt dLen ver fAdr fTab adr tab lf mCode (va_up row (mWr + 1) (u8 x)) (mWr + 1) mWid mOv mPl mTh mSp mPile mNext mSh mShs mRea mWg mEn mDp mAt mTb mSt) := hD
    have hv : (PW.mk row mWr mWid mOv).pb x = PW.mk (va_up row (mWr + 1) (u8 x)) (mWr + 1) mWid mOv := by rw [PW.pb, if_neg c_7]
    exact k_vret hx hb hr hlocks hK hP hD hS (trivial) (by rw [hv]; first | done | rfl) d_M_put_44
  · skip
    have c_7 := (nI_eq (by omega) (by omega)).mp c_7
    refine lv_aload_n hx hb d_M_put_10 rfl (lv_at hl 0 rfl) ?_
    refine lv_iconst (v := nI 1) hx hb d_M_put_11 (by decide) ?_
    refine lv_eqi (show nI 1 = bI true by decide) ?_
    refine va_put (D := D) (ci := 8) (ty := .boolean) (C := R_M) (T := T_M) (N := 39) hx hb hts (fun w h => kT w (i_M w h)) ty_M tyk_M nm_M hown hK hP hD hS 0 rfl rfl 16 (by decide) (hts _ (kT _ wd_2c07c180)) (fun _ h9 => h9) rfl (by decide +kernel) (bI_nar _) (bI_fits _) (Nat.le_of_ble_eq_true rfl) d_M_put_12 (fun H locs hP hD hS => ?_)
    have hP : va_P D vwCl (Wm am gm sLen sKind sExt sMust rTab rFil mNum rLen rItm made pItm held dByt dLen ver fAdr fTab adr tab lf mCode row mWr mWid true mPl mTh mSp mPile mNext mSh mShs mRea mWg mEn mDp mAt mTb mSt) H := hP
    have hD : va_D A (Wm am gm sLen sKind sExt sMust rTab rFil mNum rLen rItm made pItm held dByt dLen ver fAdr fTab adr tab lf mCode row mWr mWid true mPl mTh mSp mPile mNext mSh mShs mRea mWg mEn mDp mAt mTb mSt) := hD
    have hv : (PW.mk row mWr mWid mOv).pb x = PW.mk row mWr mWid true := by rw [PW.pb, if_pos c_7]
    exact k_vret hx hb hr hlocks hK hP hD hS (trivial) (by rw [hv]; first | done | rfl) d_M_put_15
set_option maxHeartbeats 4000000 in
set_option maxRecDepth 100000 in
theorem m_align (l : Launch) (D : va_G) (am : Nat → Nat) (gm : Nat → ClassId) (tw : Nat) (sLen sKind : Nat → Nat) (sExt : Nat → Int32) (sMust : Nat → Bool) (rTab : Nat → Nat) (rFil : Nat → Bool) (mNum : Nat → Int64) (rLen : Nat → Nat) (rItm : Nat → Int32) (made : Nat) (pItm : Nat → Int32) (held : Nat) (dByt : Nat → Nat) (dLen : Nat) (ver : Bool) (fAdr fTab adr tab : Nat) (lf : Int32) (mCode : Nat) (row : Nat → Nat) (mWr mWid : Nat) (mOv : Bool) (mPl mTh mSp mPile mNext mSh : Nat → Nat) (mShs : Nat) (mRea : Nat → Bool) (mWg : Int32) (mEn mDp : Nat) (mAt mTb mSt : Nat → Nat) (w0 : Nat) (h0 : Nat)  (hp : pow8 w0) (hw : W250 (PW.mk row mWr mWid mOv)) (hh : h0 < 100000) (hwd : mWid < 1000) : kM l y_M_align b_M_align 3 none ({ frames := 1, cells := 0, slots := 0, locals := 21 }) D vwCl (WmT gm) tw [.ref (am 0), .int (nI w0), .int (nI h0)] (Wm am gm sLen sKind sExt sMust rTab rFil mNum rLen rItm made pItm held dByt dLen ver fAdr fTab adr tab lf mCode row mWr mWid mOv mPl mTh mSp mPile mNext mSh mShs mRea mWg mEn mDp mAt mTb mSt) none (Wm am gm sLen sKind sExt sMust rTab rFil mNum rLen rItm made pItm held dByt dLen ver fAdr fTab adr tab lf mCode (((PW.mk row mWr mWid mOv).al w0 h0).row) (((PW.mk row mWr mWid mOv).al w0 h0).wr) (((PW.mk row mWr mWid mOv).al w0 h0).wid) (((PW.mk row mWr mWid mOv).al w0 h0).ov) mPl mTh mSp mPile mNext mSh mShs mRea mWg mEn mDp mAt mTb mSt) := by
  refine k_of (by decide) (Nat.le_of_ble_eq_true rfl) ?_
  intro p e s m below meth c A ls hx hb hr hlocks hml hts hown hin0 hA hP hK hD hS hZ hl
  have hl : lv_has ls 3 [(0, .ref (am 0)), (1, .int (nI w0)), (2, .int (nI h0))] := hl
  have hp8 := p8_1 hp
  have hw1 : mWr ≤ 250 := hw.1
  have hdn : dnA w0 h0 ((PW.mk row mWr mWid mOv).al w0 h0) := al_done hp hw h0
  refine lv_iload_n hx hb d_M_align_0 rfl (lv_at hl 1 rfl) ?_
  refine lv_aload_n hx hb d_M_align_1 rfl (lv_at hl 0 rfl) ?_
  refine va_get (D := D) (ci := 8) (C := R_M) (T := T_M) (N := 39) hx hb hts (fun w h => kT w (i_M w h)) hown hK hP 0 rfl rfl 15 (by decide) (hts _ (kT _ wd_6c52aa6d)) (fun _ h9 => h9) rfl d_M_align_2 ?_
  refine lv_icmp_le (tgt := 13) hx hb d_M_align_5 (by decide) (fun c_5 => ?_) (fun c_5 => ?_)
  · skip
    have c_5 := (nI_leI (by omega) (by omega)).mp c_5
    have L_13 : ∀ (n : Nat) (row1 : Nat → Nat) (wr1 : Nat) (wid1 : Nat) (ov1 : Bool) (kk : Nat), (alI w0 h0 kk (PW.mk row1 wr1 wid1 ov1) = (PW.mk row mWr mWid mOv).al w0 h0) → (W250 (PW.mk row1 wr1 wid1 ov1)) → kk < n → ∀ (H : Heap) (locs : List Loc) (ls : Array Slot), va_P D vwCl (Wm am gm sLen sKind sExt sMust rTab rFil mNum rLen rItm made pItm held dByt dLen ver fAdr fTab adr tab lf mCode row1 wr1 wid1 ov1 mPl mTh mSp mPile mNext mSh mShs mRea mWg mEn mDp mAt mTb mSt) H → va_D A (Wm am gm sLen sKind sExt sMust rTab rFil mNum rLen rItm made pItm held dByt dLen ver fAdr fTab adr tab lf mCode row1 wr1 wid1 ov1 mPl mTh mSp mPile mNext mSh mShs mRea mWg mEn mDp mAt mTb mSt) → va_S A s.heap H locs → lv_has ls 3 [(0, .ref (am 0)), (1, .int (nI w0)), (2, .int (nI h0))] → W p l e ({ frames := 1, cells := 0, slots := 0, locals := 21 }) s m ([.ref (am 0), .int (nI w0), .int (nI h0)] : List Value).toArray below meth c H locs 0 0 (MQ below (kQ D vwCl (WmT gm) A True none (Wm am gm sLen sKind sExt sMust rTab rFil mNum rLen rItm made pItm held dByt dLen ver fAdr fTab adr tab lf mCode (((PW.mk row mWr mWid mOv).al w0 h0).row) (((PW.mk row mWr mWid mOv).al w0 h0).wr) (((PW.mk row mWr mWid mOv).al w0 h0).wid) (((PW.mk row mWr mWid mOv).al w0 h0).ov) mPl mTh mSp mPile mNext mSh mShs mRea mWg mEn mDp mAt mTb mSt)) ([.ref (am 0), .int (nI w0), .int (nI h0)] : List Value).toArray s 0 0 A) (F0 m 13 ls []) := by
      intro n
      induction n with
      | zero => intro row1 wr1 wid1 ov1 kk hf hw2 hm; exact absurd hm (Nat.not_lt_zero _)
      | succ n ih_13 =>
        intro row1 wr1 wid1 ov1 kk hf hw2 hm_13 H locs ls hP hD hS hl
        have hw3 : wr1 ≤ 250 := hw2.1
        refine lv_aload_n hx hb d_M_align_13 rfl (lv_at hl 0 rfl) ?_
        refine va_get (D := D) (ci := 8) (C := R_M) (T := T_M) (N := 39) hx hb hts (fun w h => kT w (i_M w h)) hown hK hP 0 rfl rfl 14 (by decide) (hts _ (kT _ wd_7837caa3)) (fun _ h9 => h9) rfl d_M_align_14 ?_
        refine lv_iload_n hx hb d_M_align_17 rfl (lv_at hl 2 rfl) ?_
        refine lv_iadd hx hb d_M_align_18 ?_
        refine lv_eqi (nI_add _ _) ?_
        refine lv_iload_n hx hb d_M_align_19 rfl (lv_at hl 1 rfl) ?_
        refine lv_irem hx hb d_M_align_20 (nI_ne0 (by omega) (by omega)) ?_
        refine lv_eqi (pk_rem (by omega) (by omega) (by omega)) ?_
        have hmd := Nat.mod_lt (wr1 + h0) (show 0 < w0 by omega)
        refine lv_if_eq (tgt := 39) hx hb d_M_align_21 (by decide) (fun c_21 => ?_) (fun c_21 => ?_)
        · skip
          have c_21 := (z_eq (by omega)).mp c_21
          have hdo : dnA w0 h0 (PW.mk row1 wr1 wid1 ov1) := Or.inl c_21
          have hf3 : PW.mk row1 wr1 wid1 ov1 = (PW.mk row mWr mWid mOv).al w0 h0 := (alI_dn hdo kk).symm.trans hf
          exact k_vret hx hb hr hlocks hK hP hD hS (trivial) (by rw [← hf3]) d_M_align_39
        · skip
          have c_21 := mt (z_eq (by omega)).mpr c_21
          refine lv_aload_n hx hb d_M_align_24 rfl (lv_at hl 0 rfl) ?_
          refine va_get (D := D) (ci := 8) (C := R_M) (T := T_M) (N := 39) hx hb hts (fun w h => kT w (i_M w h)) hown hK hP 0 rfl rfl 16 (by decide) (hts _ (kT _ wd_2c07c180)) (fun _ h9 => h9) rfl d_M_align_25 ?_
          refine lv_if_ne (tgt := 39) hx hb d_M_align_28 (by decide) (fun c_28 => ?_) (fun c_28 => ?_)
          · skip
            have c_28 := mt (bI_0).mpr c_28
            have c_28 := eq_true_of_ne_false c_28
            have hdo : dnA w0 h0 (PW.mk row1 wr1 wid1 ov1) := Or.inr c_28
            have hf3 : PW.mk row1 wr1 wid1 ov1 = (PW.mk row mWr mWid mOv).al w0 h0 := (alI_dn hdo kk).symm.trans hf
            exact k_vret hx hb hr hlocks hK hP hD hS (trivial) (by rw [← hf3]) d_M_align_39
          · skip
            have c_28 := (bI_0).mp c_28
            have hnd : ¬ dnA w0 h0 (PW.mk row1 wr1 wid1 ov1) := fun z => z.elim c_21 (fun z => by rw [show ov1 = true from z] at c_28; cases c_28)
            obtain ⟨kj, hkj, hf2⟩ := alI_pos hf hdn hnd
            refine lv_aload_n hx hb d_M_align_31 rfl (lv_at hl 0 rfl) ?_
            refine lv_iconst (v := nI 0) hx hb d_M_align_32 (by decide) ?_
            refine k_callV (m_put l D am gm tw sLen sKind sExt sMust rTab rFil mNum rLen rItm made pItm held dByt dLen ver fAdr fTab adr tab lf mCode row1 wr1 wid1 ov1 mPl mTh mSp mPile mNext mSh mShs mRea mWg mEn mDp mAt mTb mSt (nI 0)  hw2) m_M_put wd_77c1de03 0 8 rfl rfl rfl kT hx hb hml hown hts ⟨Nat.le_of_ble_eq_true rfl, Nat.le_of_ble_eq_true rfl⟩ ⟨Nat.le_of_ble_eq_true rfl, Nat.le_of_ble_eq_true rfl⟩ hK hP hD hS hA hZ hl.1 rfl rfl (Nat.le_of_ble_eq_true rfl) d_M_align_33 (fun H locs hP hD hS => ?_)
            have hP : va_P D vwCl (Wm am gm sLen sKind sExt sMust rTab rFil mNum rLen rItm made pItm held dByt dLen ver fAdr fTab adr tab lf mCode (((PW.mk row1 wr1 wid1 ov1).pb (nI 0)).row) (((PW.mk row1 wr1 wid1 ov1).pb (nI 0)).wr) (((PW.mk row1 wr1 wid1 ov1).pb (nI 0)).wid) (((PW.mk row1 wr1 wid1 ov1).pb (nI 0)).ov) mPl mTh mSp mPile mNext mSh mShs mRea mWg mEn mDp mAt mTb mSt) H := hP
            have hD : va_D A (Wm am gm sLen sKind sExt sMust rTab rFil mNum rLen rItm made pItm held dByt dLen ver fAdr fTab adr tab lf mCode (((PW.mk row1 wr1 wid1 ov1).pb (nI 0)).row) (((PW.mk row1 wr1 wid1 ov1).pb (nI 0)).wr) (((PW.mk row1 wr1 wid1 ov1).pb (nI 0)).wid) (((PW.mk row1 wr1 wid1 ov1).pb (nI 0)).ov) mPl mTh mSp mPile mNext mSh mShs mRea mWg mEn mDp mAt mTb mSt) := hD
            refine W.eq (g2 := F0 m 36 ls []) rfl ?_
            refine lv_goto (tgt := 13) hx hb d_M_align_36 (by decide) ?_
            exact ih_13 (((PW.mk row1 wr1 wid1 ov1).pb (nI 0)).row) (((PW.mk row1 wr1 wid1 ov1).pb (nI 0)).wr) (((PW.mk row1 wr1 wid1 ov1).pb (nI 0)).wid) (((PW.mk row1 wr1 wid1 ov1).pb (nI 0)).ov) kj hf2 (Kp_pb hw2 _).1 (by omega) _ _ _ hP hD hS (lv_sub hl [0, 1, 2] rfl)
    exact L_13 ((w0) + 1) row mWr mWid mOv w0 (by first | (rw [PW.al, Nat.max_eq_right (show (PW.mk row mWr mWid mOv).wid ≤ w0 by show mWid ≤ w0; omega)]; done) | (rw [PW.al, Nat.max_eq_left (show w0 ≤ (PW.mk row mWr mWid mOv).wid by show w0 ≤ mWid; omega)]; done)) hw (by omega) _ _ _ hP hD hS (lv_sub hl [0, 1, 2] rfl)
  · skip
    have c_5 := mt (nI_leI (by omega) (by omega)).mpr c_5
    refine lv_aload_n hx hb d_M_align_8 rfl (lv_at hl 0 rfl) ?_
    refine lv_iload_n hx hb d_M_align_9 rfl (lv_at hl 1 rfl) ?_
    refine va_put (D := D) (ci := 8) (ty := .int) (C := R_M) (T := T_M) (N := 39) hx hb hts (fun w h => kT w (i_M w h)) ty_M tyk_M nm_M hown hK hP hD hS 0 rfl rfl 15 (by decide) (hts _ (kT _ wd_6c52aa6d)) (fun _ h9 => h9) rfl (by decide +kernel) rfl rfl (Nat.le_of_ble_eq_true rfl) d_M_align_10 (fun H locs hP hD hS => ?_)
    have hP : va_P D vwCl (Wm am gm sLen sKind sExt sMust rTab rFil mNum rLen rItm made pItm held dByt dLen ver fAdr fTab adr tab lf mCode row mWr w0 mOv mPl mTh mSp mPile mNext mSh mShs mRea mWg mEn mDp mAt mTb mSt) H := hP
    have hD : va_D A (Wm am gm sLen sKind sExt sMust rTab rFil mNum rLen rItm made pItm held dByt dLen ver fAdr fTab adr tab lf mCode row mWr w0 mOv mPl mTh mSp mPile mNext mSh mShs mRea mWg mEn mDp mAt mTb mSt) := hD
    have L_13 : ∀ (n : Nat) (row1 : Nat → Nat) (wr1 : Nat) (wid1 : Nat) (ov1 : Bool) (kk : Nat), (alI w0 h0 kk (PW.mk row1 wr1 wid1 ov1) = (PW.mk row mWr mWid mOv).al w0 h0) → (W250 (PW.mk row1 wr1 wid1 ov1)) → kk < n → ∀ (H : Heap) (locs : List Loc) (ls : Array Slot), va_P D vwCl (Wm am gm sLen sKind sExt sMust rTab rFil mNum rLen rItm made pItm held dByt dLen ver fAdr fTab adr tab lf mCode row1 wr1 wid1 ov1 mPl mTh mSp mPile mNext mSh mShs mRea mWg mEn mDp mAt mTb mSt) H → va_D A (Wm am gm sLen sKind sExt sMust rTab rFil mNum rLen rItm made pItm held dByt dLen ver fAdr fTab adr tab lf mCode row1 wr1 wid1 ov1 mPl mTh mSp mPile mNext mSh mShs mRea mWg mEn mDp mAt mTb mSt) → va_S A s.heap H locs → lv_has ls 3 [(0, .ref (am 0)), (1, .int (nI w0)), (2, .int (nI h0))] → W p l e ({ frames := 1, cells := 0, slots := 0, locals := 21 }) s m ([.ref (am 0), .int (nI w0), .int (nI h0)] : List Value).toArray below meth c H locs 0 0 (MQ below (kQ D vwCl (WmT gm) A True none (Wm am gm sLen sKind sExt sMust rTab rFil mNum rLen rItm made pItm held dByt dLen ver fAdr fTab adr tab lf mCode (((PW.mk row mWr mWid mOv).al w0 h0).row) (((PW.mk row mWr mWid mOv).al w0 h0).wr) (((PW.mk row mWr mWid mOv).al w0 h0).wid) (((PW.mk row mWr mWid mOv).al w0 h0).ov) mPl mTh mSp mPile mNext mSh mShs mRea mWg mEn mDp mAt mTb mSt)) ([.ref (am 0), .int (nI w0), .int (nI h0)] : List Value).toArray s 0 0 A) (F0 m 13 ls []) := by
      intro n
      induction n with
      | zero => intro row1 wr1 wid1 ov1 kk hf hw2 hm; exact absurd hm (Nat.not_lt_zero _)
      | succ n ih_13 =>
        intro row1 wr1 wid1 ov1 kk hf hw2 hm_13 H locs ls hP hD hS hl
        have hw3 : wr1 ≤ 250 := hw2.1
        refine lv_aload_n hx hb d_M_align_13 rfl (lv_at hl 0 rfl) ?_
        refine va_get (D := D) (ci := 8) (C := R_M) (T := T_M) (N := 39) hx hb hts (fun w h => kT w (i_M w h)) hown hK hP 0 rfl rfl 14 (by decide) (hts _ (kT _ wd_7837caa3)) (fun _ h9 => h9) rfl d_M_align_14 ?_
        refine lv_iload_n hx hb d_M_align_17 rfl (lv_at hl 2 rfl) ?_
        refine lv_iadd hx hb d_M_align_18 ?_
        refine lv_eqi (nI_add _ _) ?_
        refine lv_iload_n hx hb d_M_align_19 rfl (lv_at hl 1 rfl) ?_
        refine lv_irem hx hb d_M_align_20 (nI_ne0 (by omega) (by omega)) ?_
        refine lv_eqi (pk_rem (by omega) (by omega) (by omega)) ?_
        have hmd := Nat.mod_lt (wr1 + h0) (show 0 < w0 by omega)
        refine lv_if_eq (tgt := 39) hx hb d_M_align_21 (by decide) (fun c_21 => ?_) (fun c_21 => ?_)
        · skip
          have c_21 := (z_eq (by omega)).mp c_21
          have hdo : dnA w0 h0 (PW.mk row1 wr1 wid1 ov1) := Or.inl c_21
          have hf3 : PW.mk row1 wr1 wid1 ov1 = (PW.mk row mWr mWid mOv).al w0 h0 := (alI_dn hdo kk).symm.trans hf
          exact k_vret hx hb hr hlocks hK hP hD hS (trivial) (by rw [← hf3]) d_M_align_39
        · skip
          have c_21 := mt (z_eq (by omega)).mpr c_21
          refine lv_aload_n hx hb d_M_align_24 rfl (lv_at hl 0 rfl) ?_
          refine va_get (D := D) (ci := 8) (C := R_M) (T := T_M) (N := 39) hx hb hts (fun w h => kT w (i_M w h)) hown hK hP 0 rfl rfl 16 (by decide) (hts _ (kT _ wd_2c07c180)) (fun _ h9 => h9) rfl d_M_align_25 ?_
          refine lv_if_ne (tgt := 39) hx hb d_M_align_28 (by decide) (fun c_28 => ?_) (fun c_28 => ?_)
          · skip
            have c_28 := mt (bI_0).mpr c_28
            have c_28 := eq_true_of_ne_false c_28
            have hdo : dnA w0 h0 (PW.mk row1 wr1 wid1 ov1) := Or.inr c_28
            have hf3 : PW.mk row1 wr1 wid1 ov1 = (PW.mk row mWr mWid mOv).al w0 h0 := (alI_dn hdo kk).symm.trans hf
            exact k_vret hx hb hr hlocks hK hP hD hS (trivial) (by rw [← hf3]) d_M_align_39
          · skip
            have c_28 := (bI_0).mp c_28
            have hnd : ¬ dnA w0 h0 (PW.mk row1 wr1 wid1 ov1) := fun z => z.elim c_21 (fun z => by rw [show ov1 = true from z] at c_28; cases c_28)
            obtain ⟨kj, hkj, hf2⟩ := alI_pos hf hdn hnd
            refine lv_aload_n hx hb d_M_align_31 rfl (lv_at hl 0 rfl) ?_
            refine lv_iconst (v := nI 0) hx hb d_M_align_32 (by decide) ?_
            refine k_callV (m_put l D am gm tw sLen sKind sExt sMust rTab rFil mNum rLen rItm made pItm held dByt dLen ver fAdr fTab adr tab lf mCode row1 wr1 wid1 ov1 mPl mTh mSp mPile mNext mSh mShs mRea mWg mEn mDp mAt mTb mSt (nI 0)  hw2) m_M_put wd_77c1de03 0 8 rfl rfl rfl kT hx hb hml hown hts ⟨Nat.le_of_ble_eq_true rfl, Nat.le_of_ble_eq_true rfl⟩ ⟨Nat.le_of_ble_eq_true rfl, Nat.le_of_ble_eq_true rfl⟩ hK hP hD hS hA hZ hl.1 rfl rfl (Nat.le_of_ble_eq_true rfl) d_M_align_33 (fun H locs hP hD hS => ?_)
            have hP : va_P D vwCl (Wm am gm sLen sKind sExt sMust rTab rFil mNum rLen rItm made pItm held dByt dLen ver fAdr fTab adr tab lf mCode (((PW.mk row1 wr1 wid1 ov1).pb (nI 0)).row) (((PW.mk row1 wr1 wid1 ov1).pb (nI 0)).wr) (((PW.mk row1 wr1 wid1 ov1).pb (nI 0)).wid) (((PW.mk row1 wr1 wid1 ov1).pb (nI 0)).ov) mPl mTh mSp mPile mNext mSh mShs mRea mWg mEn mDp mAt mTb mSt) H := hP
            have hD : va_D A (Wm am gm sLen sKind sExt sMust rTab rFil mNum rLen rItm made pItm held dByt dLen ver fAdr fTab adr tab lf mCode (((PW.mk row1 wr1 wid1 ov1).pb (nI 0)).row) (((PW.mk row1 wr1 wid1 ov1).pb (nI 0)).wr) (((PW.mk row1 wr1 wid1 ov1).pb (nI 0)).wid) (((PW.mk row1 wr1 wid1 ov1).pb (nI 0)).ov) mPl mTh mSp mPile mNext mSh mShs mRea mWg mEn mDp mAt mTb mSt) := hD
            refine W.eq (g2 := F0 m 36 ls []) rfl ?_
            refine lv_goto (tgt := 13) hx hb d_M_align_36 (by decide) ?_
            exact ih_13 (((PW.mk row1 wr1 wid1 ov1).pb (nI 0)).row) (((PW.mk row1 wr1 wid1 ov1).pb (nI 0)).wr) (((PW.mk row1 wr1 wid1 ov1).pb (nI 0)).wid) (((PW.mk row1 wr1 wid1 ov1).pb (nI 0)).ov) kj hf2 (Kp_pb hw2 _).1 (by omega) _ _ _ hP hD hS (lv_sub hl [0, 1, 2] rfl)
    exact L_13 ((w0) + 1) row mWr w0 mOv w0 (by first | (rw [PW.al, Nat.max_eq_right (show (PW.mk row mWr mWid mOv).wid ≤ w0 by show mWid ≤ w0; omega)]; done) | (rw [PW.al, Nat.max_eq_left (show w0 ≤ (PW.mk row mWr mWid mOv).wid by show w0 ≤ mWid; omega)]; done)) hw (by omega) _ _ _ hP hD hS (lv_sub hl [0, 1, 2] rfl)
set_option maxHeartbeats 4000000 in
set_option maxRecDepth 100000 in
theorem m_putNumber (l : Launch) (D : va_G) (am : Nat → Nat) (gm : Nat → ClassId) (tw : Nat) (sLen sKind : Nat → Nat) (sExt : Nat → Int32) (sMust : Nat → Bool) (rTab : Nat → Nat) (rFil : Nat → Bool) (mNum : Nat → Int64) (rLen : Nat → Nat) (rItm : Nat → Int32) (made : Nat) (pItm : Nat → Int32) (held : Nat) (dByt : Nat → Nat) (dLen : Nat) (ver : Bool) (fAdr fTab adr tab : Nat) (lf : Int32) (mCode : Nat) (row : Nat → Nat) (mWr mWid : Nat) (mOv : Bool) (mPl mTh mSp mPile mNext mSh : Nat → Nat) (mShs : Nat) (mRea : Nat → Bool) (mWg : Int32) (mEn mDp : Nat) (mAt mTb mSt : Nat → Nat) (w0 : Nat) (v : Int64)  (hp : pow8 w0) (hw : W250 (PW.mk row mWr mWid mOv)) (hwd : mWid < 1000) : kM l y_M_putNumber b_M_putNumber 5 none ({ frames := 2, cells := 0, slots := 0, locals := 43 }) D vwCl (WmT gm) tw [.ref (am 0), .int (nI w0), .long v] (Wm am gm sLen sKind sExt sMust rTab rFil mNum rLen rItm made pItm held dByt dLen ver fAdr fTab adr tab lf mCode row mWr mWid mOv mPl mTh mSp mPile mNext mSh mShs mRea mWg mEn mDp mAt mTb mSt) none (Wm am gm sLen sKind sExt sMust rTab rFil mNum rLen rItm made pItm held dByt dLen ver fAdr fTab adr tab lf mCode (((PW.mk row mWr mWid mOv).pn v w0).row) (((PW.mk row mWr mWid mOv).pn v w0).wr) (((PW.mk row mWr mWid mOv).pn v w0).wid) (((PW.mk row mWr mWid mOv).pn v w0).ov) mPl mTh mSp mPile mNext mSh mShs mRea mWg mEn mDp mAt mTb mSt) := by
  refine k_of (by decide) (Nat.le_of_ble_eq_true rfl) ?_
  intro p e s m below meth c A ls hx hb hr hlocks hml hts hown hin0 hA hP hK hD hS hZ hl
  have hl : lv_has ls 5 [(0, .ref (am 0)), (1, .int (nI w0)), (2, .long v)] := hl
  have hp8 := p8_1 hp
  refine lv_aload_n hx hb d_M_putNumber_0 rfl (lv_at hl 0 rfl) ?_
  refine lv_iload_n hx hb d_M_putNumber_1 rfl (lv_at hl 1 rfl) ?_
  refine lv_iconst (v := nI 0) hx hb d_M_putNumber_2 (by decide) ?_
  refine k_callV (m_align l D am gm tw sLen sKind sExt sMust rTab rFil mNum rLen rItm made pItm held dByt dLen ver fAdr fTab adr tab lf mCode row mWr mWid mOv mPl mTh mSp mPile mNext mSh mShs mRea mWg mEn mDp mAt mTb mSt w0 0  hp hw (by decide) hwd) m_M_align wd_a90934a3 0 8 rfl rfl rfl kT hx hb hml hown hts ⟨Nat.le_of_ble_eq_true rfl, Nat.le_of_ble_eq_true rfl⟩ ⟨Nat.le_of_ble_eq_true rfl, Nat.le_of_ble_eq_true rfl⟩ hK hP hD hS hA hZ hl.1 rfl rfl (Nat.le_of_ble_eq_true rfl) d_M_putNumber_3 (fun H locs hP hD hS => ?_)
  have hP : va_P D vwCl (Wm am gm sLen sKind sExt sMust rTab rFil mNum rLen rItm made pItm held dByt dLen ver fAdr fTab adr tab lf mCode (((PW.mk row mWr mWid mOv).al w0 0).row) (((PW.mk row mWr mWid mOv).al w0 0).wr) (((PW.mk row mWr mWid mOv).al w0 0).wid) (((PW.mk row mWr mWid mOv).al w0 0).ov) mPl mTh mSp mPile mNext mSh mShs mRea mWg mEn mDp mAt mTb mSt) H := hP
  have hD : va_D A (Wm am gm sLen sKind sExt sMust rTab rFil mNum rLen rItm made pItm held dByt dLen ver fAdr fTab adr tab lf mCode (((PW.mk row mWr mWid mOv).al w0 0).row) (((PW.mk row mWr mWid mOv).al w0 0).wr) (((PW.mk row mWr mWid mOv).al w0 0).wid) (((PW.mk row mWr mWid mOv).al w0 0).ov) mPl mTh mSp mPile mNext mSh mShs mRea mWg mEn mDp mAt mTb mSt) := hD
  refine W.eq (g2 := F0 m 6 ls []) rfl ?_
  refine lv_iload_n hx hb d_M_putNumber_6 rfl (lv_at hl 1 rfl) ?_
  refine lv_iconst (v := nI 1) hx hb d_M_putNumber_7 (by decide) ?_
  refine lv_isub hx hb d_M_putNumber_8 ?_
  refine lv_istore (lv' := [(4, .int ((nI w0) - (nI 1))), (0, .ref (am 0)), (1, .int (nI w0)), (2, .long v)]) hx hb d_M_putNumber_9 hl (by decide) rfl (fun ls hl => ?_)
  have e_4 : (nI w0) - (nI 1) = nI (w0 - 0) - 1 := by rw [nI_1e]; rfl
  have hl : lv_has ls 5 [(4, .int (nI (w0 - 0) - 1)), (0, .ref (am 0)), (1, .int (nI w0)), (2, .long v)] := by rw [← e_4]; exact hl
  have hP : va_P D vwCl (Wm am gm sLen sKind sExt sMust rTab rFil mNum rLen rItm made pItm held dByt dLen ver fAdr fTab adr tab lf mCode ((pnI ((PW.mk row mWr mWid mOv).al w0 0) v w0 0).row) ((pnI ((PW.mk row mWr mWid mOv).al w0 0) v w0 0).wr) ((pnI ((PW.mk row mWr mWid mOv).al w0 0) v w0 0).wid) ((pnI ((PW.mk row mWr mWid mOv).al w0 0) v w0 0).ov) mPl mTh mSp mPile mNext mSh mShs mRea mWg mEn mDp mAt mTb mSt) _ := hP
  have hD : va_D A (Wm am gm sLen sKind sExt sMust rTab rFil mNum rLen rItm made pItm held dByt dLen ver fAdr fTab adr tab lf mCode ((pnI ((PW.mk row mWr mWid mOv).al w0 0) v w0 0).row) ((pnI ((PW.mk row mWr mWid mOv).al w0 0) v w0 0).wr) ((pnI ((PW.mk row mWr mWid mOv).al w0 0) v w0 0).wid) ((pnI ((PW.mk row mWr mWid mOv).al w0 0) v w0 0).ov) mPl mTh mSp mPile mNext mSh mShs mRea mWg mEn mDp mAt mTb mSt) := hD
  have L_11 : ∀ (n : Nat) (nn : Nat), (nn ≤ w0) → w0 - nn < n → ∀ (H : Heap) (locs : List Loc) (ls : Array Slot), va_P D vwCl (Wm am gm sLen sKind sExt sMust rTab rFil mNum rLen rItm made pItm held dByt dLen ver fAdr fTab adr tab lf mCode ((pnI ((PW.mk row mWr mWid mOv).al w0 0) v w0 nn).row) ((pnI ((PW.mk row mWr mWid mOv).al w0 0) v w0 nn).wr) ((pnI ((PW.mk row mWr mWid mOv).al w0 0) v w0 nn).wid) ((pnI ((PW.mk row mWr mWid mOv).al w0 0) v w0 nn).ov) mPl mTh mSp mPile mNext mSh mShs mRea mWg mEn mDp mAt mTb mSt) H → va_D A (Wm am gm sLen sKind sExt sMust rTab rFil mNum rLen rItm made pItm held dByt dLen ver fAdr fTab adr tab lf mCode ((pnI ((PW.mk row mWr mWid mOv).al w0 0) v w0 nn).row) ((pnI ((PW.mk row mWr mWid mOv).al w0 0) v w0 nn).wr) ((pnI ((PW.mk row mWr mWid mOv).al w0 0) v w0 nn).wid) ((pnI ((PW.mk row mWr mWid mOv).al w0 0) v w0 nn).ov) mPl mTh mSp mPile mNext mSh mShs mRea mWg mEn mDp mAt mTb mSt) → va_S A s.heap H locs → lv_has ls 5 [(4, .int (nI (w0 - nn) - 1)), (0, .ref (am 0)), (1, .int (nI w0)), (2, .long v)] → W p l e ({ frames := 2, cells := 0, slots := 0, locals := 43 }) s m ([.ref (am 0), .int (nI w0), .long v] : List Value).toArray below meth c H locs 0 0 (MQ below (kQ D vwCl (WmT gm) A True none (Wm am gm sLen sKind sExt sMust rTab rFil mNum rLen rItm made pItm held dByt dLen ver fAdr fTab adr tab lf mCode (((PW.mk row mWr mWid mOv).pn v w0).row) (((PW.mk row mWr mWid mOv).pn v w0).wr) (((PW.mk row mWr mWid mOv).pn v w0).wid) (((PW.mk row mWr mWid mOv).pn v w0).ov) mPl mTh mSp mPile mNext mSh mShs mRea mWg mEn mDp mAt mTb mSt)) ([.ref (am 0), .int (nI w0), .long v] : List Value).toArray s 0 0 A) (F0 m 11 ls []) := by
    intro n
    induction n with
    | zero => intro nn hnn hm; exact absurd hm (Nat.not_lt_zero _)
    | succ n ih_11 =>
      intro nn hnn hm_11 H locs ls hP hD hS hl
      refine lv_iload hx hb d_M_putNumber_11 (lv_at hl 0 rfl) ?_
      refine lv_if_lt (tgt := 38) hx hb d_M_putNumber_13 (by decide) (fun c_13 => ?_) (fun c_13 => ?_)
      · skip
        have h_nn : w0 = nn := by have := (dn_lt (by omega)).mp c_13; omega
        subst h_nn
        exact k_vret hx hb hr hlocks hK hP hD hS (trivial) (rfl) d_M_putNumber_38
      · skip
        have hj : ¬ (w0 - nn) = 0 := mt (dn_lt (by omega)).mpr c_13
        have hl : lv_has ls 5 [(4, .int (nI ((w0 - nn) - 1))), (0, .ref (am 0)), (1, .int (nI w0)), (2, .long v)] := by rw [← dn_in hj]; exact hl
        refine lv_aload_n hx hb d_M_putNumber_16 rfl (lv_at hl 1 rfl) ?_
        refine lv_lload_n hx hb d_M_putNumber_17 rfl (lv_at hl 3 rfl) ?_
        refine lv_bipush (v := nI 8) hx hb d_M_putNumber_18 (by decide) ?_
        refine lv_iload hx hb d_M_putNumber_20 (lv_at hl 0 rfl) ?_
        refine lv_imul hx hb d_M_putNumber_22 ?_
        refine lv_eqi (pk_mul _ _) ?_
        refine lv_lshr hx hb d_M_putNumber_23 rfl ?_
        refine lv_ldc2 (v := 255) hx hb hown (hts _ (kT _ wd_ab05ea2b)) d_M_putNumber_24 ?_
        refine lv_land hx hb d_M_putNumber_27 ?_
        refine lv_l2i hx hb d_M_putNumber_28 rfl ?_
        refine k_callV (m_put l D am gm tw sLen sKind sExt sMust rTab rFil mNum rLen rItm made pItm held dByt dLen ver fAdr fTab adr tab lf mCode ((pnI ((PW.mk row mWr mWid mOv).al w0 0) v w0 nn).row) ((pnI ((PW.mk row mWr mWid mOv).al w0 0) v w0 nn).wr) ((pnI ((PW.mk row mWr mWid mOv).al w0 0) v w0 nn).wid) ((pnI ((PW.mk row mWr mWid mOv).al w0 0) v w0 nn).ov) mPl mTh mSp mPile mNext mSh mShs mRea mWg mEn mDp mAt mTb mSt (((v >>> ((nI (8 * ((w0 - nn) - 1))).toInt64 &&& 63)) &&& (255 : Int64)).toInt32)  (Kp_pnI (Kp_al hw w0 0).1 v w0 nn).1) m_M_put wd_77c1de03 0 8 rfl rfl rfl kT hx hb hml hown hts ⟨Nat.le_of_ble_eq_true rfl, Nat.le_of_ble_eq_true rfl⟩ ⟨Nat.le_of_ble_eq_true rfl, Nat.le_of_ble_eq_true rfl⟩ hK hP hD hS hA hZ hl.1 rfl rfl (Nat.le_of_ble_eq_true rfl) d_M_putNumber_29 (fun H locs hP hD hS => ?_)
        have hP : va_P D vwCl (Wm am gm sLen sKind sExt sMust rTab rFil mNum rLen rItm made pItm held dByt dLen ver fAdr fTab adr tab lf mCode (((pnI ((PW.mk row mWr mWid mOv).al w0 0) v w0 nn).pb (((v >>> ((nI (8 * ((w0 - nn) - 1))).toInt64 &&& 63)) &&& (255 : Int64)).toInt32)).row) (((pnI ((PW.mk row mWr mWid mOv).al w0 0) v w0 nn).pb (((v >>> ((nI (8 * ((w0 - nn) - 1))).toInt64 &&& 63)) &&& (255 : Int64)).toInt32)).wr) (((pnI ((PW.mk row mWr mWid mOv).al w0 0) v w0 nn).pb (((v >>> ((nI (8 * ((w0 - nn) - 1))).toInt64 &&& 63)) &&& (255 : Int64)).toInt32)).wid) (((pnI ((PW.mk row mWr mWid mOv).al w0 0) v w0 nn).pb (((v >>> ((nI (8 * ((w0 - nn) - 1))).toInt64 &&& 63)) &&& (255 : Int64)).toInt32)).ov) mPl mTh mSp mPile mNext mSh mShs mRea mWg mEn mDp mAt mTb mSt) H := hP
        have hD : va_D A (Wm am gm sLen sKind sExt sMust rTab rFil mNum rLen rItm made pItm held dByt dLen ver fAdr fTab adr tab lf mCode (((pnI ((PW.mk row mWr mWid mOv).al w0 0) v w0 nn).pb (((v >>> ((nI (8 * ((w0 - nn) - 1))).toInt64 &&& 63)) &&& (255 : Int64)).toInt32)).row) (((pnI ((PW.mk row mWr mWid mOv).al w0 0) v w0 nn).pb (((v >>> ((nI (8 * ((w0 - nn) - 1))).toInt64 &&& 63)) &&& (255 : Int64)).toInt32)).wr) (((pnI ((PW.mk row mWr mWid mOv).al w0 0) v w0 nn).pb (((v >>> ((nI (8 * ((w0 - nn) - 1))).toInt64 &&& 63)) &&& (255 : Int64)).toInt32)).wid) (((pnI ((PW.mk row mWr mWid mOv).al w0 0) v w0 nn).pb (((v >>> ((nI (8 * ((w0 - nn) - 1))).toInt64 &&& 63)) &&& (255 : Int64)).toInt32)).ov) mPl mTh mSp mPile mNext mSh mShs mRea mWg mEn mDp mAt mTb mSt) := hD
        refine W.eq (g2 := F0 m 32 ls []) rfl ?_
        refine lv_iinc (v := (nI ((w0 - nn) - 1)) + (-1)) (lv' := [(4, .int ((nI ((w0 - nn) - 1)) + (-1))), (0, .ref (am 0)), (1, .int (nI w0)), (2, .long v)]) hx hb d_M_putNumber_32 hl (k := 0) rfl rfl (by decide) rfl (fun ls hl => ?_)
        refine lv_goto (tgt := 11) hx hb d_M_putNumber_35 (by decide) ?_
        have e_4 : (nI ((w0 - nn) - 1)) + (-1) = nI (w0 - (nn + 1)) - 1 := by rw [dn_step]; exact congrArg (· - 1) (nI_congr (by omega))
        have hl : lv_has ls 5 [(4, .int (nI (w0 - (nn + 1)) - 1)), (0, .ref (am 0)), (1, .int (nI w0)), (2, .long v)] := by rw [← e_4]; exact hl
        have hP : va_P D vwCl (Wm am gm sLen sKind sExt sMust rTab rFil mNum rLen rItm made pItm held dByt dLen ver fAdr fTab adr tab lf mCode ((pnI ((PW.mk row mWr mWid mOv).al w0 0) v w0 (nn + 1)).row) ((pnI ((PW.mk row mWr mWid mOv).al w0 0) v w0 (nn + 1)).wr) ((pnI ((PW.mk row mWr mWid mOv).al w0 0) v w0 (nn + 1)).wid) ((pnI ((PW.mk row mWr mWid mOv).al w0 0) v w0 (nn + 1)).ov) mPl mTh mSp mPile mNext mSh mShs mRea mWg mEn mDp mAt mTb mSt) H := hP
        have hD : va_D A (Wm am gm sLen sKind sExt sMust rTab rFil mNum rLen rItm made pItm held dByt dLen ver fAdr fTab adr tab lf mCode ((pnI ((PW.mk row mWr mWid mOv).al w0 0) v w0 (nn + 1)).row) ((pnI ((PW.mk row mWr mWid mOv).al w0 0) v w0 (nn + 1)).wr) ((pnI ((PW.mk row mWr mWid mOv).al w0 0) v w0 (nn + 1)).wid) ((pnI ((PW.mk row mWr mWid mOv).al w0 0) v w0 (nn + 1)).ov) mPl mTh mSp mPile mNext mSh mShs mRea mWg mEn mDp mAt mTb mSt) := hD
        exact ih_11 (nn + 1) (by omega) (by omega) _ _ _ hP hD hS (lv_sub hl [0, 1, 2, 3] rfl)
  exact L_11 ((w0 - 0) + 1) 0 (by omega) (by omega) _ _ _ hP hD hS (lv_sub hl [0, 1, 2, 3] rfl)
set_option maxHeartbeats 4000000 in
set_option maxRecDepth 100000 in
theorem m_putElements (l : Launch) (D : va_G) (am : Nat → Nat) (gm : Nat → ClassId) (tw : Nat) (sLen sKind : Nat → Nat) (sExt : Nat → Int32) (sMust : Nat → Bool) (rTab : Nat → Nat) (rFil : Nat → Bool) (mNum : Nat → Int64) (rLen : Nat → Nat) (rItm : Nat → Int32) (made : Nat) (pItm : Nat → Int32) (held : Nat) (dByt : Nat → Nat) (dLen : Nat) (ver : Bool) (fAdr fTab adr tab : Nat) (lf : Int32) (mCode : Nat) (row : Nat → Nat) (mWr mWid : Nat) (mOv : Bool) (mPl mTh mSp mPile mNext mSh : Nat → Nat) (mShs : Nat) (mRea : Nat → Bool) (mWg : Int32) (mEn mDp : Nat) (mAt mTb mSt : Nat → Nat) (c0 : Nat) (k0 : Nat) (rNum : Nat → Int64) (rLnk : Nat → Nat) (hc : c0 < 96) (hk0 : k0 < 7) (hn : ∀ j, rLen j ≤ 12) (hw : W250 (PW.mk row mWr mWid mOv)) (hwi : WI (PW.mk row mWr mWid mOv)) : kM l y_M_putElements b_M_putElements 5 none ({ frames := 3, cells := 0, slots := 0, locals := 67 }) D vwCl (WmT gm) tw [.ref (am 0), .int (nI c0), .int (nI k0)] (Wm am gm sLen sKind sExt sMust rTab rFil mNum rLen rItm made pItm held dByt dLen ver fAdr fTab adr tab lf mCode row mWr mWid mOv mPl mTh mSp mPile mNext mSh mShs mRea mWg mEn mDp mAt mTb mSt) none (Wm am gm sLen sKind sExt sMust rTab rFil mNum rLen rItm made pItm held dByt dLen ver fAdr fTab adr tab lf mCode ((peW (SR.mk sLen sKind sExt sMust rTab rFil rNum rLnk rLen rItm) c0 k0 (PW.mk row mWr mWid mOv)).row) ((peW (SR.mk sLen sKind sExt sMust rTab rFil rNum rLnk rLen rItm) c0 k0 (PW.mk row mWr mWid mOv)).wr) ((peW (SR.mk sLen sKind sExt sMust rTab rFil rNum rLnk rLen rItm) c0 k0 (PW.mk row mWr mWid mOv)).wid) ((peW (SR.mk sLen sKind sExt sMust rTab rFil rNum rLnk rLen rItm) c0 k0 (PW.mk row mWr mWid mOv)).ov) mPl (va_up mTh c0 (peW (SR.mk sLen sKind sExt sMust rTab rFil rNum rLnk rLen rItm) c0 k0 (PW.mk row mWr mWid mOv)).wr) mSp mPile mNext mSh mShs mRea mWg mEn mDp mAt mTb mSt) := by
  refine k_of (by decide) (Nat.le_of_ble_eq_true rfl) ?_
  intro p e s m below meth c A ls hx hb hr hlocks hml hts hown hin0 hA hP hK hD hS hZ hl
  have hl : lv_has ls 5 [(0, .ref (am 0)), (1, .int (nI c0)), (2, .int (nI k0))] := hl
  have hn1 := hn c0
  refine lv_aload_n hx hb d_M_putElements_0 rfl (lv_at hl 0 rfl) ?_
  refine va_get (D := D) (ci := 8) (C := R_M) (T := T_M) (N := 39) hx hb hts (fun w h => kT w (i_M w h)) hown hK hP 0 rfl rfl 9 (by decide) (hts _ (kT _ wd_561915e7)) (fun _ h9 => h9) rfl d_M_putElements_1 ?_
  refine lv_iload_n hx hb d_M_putElements_4 rfl (lv_at hl 1 rfl) ?_
  refine n_iald hx hb hK hP 8 7 rfl rfl (i := c0) (by omega) (by decide) d_M_putElements_5 ?_
  refine lv_istore_n (lv' := [(3, .int (nI (rLen c0))), (0, .ref (am 0)), (1, .int (nI c0)), (2, .int (nI k0))]) hx hb d_M_putElements_6 rfl hl (by decide) rfl (fun ls hl => ?_)
  refine lv_iload_n hx hb d_M_putElements_7 rfl (lv_at hl 3 rfl) ?_
  refine lv_iconst (v := nI 4) hx hb d_M_putElements_8 (by decide) ?_
  refine lv_icmp_ne (tgt := 60) hx hb d_M_putElements_9 (by decide) (fun c_9 => ?_) (fun c_9 => ?_)
  · skip
    have c_9 := mt (nI_eq (by omega) (by omega)).mpr c_9
    refine lv_aload_n hx hb d_M_putElements_60 rfl (lv_at hl 1 rfl) ?_
    refine lv_iconst (v := nI 4) hx hb d_M_putElements_61 (by decide) ?_
    refine lv_iconst (v := nI 2) hx hb d_M_putElements_62 (by decide) ?_
    refine lv_iload_n hx hb d_M_putElements_63 rfl (lv_at hl 0 rfl) ?_
    refine lv_imul hx hb d_M_putElements_64 ?_
    refine lv_eqi (pk_mul _ _) ?_
    refine k_callV (m_align l D am gm tw sLen sKind sExt sMust rTab rFil mNum rLen rItm made pItm held dByt dLen ver fAdr fTab adr tab lf mCode row mWr mWid mOv mPl mTh mSp mPile mNext mSh mShs mRea mWg mEn mDp mAt mTb mSt 4 (2 * (rLen c0))  p8_4 hw (by omega) (WI_w hwi)) m_M_align wd_a90934a3 0 8 rfl rfl rfl kT hx hb hml hown hts ⟨Nat.le_of_ble_eq_true rfl, Nat.le_of_ble_eq_true rfl⟩ ⟨Nat.le_of_ble_eq_true rfl, Nat.le_of_ble_eq_true rfl⟩ hK hP hD hS hA hZ hl.1 rfl rfl (Nat.le_of_ble_eq_true rfl) d_M_putElements_65 (fun H locs hP hD hS => ?_)
    have hP : va_P D vwCl (Wm am gm sLen sKind sExt sMust rTab rFil mNum rLen rItm made pItm held dByt dLen ver fAdr fTab adr tab lf mCode (((PW.mk row mWr mWid mOv).al 4 (2 * (rLen c0))).row) (((PW.mk row mWr mWid mOv).al 4 (2 * (rLen c0))).wr) (((PW.mk row mWr mWid mOv).al 4 (2 * (rLen c0))).wid) (((PW.mk row mWr mWid mOv).al 4 (2 * (rLen c0))).ov) mPl mTh mSp mPile mNext mSh mShs mRea mWg mEn mDp mAt mTb mSt) H := hP
    have hD : va_D A (Wm am gm sLen sKind sExt sMust rTab rFil mNum rLen rItm made pItm held dByt dLen ver fAdr fTab adr tab lf mCode (((PW.mk row mWr mWid mOv).al 4 (2 * (rLen c0))).row) (((PW.mk row mWr mWid mOv).al 4 (2 * (rLen c0))).wr) (((PW.mk row mWr mWid mOv).al 4 (2 * (rLen c0))).wid) (((PW.mk row mWr mWid mOv).al 4 (2 * (rLen c0))).ov) mPl mTh mSp mPile mNext mSh mShs mRea mWg mEn mDp mAt mTb mSt) := hD
    refine W.eq (g2 := F0 m 68 ls []) rfl ?_
    refine lv_iload_n hx hb d_M_putElements_68 rfl (lv_at hl 0 rfl) ?_
    refine lv_iconst (v := nI 1) hx hb d_M_putElements_69 (by decide) ?_
    refine lv_isub hx hb d_M_putElements_70 ?_
    refine lv_istore (lv' := [(4, .int ((nI (rLen c0)) - (nI 1))), (3, .int (nI (rLen c0))), (0, .ref (am 0)), (1, .int (nI c0)), (2, .int (nI k0))]) hx hb d_M_putElements_71 hl (by decide) rfl (fun ls hl => ?_)
    have e_4 : (nI (rLen c0)) - (nI 1) = nI (rLen c0 - 0) - 1 := by rw [nI_1e]; rfl
    have hl : lv_has ls 5 [(4, .int (nI (rLen c0 - 0) - 1)), (3, .int (nI (rLen c0))), (0, .ref (am 0)), (1, .int (nI c0)), (2, .int (nI k0))] := by rw [← e_4]; exact hl
    have hP : va_P D vwCl (Wm am gm sLen sKind sExt sMust rTab rFil mNum rLen rItm made pItm held dByt dLen ver fAdr fTab adr tab lf mCode ((nrM (rwV (SR.mk sLen sKind sExt sMust rTab rFil rNum rLnk rLen rItm) c0) (rLen c0) ((PW.mk row mWr mWid mOv).al 4 (2 * rLen c0)) 0).row) ((nrM (rwV (SR.mk sLen sKind sExt sMust rTab rFil rNum rLnk rLen rItm) c0) (rLen c0) ((PW.mk row mWr mWid mOv).al 4 (2 * rLen c0)) 0).wr) ((nrM (rwV (SR.mk sLen sKind sExt sMust rTab rFil rNum rLnk rLen rItm) c0) (rLen c0) ((PW.mk row mWr mWid mOv).al 4 (2 * rLen c0)) 0).wid) ((nrM (rwV (SR.mk sLen sKind sExt sMust rTab rFil rNum rLnk rLen rItm) c0) (rLen c0) ((PW.mk row mWr mWid mOv).al 4 (2 * rLen c0)) 0).ov) mPl mTh mSp mPile mNext mSh mShs mRea mWg mEn mDp mAt mTb mSt) _ := hP
    have hD : va_D A (Wm am gm sLen sKind sExt sMust rTab rFil mNum rLen rItm made pItm held dByt dLen ver fAdr fTab adr tab lf mCode ((nrM (rwV (SR.mk sLen sKind sExt sMust rTab rFil rNum rLnk rLen rItm) c0) (rLen c0) ((PW.mk row mWr mWid mOv).al 4 (2 * rLen c0)) 0).row) ((nrM (rwV (SR.mk sLen sKind sExt sMust rTab rFil rNum rLnk rLen rItm) c0) (rLen c0) ((PW.mk row mWr mWid mOv).al 4 (2 * rLen c0)) 0).wr) ((nrM (rwV (SR.mk sLen sKind sExt sMust rTab rFil rNum rLnk rLen rItm) c0) (rLen c0) ((PW.mk row mWr mWid mOv).al 4 (2 * rLen c0)) 0).wid) ((nrM (rwV (SR.mk sLen sKind sExt sMust rTab rFil rNum rLnk rLen rItm) c0) (rLen c0) ((PW.mk row mWr mWid mOv).al 4 (2 * rLen c0)) 0).ov) mPl mTh mSp mPile mNext mSh mShs mRea mWg mEn mDp mAt mTb mSt) := hD
    have L_73 : ∀ (n : Nat) (nn : Nat), (nn ≤ rLen c0) → rLen c0 - nn < n → ∀ (H : Heap) (locs : List Loc) (ls : Array Slot), va_P D vwCl (Wm am gm sLen sKind sExt sMust rTab rFil mNum rLen rItm made pItm held dByt dLen ver fAdr fTab adr tab lf mCode ((nrM (rwV (SR.mk sLen sKind sExt sMust rTab rFil rNum rLnk rLen rItm) c0) (rLen c0) ((PW.mk row mWr mWid mOv).al 4 (2 * rLen c0)) nn).row) ((nrM (rwV (SR.mk sLen sKind sExt sMust rTab rFil rNum rLnk rLen rItm) c0) (rLen c0) ((PW.mk row mWr mWid mOv).al 4 (2 * rLen c0)) nn).wr) ((nrM (rwV (SR.mk sLen sKind sExt sMust rTab rFil rNum rLnk rLen rItm) c0) (rLen c0) ((PW.mk row mWr mWid mOv).al 4 (2 * rLen c0)) nn).wid) ((nrM (rwV (SR.mk sLen sKind sExt sMust rTab rFil rNum rLnk rLen rItm) c0) (rLen c0) ((PW.mk row mWr mWid mOv).al 4 (2 * rLen c0)) nn).ov) mPl mTh mSp mPile mNext mSh mShs mRea mWg mEn mDp mAt mTb mSt) H → va_D A (Wm am gm sLen sKind sExt sMust rTab rFil mNum rLen rItm made pItm held dByt dLen ver fAdr fTab adr tab lf mCode ((nrM (rwV (SR.mk sLen sKind sExt sMust rTab rFil rNum rLnk rLen rItm) c0) (rLen c0) ((PW.mk row mWr mWid mOv).al 4 (2 * rLen c0)) nn).row) ((nrM (rwV (SR.mk sLen sKind sExt sMust rTab rFil rNum rLnk rLen rItm) c0) (rLen c0) ((PW.mk row mWr mWid mOv).al 4 (2 * rLen c0)) nn).wr) ((nrM (rwV (SR.mk sLen sKind sExt sMust rTab rFil rNum rLnk rLen rItm) c0) (rLen c0) ((PW.mk row mWr mWid mOv).al 4 (2 * rLen c0)) nn).wid) ((nrM (rwV (SR.mk sLen sKind sExt sMust rTab rFil rNum rLnk rLen rItm) c0) (rLen c0) ((PW.mk row mWr mWid mOv).al 4 (2 * rLen c0)) nn).ov) mPl mTh mSp mPile mNext mSh mShs mRea mWg mEn mDp mAt mTb mSt) → va_S A s.heap H locs → lv_has ls 5 [(4, .int (nI (rLen c0 - nn) - 1)), (3, .int (nI (rLen c0))), (0, .ref (am 0)), (1, .int (nI c0)), (2, .int (nI k0))] → W p l e ({ frames := 3, cells := 0, slots := 0, locals := 67 }) s m ([.ref (am 0), .int (nI c0), .int (nI k0)] : List Value).toArray below meth c H locs 0 0 (MQ below (kQ D vwCl (WmT gm) A True none (Wm am gm sLen sKind sExt sMust rTab rFil mNum rLen rItm made pItm held dByt dLen ver fAdr fTab adr tab lf mCode ((peW (SR.mk sLen sKind sExt sMust rTab rFil rNum rLnk rLen rItm) c0 k0 (PW.mk row mWr mWid mOv)).row) ((peW (SR.mk sLen sKind sExt sMust rTab rFil rNum rLnk rLen rItm) c0 k0 (PW.mk row mWr mWid mOv)).wr) ((peW (SR.mk sLen sKind sExt sMust rTab rFil rNum rLnk rLen rItm) c0 k0 (PW.mk row mWr mWid mOv)).wid) ((peW (SR.mk sLen sKind sExt sMust rTab rFil rNum rLnk rLen rItm) c0 k0 (PW.mk row mWr mWid mOv)).ov) mPl (va_up mTh c0 (peW (SR.mk sLen sKind sExt sMust rTab rFil rNum rLnk rLen rItm) c0 k0 (PW.mk row mWr mWid mOv)).wr) mSp mPile mNext mSh mShs mRea mWg mEn mDp mAt mTb mSt)) ([.ref (am 0), .int (nI c0), .int (nI k0)] : List Value).toArray s 0 0 A) (F0 m 73 ls []) := by
      intro n
      induction n with
      | zero => intro nn hnn hm; exact absurd hm (Nat.not_lt_zero _)
      | succ n ih_73 =>
        intro nn hnn hm_73 H locs ls hP hD hS hl
        refine lv_iload hx hb d_M_putElements_73 (lv_at hl 0 rfl) ?_
        refine lv_if_lt (tgt := 102) hx hb d_M_putElements_75 (by decide) (fun c_75 => ?_) (fun c_75 => ?_)
        · skip
          have h_nn : rLen c0 = nn := by have := (dn_lt (by omega)).mp c_75; omega
          subst h_nn
          refine lv_aload_n hx hb d_M_putElements_102 rfl (lv_at hl 2 rfl) ?_
          refine lv_iconst (v := nI 4) hx hb d_M_putElements_103 (by decide) ?_
          refine lv_iload_n hx hb d_M_putElements_104 rfl (lv_at hl 1 rfl) ?_
          refine lv_i2l hx hb d_M_putElements_105 rfl ?_
          refine k_callV (m_putNumber l D am gm tw sLen sKind sExt sMust rTab rFil mNum rLen rItm made pItm held dByt dLen ver fAdr fTab adr tab lf mCode ((nrM (rwV (SR.mk sLen sKind sExt sMust rTab rFil rNum rLnk rLen rItm) c0) (rLen c0) ((PW.mk row mWr mWid mOv).al 4 (2 * rLen c0)) (rLen c0)).row) ((nrM (rwV (SR.mk sLen sKind sExt sMust rTab rFil rNum rLnk rLen rItm) c0) (rLen c0) ((PW.mk row mWr mWid mOv).al 4 (2 * rLen c0)) (rLen c0)).wr) ((nrM (rwV (SR.mk sLen sKind sExt sMust rTab rFil rNum rLnk rLen rItm) c0) (rLen c0) ((PW.mk row mWr mWid mOv).al 4 (2 * rLen c0)) (rLen c0)).wid) ((nrM (rwV (SR.mk sLen sKind sExt sMust rTab rFil rNum rLnk rLen rItm) c0) (rLen c0) ((PW.mk row mWr mWid mOv).al 4 (2 * rLen c0)) (rLen c0)).ov) mPl mTh mSp mPile mNext mSh mShs mRea mWg mEn mDp mAt mTb mSt 4 ((nI (rLen c0)).toInt64)  p8_4 (by first | exact (Kp_te (Kp_pb (Kp_al hw 4 (rLen c0 + 1)).1 (nI 0)).1 (SR.mk sLen sKind sExt sMust rTab rFil rNum rLnk rLen rItm) c0 (rLen c0)).1 | exact (Kp_nr (Kp_al hw 4 (2 * rLen c0)).1 (rwV (SR.mk sLen sKind sExt sMust rTab rFil rNum rLnk rLen rItm) c0) (rLen c0) (rLen c0)).1) (by first | exact WI_w (WI_te (WI_pb (WI_al hwi p8_4 (rLen c0 + 1)) (nI 0)) (SR.mk sLen sKind sExt sMust rTab rFil rNum rLnk rLen rItm) c0 (rLen c0)) | exact WI_w (WI_nr (WI_al hwi p8_4 (2 * rLen c0)) (rwV (SR.mk sLen sKind sExt sMust rTab rFil rNum rLnk rLen rItm) c0) (rLen c0) (rLen c0)))) m_M_putNumber wd_109caaca 0 8 rfl rfl rfl kT hx hb hml hown hts ⟨Nat.le_of_ble_eq_true rfl, Nat.le_of_ble_eq_true rfl⟩ ⟨Nat.le_of_ble_eq_true rfl, Nat.le_of_ble_eq_true rfl⟩ hK hP hD hS hA hZ hl.1 rfl rfl (Nat.le_of_ble_eq_true rfl) d_M_putElements_106 (fun H locs hP hD hS => ?_)
          have hP : va_P D vwCl (Wm am gm sLen sKind sExt sMust rTab rFil mNum rLen rItm made pItm held dByt dLen ver fAdr fTab adr tab lf mCode (((nrM (rwV (SR.mk sLen sKind sExt sMust rTab rFil rNum rLnk rLen rItm) c0) (rLen c0) ((PW.mk row mWr mWid mOv).al 4 (2 * rLen c0)) (rLen c0)).pn ((nI (rLen c0)).toInt64) 4).row) (((nrM (rwV (SR.mk sLen sKind sExt sMust rTab rFil rNum rLnk rLen rItm) c0) (rLen c0) ((PW.mk row mWr mWid mOv).al 4 (2 * rLen c0)) (rLen c0)).pn ((nI (rLen c0)).toInt64) 4).wr) (((nrM (rwV (SR.mk sLen sKind sExt sMust rTab rFil rNum rLnk rLen rItm) c0) (rLen c0) ((PW.mk row mWr mWid mOv).al 4 (2 * rLen c0)) (rLen c0)).pn ((nI (rLen c0)).toInt64) 4).wid) (((nrM (rwV (SR.mk sLen sKind sExt sMust rTab rFil rNum rLnk rLen rItm) c0) (rLen c0) ((PW.mk row mWr mWid mOv).al 4 (2 * rLen c0)) (rLen c0)).pn ((nI (rLen c0)).toInt64) 4).ov) mPl mTh mSp mPile mNext mSh mShs mRea mWg mEn mDp mAt mTb mSt) H := hP
          have hD : va_D A (Wm am gm sLen sKind sExt sMust rTab rFil mNum rLen rItm made pItm held dByt dLen ver fAdr fTab adr tab lf mCode (((nrM (rwV (SR.mk sLen sKind sExt sMust rTab rFil rNum rLnk rLen rItm) c0) (rLen c0) ((PW.mk row mWr mWid mOv).al 4 (2 * rLen c0)) (rLen c0)).pn ((nI (rLen c0)).toInt64) 4).row) (((nrM (rwV (SR.mk sLen sKind sExt sMust rTab rFil rNum rLnk rLen rItm) c0) (rLen c0) ((PW.mk row mWr mWid mOv).al 4 (2 * rLen c0)) (rLen c0)).pn ((nI (rLen c0)).toInt64) 4).wr) (((nrM (rwV (SR.mk sLen sKind sExt sMust rTab rFil rNum rLnk rLen rItm) c0) (rLen c0) ((PW.mk row mWr mWid mOv).al 4 (2 * rLen c0)) (rLen c0)).pn ((nI (rLen c0)).toInt64) 4).wid) (((nrM (rwV (SR.mk sLen sKind sExt sMust rTab rFil rNum rLnk rLen rItm) c0) (rLen c0) ((PW.mk row mWr mWid mOv).al 4 (2 * rLen c0)) (rLen c0)).pn ((nI (rLen c0)).toInt64) 4).ov) mPl mTh mSp mPile mNext mSh mShs mRea mWg mEn mDp mAt mTb mSt) := hD
          refine W.eq (g2 := F0 m 109 ls []) rfl ?_
          refine lv_aload_n hx hb d_M_putElements_109 rfl (lv_at hl 2 rfl) ?_
          refine va_get (D := D) (ci := 8) (C := R_M) (T := T_M) (N := 39) hx hb hts (fun w h => kT w (i_M w h)) hown hK hP 0 rfl rfl 18 (by decide) (hts _ (kT _ wd_b7f970ef)) (fun _ h9 => h9) rfl d_M_putElements_110 ?_
          refine lv_iload_n hx hb d_M_putElements_113 rfl (lv_at hl 3 rfl) ?_
          refine lv_aload_n hx hb d_M_putElements_114 rfl (lv_at hl 2 rfl) ?_
          refine va_get (D := D) (ci := 8) (C := R_M) (T := T_M) (N := 39) hx hb hts (fun w h => kT w (i_M w h)) hown hK hP 0 rfl rfl 14 (by decide) (hts _ (kT _ wd_7837caa3)) (fun _ h9 => h9) rfl d_M_putElements_115 ?_
          refine n_iast hx hb hK hP hD hS 13 12 rfl rfl (i := c0) (by omega) (by decide) d_M_putElements_118 (fun H locs hP hD hS => ?_)
          have hP : va_P D vwCl (Wm am gm sLen sKind sExt sMust rTab rFil mNum rLen rItm made pItm held dByt dLen ver fAdr fTab adr tab lf mCode (((nrM (rwV (SR.mk sLen sKind sExt sMust rTab rFil rNum rLnk rLen rItm) c0) (rLen c0) ((PW.mk row mWr mWid mOv).al 4 (2 * rLen c0)) (rLen c0)).pn ((nI (rLen c0)).toInt64) 4).row) (((nrM (rwV (SR.mk sLen sKind sExt sMust rTab rFil rNum rLnk rLen rItm) c0) (rLen c0) ((PW.mk row mWr mWid mOv).al 4 (2 * rLen c0)) (rLen c0)).pn ((nI (rLen c0)).toInt64) 4).wr) (((nrM (rwV (SR.mk sLen sKind sExt sMust rTab rFil rNum rLnk rLen rItm) c0) (rLen c0) ((PW.mk row mWr mWid mOv).al 4 (2 * rLen c0)) (rLen c0)).pn ((nI (rLen c0)).toInt64) 4).wid) (((nrM (rwV (SR.mk sLen sKind sExt sMust rTab rFil rNum rLnk rLen rItm) c0) (rLen c0) ((PW.mk row mWr mWid mOv).al 4 (2 * rLen c0)) (rLen c0)).pn ((nI (rLen c0)).toInt64) 4).ov) mPl (va_up mTh c0 (((nrM (rwV (SR.mk sLen sKind sExt sMust rTab rFil rNum rLnk rLen rItm) c0) (rLen c0) ((PW.mk row mWr mWid mOv).al 4 (2 * rLen c0)) (rLen c0)).pn ((nI (rLen c0)).toInt64) 4).wr)) mSp mPile mNext mSh mShs mRea mWg mEn mDp mAt mTb mSt) H := hP
          have hD : va_D A (Wm am gm sLen sKind sExt sMust rTab rFil mNum rLen rItm made pItm held dByt dLen ver fAdr fTab adr tab lf mCode (((nrM (rwV (SR.mk sLen sKind sExt sMust rTab rFil rNum rLnk rLen rItm) c0) (rLen c0) ((PW.mk row mWr mWid mOv).al 4 (2 * rLen c0)) (rLen c0)).pn ((nI (rLen c0)).toInt64) 4).row) (((nrM (rwV (SR.mk sLen sKind sExt sMust rTab rFil rNum rLnk rLen rItm) c0) (rLen c0) ((PW.mk row mWr mWid mOv).al 4 (2 * rLen c0)) (rLen c0)).pn ((nI (rLen c0)).toInt64) 4).wr) (((nrM (rwV (SR.mk sLen sKind sExt sMust rTab rFil rNum rLnk rLen rItm) c0) (rLen c0) ((PW.mk row mWr mWid mOv).al 4 (2 * rLen c0)) (rLen c0)).pn ((nI (rLen c0)).toInt64) 4).wid) (((nrM (rwV (SR.mk sLen sKind sExt sMust rTab rFil rNum rLnk rLen rItm) c0) (rLen c0) ((PW.mk row mWr mWid mOv).al 4 (2 * rLen c0)) (rLen c0)).pn ((nI (rLen c0)).toInt64) 4).ov) mPl (va_up mTh c0 (((nrM (rwV (SR.mk sLen sKind sExt sMust rTab rFil rNum rLnk rLen rItm) c0) (rLen c0) ((PW.mk row mWr mWid mOv).al 4 (2 * rLen c0)) (rLen c0)).pn ((nI (rLen c0)).toInt64) 4).wr)) mSp mPile mNext mSh mShs mRea mWg mEn mDp mAt mTb mSt) := hD
          have hv : peW (SR.mk sLen sKind sExt sMust rTab rFil rNum rLnk rLen rItm) c0 k0 (PW.mk row mWr mWid mOv) = rwM (SR.mk sLen sKind sExt sMust rTab rFil rNum rLnk rLen rItm) c0 (PW.mk row mWr mWid mOv) := if_neg c_9
          exact k_vret hx hb hr hlocks hK hP hD hS (trivial) (by rw [hv]; first | done | rfl) d_M_putElements_119
        · skip
          have hj : ¬ (rLen c0 - nn) = 0 := mt (dn_lt (by omega)).mpr c_75
          have hl : lv_has ls 5 [(4, .int (nI ((rLen c0 - nn) - 1))), (3, .int (nI (rLen c0))), (0, .ref (am 0)), (1, .int (nI c0)), (2, .int (nI k0))] := by rw [← dn_in hj]; exact hl
          refine lv_aload_n hx hb d_M_putElements_78 rfl (lv_at hl 2 rfl) ?_
          refine lv_iconst (v := nI 2) hx hb d_M_putElements_79 (by decide) ?_
          refine lv_aload_n hx hb d_M_putElements_80 rfl (lv_at hl 2 rfl) ?_
          refine va_get (D := D) (ci := 8) (C := R_M) (T := T_M) (N := 39) hx hb hts (fun w h => kT w (i_M w h)) hown hK hP 0 rfl rfl 10 (by decide) (hts _ (kT _ wd_1d9af4df)) (fun _ h9 => h9) rfl d_M_putElements_81 ?_
          refine lv_bipush (v := nI 12) hx hb d_M_putElements_84 (by decide) ?_
          refine lv_iload_n hx hb d_M_putElements_86 rfl (lv_at hl 3 rfl) ?_
          refine lv_imul hx hb d_M_putElements_87 ?_
          refine lv_eqi ((pk_mul _ _).trans (nI_congr (Nat.mul_comm _ _))) ?_
          refine lv_iload hx hb d_M_putElements_88 (lv_at hl 0 rfl) ?_
          refine lv_iadd hx hb d_M_putElements_90 ?_
          refine lv_eqi (nI_add _ _) ?_
          refine r_iald hx hb hK hP 9 8 rfl rfl (i := ((c0 * 12) + ((rLen c0 - nn) - 1))) (by omega) (by decide) d_M_putElements_91 ?_
          refine lv_i2l hx hb d_M_putElements_92 rfl ?_
          refine k_callV (m_putNumber l D am gm tw sLen sKind sExt sMust rTab rFil mNum rLen rItm made pItm held dByt dLen ver fAdr fTab adr tab lf mCode ((nrM (rwV (SR.mk sLen sKind sExt sMust rTab rFil rNum rLnk rLen rItm) c0) (rLen c0) ((PW.mk row mWr mWid mOv).al 4 (2 * rLen c0)) nn).row) ((nrM (rwV (SR.mk sLen sKind sExt sMust rTab rFil rNum rLnk rLen rItm) c0) (rLen c0) ((PW.mk row mWr mWid mOv).al 4 (2 * rLen c0)) nn).wr) ((nrM (rwV (SR.mk sLen sKind sExt sMust rTab rFil rNum rLnk rLen rItm) c0) (rLen c0) ((PW.mk row mWr mWid mOv).al 4 (2 * rLen c0)) nn).wid) ((nrM (rwV (SR.mk sLen sKind sExt sMust rTab rFil rNum rLnk rLen rItm) c0) (rLen c0) ((PW.mk row mWr mWid mOv).al 4 (2 * rLen c0)) nn).ov) mPl mTh mSp mPile mNext mSh mShs mRea mWg mEn mDp mAt mTb mSt 2 ((rItm ((c0 * 12) + ((rLen c0 - nn) - 1))).toInt64)  p8_2 (Kp_nr (Kp_al hw 4 (2 * rLen c0)).1 (rwV (SR.mk sLen sKind sExt sMust rTab rFil rNum rLnk rLen rItm) c0) (rLen c0) nn).1 (WI_w (WI_nr (WI_al hwi p8_4 (2 * rLen c0)) (rwV (SR.mk sLen sKind sExt sMust rTab rFil rNum rLnk rLen rItm) c0) (rLen c0) nn))) m_M_putNumber wd_109caaca 0 8 rfl rfl rfl kT hx hb hml hown hts ⟨Nat.le_of_ble_eq_true rfl, Nat.le_of_ble_eq_true rfl⟩ ⟨Nat.le_of_ble_eq_true rfl, Nat.le_of_ble_eq_true rfl⟩ hK hP hD hS hA hZ hl.1 rfl rfl (Nat.le_of_ble_eq_true rfl) d_M_putElements_93 (fun H locs hP hD hS => ?_)
          have hP : va_P D vwCl (Wm am gm sLen sKind sExt sMust rTab rFil mNum rLen rItm made pItm held dByt dLen ver fAdr fTab adr tab lf mCode (((nrM (rwV (SR.mk sLen sKind sExt sMust rTab rFil rNum rLnk rLen rItm) c0) (rLen c0) ((PW.mk row mWr mWid mOv).al 4 (2 * rLen c0)) nn).pn ((rItm ((c0 * 12) + ((rLen c0 - nn) - 1))).toInt64) 2).row) (((nrM (rwV (SR.mk sLen sKind sExt sMust rTab rFil rNum rLnk rLen rItm) c0) (rLen c0) ((PW.mk row mWr mWid mOv).al 4 (2 * rLen c0)) nn).pn ((rItm ((c0 * 12) + ((rLen c0 - nn) - 1))).toInt64) 2).wr) (((nrM (rwV (SR.mk sLen sKind sExt sMust rTab rFil rNum rLnk rLen rItm) c0) (rLen c0) ((PW.mk row mWr mWid mOv).al 4 (2 * rLen c0)) nn).pn ((rItm ((c0 * 12) + ((rLen c0 - nn) - 1))).toInt64) 2).wid) (((nrM (rwV (SR.mk sLen sKind sExt sMust rTab rFil rNum rLnk rLen rItm) c0) (rLen c0) ((PW.mk row mWr mWid mOv).al 4 (2 * rLen c0)) nn).pn ((rItm ((c0 * 12) + ((rLen c0 - nn) - 1))).toInt64) 2).ov) mPl mTh mSp mPile mNext mSh mShs mRea mWg mEn mDp mAt mTb mSt) H := hP
          have hD : va_D A (Wm am gm sLen sKind sExt sMust rTab rFil mNum rLen rItm made pItm held dByt dLen ver fAdr fTab adr tab lf mCode (((nrM (rwV (SR.mk sLen sKind sExt sMust rTab rFil rNum rLnk rLen rItm) c0) (rLen c0) ((PW.mk row mWr mWid mOv).al 4 (2 * rLen c0)) nn).pn ((rItm ((c0 * 12) + ((rLen c0 - nn) - 1))).toInt64) 2).row) (((nrM (rwV (SR.mk sLen sKind sExt sMust rTab rFil rNum rLnk rLen rItm) c0) (rLen c0) ((PW.mk row mWr mWid mOv).al 4 (2 * rLen c0)) nn).pn ((rItm ((c0 * 12) + ((rLen c0 - nn) - 1))).toInt64) 2).wr) (((nrM (rwV (SR.mk sLen sKind sExt sMust rTab rFil rNum rLnk rLen rItm) c0) (rLen c0) ((PW.mk row mWr mWid mOv).al 4 (2 * rLen c0)) nn).pn ((rItm ((c0 * 12) + ((rLen c0 - nn) - 1))).toInt64) 2).wid) (((nrM (rwV (SR.mk sLen sKind sExt sMust rTab rFil rNum rLnk rLen rItm) c0) (rLen c0) ((PW.mk row mWr mWid mOv).al 4 (2 * rLen c0)) nn).pn ((rItm ((c0 * 12) + ((rLen c0 - nn) - 1))).toInt64) 2).ov) mPl mTh mSp mPile mNext mSh mShs mRea mWg mEn mDp mAt mTb mSt) := hD
          refine W.eq (g2 := F0 m 96 ls []) rfl ?_
          refine lv_iinc (v := (nI ((rLen c0 - nn) - 1)) + (-1)) (lv' := [(4, .int ((nI ((rLen c0 - nn) - 1)) + (-1))), (3, .int (nI (rLen c0))), (0, .ref (am 0)), (1, .int (nI c0)), (2, .int (nI k0))]) hx hb d_M_putElements_96 hl (k := 0) rfl rfl (by decide) rfl (fun ls hl => ?_)
          refine lv_goto (tgt := 73) hx hb d_M_putElements_99 (by decide) ?_
          have e_4 : (nI ((rLen c0 - nn) - 1)) + (-1) = nI (rLen c0 - (nn + 1)) - 1 := by rw [dn_step]; exact congrArg (· - 1) (nI_congr (by omega))
          have hl : lv_has ls 5 [(4, .int (nI (rLen c0 - (nn + 1)) - 1)), (3, .int (nI (rLen c0))), (0, .ref (am 0)), (1, .int (nI c0)), (2, .int (nI k0))] := by rw [← e_4]; exact hl
          have hP : va_P D vwCl (Wm am gm sLen sKind sExt sMust rTab rFil mNum rLen rItm made pItm held dByt dLen ver fAdr fTab adr tab lf mCode ((nrM (rwV (SR.mk sLen sKind sExt sMust rTab rFil rNum rLnk rLen rItm) c0) (rLen c0) ((PW.mk row mWr mWid mOv).al 4 (2 * rLen c0)) (nn + 1)).row) ((nrM (rwV (SR.mk sLen sKind sExt sMust rTab rFil rNum rLnk rLen rItm) c0) (rLen c0) ((PW.mk row mWr mWid mOv).al 4 (2 * rLen c0)) (nn + 1)).wr) ((nrM (rwV (SR.mk sLen sKind sExt sMust rTab rFil rNum rLnk rLen rItm) c0) (rLen c0) ((PW.mk row mWr mWid mOv).al 4 (2 * rLen c0)) (nn + 1)).wid) ((nrM (rwV (SR.mk sLen sKind sExt sMust rTab rFil rNum rLnk rLen rItm) c0) (rLen c0) ((PW.mk row mWr mWid mOv).al 4 (2 * rLen c0)) (nn + 1)).ov) mPl mTh mSp mPile mNext mSh mShs mRea mWg mEn mDp mAt mTb mSt) H := hP
          have hD : va_D A (Wm am gm sLen sKind sExt sMust rTab rFil mNum rLen rItm made pItm held dByt dLen ver fAdr fTab adr tab lf mCode ((nrM (rwV (SR.mk sLen sKind sExt sMust rTab rFil rNum rLnk rLen rItm) c0) (rLen c0) ((PW.mk row mWr mWid mOv).al 4 (2 * rLen c0)) (nn + 1)).row) ((nrM (rwV (SR.mk sLen sKind sExt sMust rTab rFil rNum rLnk rLen rItm) c0) (rLen c0) ((PW.mk row mWr mWid mOv).al 4 (2 * rLen c0)) (nn + 1)).wr) ((nrM (rwV (SR.mk sLen sKind sExt sMust rTab rFil rNum rLnk rLen rItm) c0) (rLen c0) ((PW.mk row mWr mWid mOv).al 4 (2 * rLen c0)) (nn + 1)).wid) ((nrM (rwV (SR.mk sLen sKind sExt sMust rTab rFil rNum rLnk rLen rItm) c0) (rLen c0) ((PW.mk row mWr mWid mOv).al 4 (2 * rLen c0)) (nn + 1)).ov) mPl mTh mSp mPile mNext mSh mShs mRea mWg mEn mDp mAt mTb mSt) := hD
          exact ih_73 (nn + 1) (by omega) (by omega) _ _ _ hP hD hS (lv_sub hl [0, 1, 2, 3, 4] rfl)
    exact L_73 ((rLen c0 - 0) + 1) 0 (by omega) (by omega) _ _ _ hP hD hS (lv_sub hl [0, 1, 2, 3, 4] rfl)
  · skip
    have c_9 := (nI_eq (by omega) (by omega)).mp c_9
    refine lv_aload_n hx hb d_M_putElements_12 rfl (lv_at hl 1 rfl) ?_
    refine lv_iconst (v := nI 4) hx hb d_M_putElements_13 (by decide) ?_
    refine lv_iload_n hx hb d_M_putElements_14 rfl (lv_at hl 0 rfl) ?_
    refine lv_iconst (v := nI 1) hx hb d_M_putElements_15 (by decide) ?_
    refine lv_iadd hx hb d_M_putElements_16 ?_
    refine lv_eqi (nI_add _ _) ?_
    refine k_callV (m_align l D am gm tw sLen sKind sExt sMust rTab rFil mNum rLen rItm made pItm held dByt dLen ver fAdr fTab adr tab lf mCode row mWr mWid mOv mPl mTh mSp mPile mNext mSh mShs mRea mWg mEn mDp mAt mTb mSt 4 ((rLen c0) + 1)  p8_4 hw (by omega) (WI_w hwi)) m_M_align wd_a90934a3 0 8 rfl rfl rfl kT hx hb hml hown hts ⟨Nat.le_of_ble_eq_true rfl, Nat.le_of_ble_eq_true rfl⟩ ⟨Nat.le_of_ble_eq_true rfl, Nat.le_of_ble_eq_true rfl⟩ hK hP hD hS hA hZ hl.1 rfl rfl (Nat.le_of_ble_eq_true rfl) d_M_putElements_17 (fun H locs hP hD hS => ?_)
    have hP : va_P D vwCl (Wm am gm sLen sKind sExt sMust rTab rFil mNum rLen rItm made pItm held dByt dLen ver fAdr fTab adr tab lf mCode (((PW.mk row mWr mWid mOv).al 4 ((rLen c0) + 1)).row) (((PW.mk row mWr mWid mOv).al 4 ((rLen c0) + 1)).wr) (((PW.mk row mWr mWid mOv).al 4 ((rLen c0) + 1)).wid) (((PW.mk row mWr mWid mOv).al 4 ((rLen c0) + 1)).ov) mPl mTh mSp mPile mNext mSh mShs mRea mWg mEn mDp mAt mTb mSt) H := hP
    have hD : va_D A (Wm am gm sLen sKind sExt sMust rTab rFil mNum rLen rItm made pItm held dByt dLen ver fAdr fTab adr tab lf mCode (((PW.mk row mWr mWid mOv).al 4 ((rLen c0) + 1)).row) (((PW.mk row mWr mWid mOv).al 4 ((rLen c0) + 1)).wr) (((PW.mk row mWr mWid mOv).al 4 ((rLen c0) + 1)).wid) (((PW.mk row mWr mWid mOv).al 4 ((rLen c0) + 1)).ov) mPl mTh mSp mPile mNext mSh mShs mRea mWg mEn mDp mAt mTb mSt) := hD
    refine W.eq (g2 := F0 m 20 ls []) rfl ?_
    refine lv_aload_n hx hb d_M_putElements_20 rfl (lv_at hl 1 rfl) ?_
    refine lv_iconst (v := nI 0) hx hb d_M_putElements_21 (by decide) ?_
    refine k_callV (m_put l D am gm tw sLen sKind sExt sMust rTab rFil mNum rLen rItm made pItm held dByt dLen ver fAdr fTab adr tab lf mCode (((PW.mk row mWr mWid mOv).al 4 ((rLen c0) + 1)).row) (((PW.mk row mWr mWid mOv).al 4 ((rLen c0) + 1)).wr) (((PW.mk row mWr mWid mOv).al 4 ((rLen c0) + 1)).wid) (((PW.mk row mWr mWid mOv).al 4 ((rLen c0) + 1)).ov) mPl mTh mSp mPile mNext mSh mShs mRea mWg mEn mDp mAt mTb mSt (nI 0)  (Kp_al hw 4 (rLen c0 + 1)).1) m_M_put wd_77c1de03 0 8 rfl rfl rfl kT hx hb hml hown hts ⟨Nat.le_of_ble_eq_true rfl, Nat.le_of_ble_eq_true rfl⟩ ⟨Nat.le_of_ble_eq_true rfl, Nat.le_of_ble_eq_true rfl⟩ hK hP hD hS hA hZ hl.1 rfl rfl (Nat.le_of_ble_eq_true rfl) d_M_putElements_22 (fun H locs hP hD hS => ?_)
    have hP : va_P D vwCl (Wm am gm sLen sKind sExt sMust rTab rFil mNum rLen rItm made pItm held dByt dLen ver fAdr fTab adr tab lf mCode ((((PW.mk row mWr mWid mOv).al 4 ((rLen c0) + 1)).pb (nI 0)).row) ((((PW.mk row mWr mWid mOv).al 4 ((rLen c0) + 1)).pb (nI 0)).wr) ((((PW.mk row mWr mWid mOv).al 4 ((rLen c0) + 1)).pb (nI 0)).wid) ((((PW.mk row mWr mWid mOv).al 4 ((rLen c0) + 1)).pb (nI 0)).ov) mPl mTh mSp mPile mNext mSh mShs mRea mWg mEn mDp mAt mTb mSt) H := hP
    have hD : va_D A (Wm am gm sLen sKind sExt sMust rTab rFil mNum rLen rItm made pItm held dByt dLen ver fAdr fTab adr tab lf mCode ((((PW.mk row mWr mWid mOv).al 4 ((rLen c0) + 1)).pb (nI 0)).row) ((((PW.mk row mWr mWid mOv).al 4 ((rLen c0) + 1)).pb (nI 0)).wr) ((((PW.mk row mWr mWid mOv).al 4 ((rLen c0) + 1)).pb (nI 0)).wid) ((((PW.mk row mWr mWid mOv).al 4 ((rLen c0) + 1)).pb (nI 0)).ov) mPl mTh mSp mPile mNext mSh mShs mRea mWg mEn mDp mAt mTb mSt) := hD
    refine W.eq (g2 := F0 m 25 ls []) rfl ?_
    refine lv_iload_n hx hb d_M_putElements_25 rfl (lv_at hl 0 rfl) ?_
    refine lv_iconst (v := nI 1) hx hb d_M_putElements_26 (by decide) ?_
    refine lv_isub hx hb d_M_putElements_27 ?_
    refine lv_istore (lv' := [(4, .int ((nI (rLen c0)) - (nI 1))), (3, .int (nI (rLen c0))), (0, .ref (am 0)), (1, .int (nI c0)), (2, .int (nI k0))]) hx hb d_M_putElements_28 hl (by decide) rfl (fun ls hl => ?_)
    have e_4 : (nI (rLen c0)) - (nI 1) = nI (rLen c0 - 0) - 1 := by rw [nI_1e]; rfl
    have hl : lv_has ls 5 [(4, .int (nI (rLen c0 - 0) - 1)), (3, .int (nI (rLen c0))), (0, .ref (am 0)), (1, .int (nI c0)), (2, .int (nI k0))] := by rw [← e_4]; exact hl
    have hP : va_P D vwCl (Wm am gm sLen sKind sExt sMust rTab rFil mNum rLen rItm made pItm held dByt dLen ver fAdr fTab adr tab lf mCode ((teI (SR.mk sLen sKind sExt sMust rTab rFil rNum rLnk rLen rItm) c0 (((PW.mk row mWr mWid mOv).al 4 (rLen c0 + 1)).pb (nI 0)) 0).row) ((teI (SR.mk sLen sKind sExt sMust rTab rFil rNum rLnk rLen rItm) c0 (((PW.mk row mWr mWid mOv).al 4 (rLen c0 + 1)).pb (nI 0)) 0).wr) ((teI (SR.mk sLen sKind sExt sMust rTab rFil rNum rLnk rLen rItm) c0 (((PW.mk row mWr mWid mOv).al 4 (rLen c0 + 1)).pb (nI 0)) 0).wid) ((teI (SR.mk sLen sKind sExt sMust rTab rFil rNum rLnk rLen rItm) c0 (((PW.mk row mWr mWid mOv).al 4 (rLen c0 + 1)).pb (nI 0)) 0).ov) mPl mTh mSp mPile mNext mSh mShs mRea mWg mEn mDp mAt mTb mSt) _ := hP
    have hD : va_D A (Wm am gm sLen sKind sExt sMust rTab rFil mNum rLen rItm made pItm held dByt dLen ver fAdr fTab adr tab lf mCode ((teI (SR.mk sLen sKind sExt sMust rTab rFil rNum rLnk rLen rItm) c0 (((PW.mk row mWr mWid mOv).al 4 (rLen c0 + 1)).pb (nI 0)) 0).row) ((teI (SR.mk sLen sKind sExt sMust rTab rFil rNum rLnk rLen rItm) c0 (((PW.mk row mWr mWid mOv).al 4 (rLen c0 + 1)).pb (nI 0)) 0).wr) ((teI (SR.mk sLen sKind sExt sMust rTab rFil rNum rLnk rLen rItm) c0 (((PW.mk row mWr mWid mOv).al 4 (rLen c0 + 1)).pb (nI 0)) 0).wid) ((teI (SR.mk sLen sKind sExt sMust rTab rFil rNum rLnk rLen rItm) c0 (((PW.mk row mWr mWid mOv).al 4 (rLen c0 + 1)).pb (nI 0)) 0).ov) mPl mTh mSp mPile mNext mSh mShs mRea mWg mEn mDp mAt mTb mSt) := hD
    have L_30 : ∀ (n : Nat) (nn : Nat), (nn ≤ rLen c0) → rLen c0 - nn < n → ∀ (H : Heap) (locs : List Loc) (ls : Array Slot), va_P D vwCl (Wm am gm sLen sKind sExt sMust rTab rFil mNum rLen rItm made pItm held dByt dLen ver fAdr fTab adr tab lf mCode ((teI (SR.mk sLen sKind sExt sMust rTab rFil rNum rLnk rLen rItm) c0 (((PW.mk row mWr mWid mOv).al 4 (rLen c0 + 1)).pb (nI 0)) nn).row) ((teI (SR.mk sLen sKind sExt sMust rTab rFil rNum rLnk rLen rItm) c0 (((PW.mk row mWr mWid mOv).al 4 (rLen c0 + 1)).pb (nI 0)) nn).wr) ((teI (SR.mk sLen sKind sExt sMust rTab rFil rNum rLnk rLen rItm) c0 (((PW.mk row mWr mWid mOv).al 4 (rLen c0 + 1)).pb (nI 0)) nn).wid) ((teI (SR.mk sLen sKind sExt sMust rTab rFil rNum rLnk rLen rItm) c0 (((PW.mk row mWr mWid mOv).al 4 (rLen c0 + 1)).pb (nI 0)) nn).ov) mPl mTh mSp mPile mNext mSh mShs mRea mWg mEn mDp mAt mTb mSt) H → va_D A (Wm am gm sLen sKind sExt sMust rTab rFil mNum rLen rItm made pItm held dByt dLen ver fAdr fTab adr tab lf mCode ((teI (SR.mk sLen sKind sExt sMust rTab rFil rNum rLnk rLen rItm) c0 (((PW.mk row mWr mWid mOv).al 4 (rLen c0 + 1)).pb (nI 0)) nn).row) ((teI (SR.mk sLen sKind sExt sMust rTab rFil rNum rLnk rLen rItm) c0 (((PW.mk row mWr mWid mOv).al 4 (rLen c0 + 1)).pb (nI 0)) nn).wr) ((teI (SR.mk sLen sKind sExt sMust rTab rFil rNum rLnk rLen rItm) c0 (((PW.mk row mWr mWid mOv).al 4 (rLen c0 + 1)).pb (nI 0)) nn).wid) ((teI (SR.mk sLen sKind sExt sMust rTab rFil rNum rLnk rLen rItm) c0 (((PW.mk row mWr mWid mOv).al 4 (rLen c0 + 1)).pb (nI 0)) nn).ov) mPl mTh mSp mPile mNext mSh mShs mRea mWg mEn mDp mAt mTb mSt) → va_S A s.heap H locs → lv_has ls 5 [(4, .int (nI (rLen c0 - nn) - 1)), (3, .int (nI (rLen c0))), (0, .ref (am 0)), (1, .int (nI c0)), (2, .int (nI k0))] → W p l e ({ frames := 3, cells := 0, slots := 0, locals := 67 }) s m ([.ref (am 0), .int (nI c0), .int (nI k0)] : List Value).toArray below meth c H locs 0 0 (MQ below (kQ D vwCl (WmT gm) A True none (Wm am gm sLen sKind sExt sMust rTab rFil mNum rLen rItm made pItm held dByt dLen ver fAdr fTab adr tab lf mCode ((peW (SR.mk sLen sKind sExt sMust rTab rFil rNum rLnk rLen rItm) c0 k0 (PW.mk row mWr mWid mOv)).row) ((peW (SR.mk sLen sKind sExt sMust rTab rFil rNum rLnk rLen rItm) c0 k0 (PW.mk row mWr mWid mOv)).wr) ((peW (SR.mk sLen sKind sExt sMust rTab rFil rNum rLnk rLen rItm) c0 k0 (PW.mk row mWr mWid mOv)).wid) ((peW (SR.mk sLen sKind sExt sMust rTab rFil rNum rLnk rLen rItm) c0 k0 (PW.mk row mWr mWid mOv)).ov) mPl (va_up mTh c0 (peW (SR.mk sLen sKind sExt sMust rTab rFil rNum rLnk rLen rItm) c0 k0 (PW.mk row mWr mWid mOv)).wr) mSp mPile mNext mSh mShs mRea mWg mEn mDp mAt mTb mSt)) ([.ref (am 0), .int (nI c0), .int (nI k0)] : List Value).toArray s 0 0 A) (F0 m 30 ls []) := by
      intro n
      induction n with
      | zero => intro nn hnn hm; exact absurd hm (Nat.not_lt_zero _)
      | succ n ih_30 =>
        intro nn hnn hm_30 H locs ls hP hD hS hl
        refine lv_iload hx hb d_M_putElements_30 (lv_at hl 0 rfl) ?_
        refine lv_if_lt (tgt := 57) hx hb d_M_putElements_32 (by decide) (fun c_32 => ?_) (fun c_32 => ?_)
        · skip
          have h_nn : rLen c0 = nn := by have := (dn_lt (by omega)).mp c_32; omega
          subst h_nn
          refine lv_goto (tgt := 102) hx hb d_M_putElements_57 (by decide) ?_
          refine lv_aload_n hx hb d_M_putElements_102 rfl (lv_at hl 2 rfl) ?_
          refine lv_iconst (v := nI 4) hx hb d_M_putElements_103 (by decide) ?_
          refine lv_iload_n hx hb d_M_putElements_104 rfl (lv_at hl 1 rfl) ?_
          refine lv_i2l hx hb d_M_putElements_105 rfl ?_
          refine k_callV (m_putNumber l D am gm tw sLen sKind sExt sMust rTab rFil mNum rLen rItm made pItm held dByt dLen ver fAdr fTab adr tab lf mCode ((teI (SR.mk sLen sKind sExt sMust rTab rFil rNum rLnk rLen rItm) c0 (((PW.mk row mWr mWid mOv).al 4 (rLen c0 + 1)).pb (nI 0)) (rLen c0)).row) ((teI (SR.mk sLen sKind sExt sMust rTab rFil rNum rLnk rLen rItm) c0 (((PW.mk row mWr mWid mOv).al 4 (rLen c0 + 1)).pb (nI 0)) (rLen c0)).wr) ((teI (SR.mk sLen sKind sExt sMust rTab rFil rNum rLnk rLen rItm) c0 (((PW.mk row mWr mWid mOv).al 4 (rLen c0 + 1)).pb (nI 0)) (rLen c0)).wid) ((teI (SR.mk sLen sKind sExt sMust rTab rFil rNum rLnk rLen rItm) c0 (((PW.mk row mWr mWid mOv).al 4 (rLen c0 + 1)).pb (nI 0)) (rLen c0)).ov) mPl mTh mSp mPile mNext mSh mShs mRea mWg mEn mDp mAt mTb mSt 4 ((nI (rLen c0)).toInt64)  p8_4 (by first | exact (Kp_te (Kp_pb (Kp_al hw 4 (rLen c0 + 1)).1 (nI 0)).1 (SR.mk sLen sKind sExt sMust rTab rFil rNum rLnk rLen rItm) c0 (rLen c0)).1 | exact (Kp_nr (Kp_al hw 4 (2 * rLen c0)).1 (rwV (SR.mk sLen sKind sExt sMust rTab rFil rNum rLnk rLen rItm) c0) (rLen c0) (rLen c0)).1) (by first | exact WI_w (WI_te (WI_pb (WI_al hwi p8_4 (rLen c0 + 1)) (nI 0)) (SR.mk sLen sKind sExt sMust rTab rFil rNum rLnk rLen rItm) c0 (rLen c0)) | exact WI_w (WI_nr (WI_al hwi p8_4 (2 * rLen c0)) (rwV (SR.mk sLen sKind sExt sMust rTab rFil rNum rLnk rLen rItm) c0) (rLen c0) (rLen c0)))) m_M_putNumber wd_109caaca 0 8 rfl rfl rfl kT hx hb hml hown hts ⟨Nat.le_of_ble_eq_true rfl, Nat.le_of_ble_eq_true rfl⟩ ⟨Nat.le_of_ble_eq_true rfl, Nat.le_of_ble_eq_true rfl⟩ hK hP hD hS hA hZ hl.1 rfl rfl (Nat.le_of_ble_eq_true rfl) d_M_putElements_106 (fun H locs hP hD hS => ?_)
          have hP : va_P D vwCl (Wm am gm sLen sKind sExt sMust rTab rFil mNum rLen rItm made pItm held dByt dLen ver fAdr fTab adr tab lf mCode (((teI (SR.mk sLen sKind sExt sMust rTab rFil rNum rLnk rLen rItm) c0 (((PW.mk row mWr mWid mOv).al 4 (rLen c0 + 1)).pb (nI 0)) (rLen c0)).pn ((nI (rLen c0)).toInt64) 4).row) (((teI (SR.mk sLen sKind sExt sMust rTab rFil rNum rLnk rLen rItm) c0 (((PW.mk row mWr mWid mOv).al 4 (rLen c0 + 1)).pb (nI 0)) (rLen c0)).pn ((nI (rLen c0)).toInt64) 4).wr) (((teI (SR.mk sLen sKind sExt sMust rTab rFil rNum rLnk rLen rItm) c0 (((PW.mk row mWr mWid mOv).al 4 (rLen c0 + 1)).pb (nI 0)) (rLen c0)).pn ((nI (rLen c0)).toInt64) 4).wid) (((teI (SR.mk sLen sKind sExt sMust rTab rFil rNum rLnk rLen rItm) c0 (((PW.mk row mWr mWid mOv).al 4 (rLen c0 + 1)).pb (nI 0)) (rLen c0)).pn ((nI (rLen c0)).toInt64) 4).ov) mPl mTh mSp mPile mNext mSh mShs mRea mWg mEn mDp mAt mTb mSt) H := hP
          have hD : va_D A (Wm am gm sLen sKind sExt sMust rTab rFil mNum rLen rItm made pItm held dByt dLen ver fAdr fTab adr tab lf mCode (((teI (SR.mk sLen sKind sExt sMust rTab rFil rNum rLnk rLen rItm) c0 (((PW.mk row mWr mWid mOv).al 4 (rLen c0 + 1)).pb (nI 0)) (rLen c0)).pn ((nI (rLen c0)).toInt64) 4).row) (((teI (SR.mk sLen sKind sExt sMust rTab rFil rNum rLnk rLen rItm) c0 (((PW.mk row mWr mWid mOv).al 4 (rLen c0 + 1)).pb (nI 0)) (rLen c0)).pn ((nI (rLen c0)).toInt64) 4).wr) (((teI (SR.mk sLen sKind sExt sMust rTab rFil rNum rLnk rLen rItm) c0 (((PW.mk row mWr mWid mOv).al 4 (rLen c0 + 1)).pb (nI 0)) (rLen c0)).pn ((nI (rLen c0)).toInt64) 4).wid) (((teI (SR.mk sLen sKind sExt sMust rTab rFil rNum rLnk rLen rItm) c0 (((PW.mk row mWr mWid mOv).al 4 (rLen c0 + 1)).pb (nI 0)) (rLen c0)).pn ((nI (rLen c0)).toInt64) 4).ov) mPl mTh mSp mPile mNext mSh mShs mRea mWg mEn mDp mAt mTb mSt) := hD
          refine W.eq (g2 := F0 m 109 ls []) rfl ?_
          refine lv_aload_n hx hb d_M_putElements_109 rfl (lv_at hl 2 rfl) ?_
          refine va_get (D := D) (ci := 8) (C := R_M) (T := T_M) (N := 39) hx hb hts (fun w h => kT w (i_M w h)) hown hK hP 0 rfl rfl 18 (by decide) (hts _ (kT _ wd_b7f970ef)) (fun _ h9 => h9) rfl d_M_putElements_110 ?_
          refine lv_iload_n hx hb d_M_putElements_113 rfl (lv_at hl 3 rfl) ?_
          refine lv_aload_n hx hb d_M_putElements_114 rfl (lv_at hl 2 rfl) ?_
          refine va_get (D := D) (ci := 8) (C := R_M) (T := T_M) (N := 39) hx hb hts (fun w h => kT w (i_M w h)) hown hK hP 0 rfl rfl 14 (by decide) (hts _ (kT _ wd_7837caa3)) (fun _ h9 => h9) rfl d_M_putElements_115 ?_
          refine n_iast hx hb hK hP hD hS 13 12 rfl rfl (i := c0) (by omega) (by decide) d_M_putElements_118 (fun H locs hP hD hS => ?_)
          have hP : va_P D vwCl (Wm am gm sLen sKind sExt sMust rTab rFil mNum rLen rItm made pItm held dByt dLen ver fAdr fTab adr tab lf mCode (((teI (SR.mk sLen sKind sExt sMust rTab rFil rNum rLnk rLen rItm) c0 (((PW.mk row mWr mWid mOv).al 4 (rLen c0 + 1)).pb (nI 0)) (rLen c0)).pn ((nI (rLen c0)).toInt64) 4).row) (((teI (SR.mk sLen sKind sExt sMust rTab rFil rNum rLnk rLen rItm) c0 (((PW.mk row mWr mWid mOv).al 4 (rLen c0 + 1)).pb (nI 0)) (rLen c0)).pn ((nI (rLen c0)).toInt64) 4).wr) (((teI (SR.mk sLen sKind sExt sMust rTab rFil rNum rLnk rLen rItm) c0 (((PW.mk row mWr mWid mOv).al 4 (rLen c0 + 1)).pb (nI 0)) (rLen c0)).pn ((nI (rLen c0)).toInt64) 4).wid) (((teI (SR.mk sLen sKind sExt sMust rTab rFil rNum rLnk rLen rItm) c0 (((PW.mk row mWr mWid mOv).al 4 (rLen c0 + 1)).pb (nI 0)) (rLen c0)).pn ((nI (rLen c0)).toInt64) 4).ov) mPl (va_up mTh c0 (((teI (SR.mk sLen sKind sExt sMust rTab rFil rNum rLnk rLen rItm) c0 (((PW.mk row mWr mWid mOv).al 4 (rLen c0 + 1)).pb (nI 0)) (rLen c0)).pn ((nI (rLen c0)).toInt64) 4).wr)) mSp mPile mNext mSh mShs mRea mWg mEn mDp mAt mTb mSt) H := hP
          have hD : va_D A (Wm am gm sLen sKind sExt sMust rTab rFil mNum rLen rItm made pItm held dByt dLen ver fAdr fTab adr tab lf mCode (((teI (SR.mk sLen sKind sExt sMust rTab rFil rNum rLnk rLen rItm) c0 (((PW.mk row mWr mWid mOv).al 4 (rLen c0 + 1)).pb (nI 0)) (rLen c0)).pn ((nI (rLen c0)).toInt64) 4).row) (((teI (SR.mk sLen sKind sExt sMust rTab rFil rNum rLnk rLen rItm) c0 (((PW.mk row mWr mWid mOv).al 4 (rLen c0 + 1)).pb (nI 0)) (rLen c0)).pn ((nI (rLen c0)).toInt64) 4).wr) (((teI (SR.mk sLen sKind sExt sMust rTab rFil rNum rLnk rLen rItm) c0 (((PW.mk row mWr mWid mOv).al 4 (rLen c0 + 1)).pb (nI 0)) (rLen c0)).pn ((nI (rLen c0)).toInt64) 4).wid) (((teI (SR.mk sLen sKind sExt sMust rTab rFil rNum rLnk rLen rItm) c0 (((PW.mk row mWr mWid mOv).al 4 (rLen c0 + 1)).pb (nI 0)) (rLen c0)).pn ((nI (rLen c0)).toInt64) 4).ov) mPl (va_up mTh c0 (((teI (SR.mk sLen sKind sExt sMust rTab rFil rNum rLnk rLen rItm) c0 (((PW.mk row mWr mWid mOv).al 4 (rLen c0 + 1)).pb (nI 0)) (rLen c0)).pn ((nI (rLen c0)).toInt64) 4).wr)) mSp mPile mNext mSh mShs mRea mWg mEn mDp mAt mTb mSt) := hD
          have hv : peW (SR.mk sLen sKind sExt sMust rTab rFil rNum rLnk rLen rItm) c0 k0 (PW.mk row mWr mWid mOv) = txM (SR.mk sLen sKind sExt sMust rTab rFil rNum rLnk rLen rItm) c0 (PW.mk row mWr mWid mOv) := if_pos c_9
          exact k_vret hx hb hr hlocks hK hP hD hS (trivial) (by rw [hv]; first | done | rfl) d_M_putElements_119
        · skip
          have hj : ¬ (rLen c0 - nn) = 0 := mt (dn_lt (by omega)).mpr c_32
          have hl : lv_has ls 5 [(4, .int (nI ((rLen c0 - nn) - 1))), (3, .int (nI (rLen c0))), (0, .ref (am 0)), (1, .int (nI c0)), (2, .int (nI k0))] := by rw [← dn_in hj]; exact hl
          refine lv_aload_n hx hb d_M_putElements_35 rfl (lv_at hl 2 rfl) ?_
          refine lv_aload_n hx hb d_M_putElements_36 rfl (lv_at hl 2 rfl) ?_
          refine va_get (D := D) (ci := 8) (C := R_M) (T := T_M) (N := 39) hx hb hts (fun w h => kT w (i_M w h)) hown hK hP 0 rfl rfl 10 (by decide) (hts _ (kT _ wd_1d9af4df)) (fun _ h9 => h9) rfl d_M_putElements_37 ?_
          refine lv_bipush (v := nI 12) hx hb d_M_putElements_40 (by decide) ?_
          refine lv_iload_n hx hb d_M_putElements_42 rfl (lv_at hl 3 rfl) ?_
          refine lv_imul hx hb d_M_putElements_43 ?_
          refine lv_eqi ((pk_mul _ _).trans (nI_congr (Nat.mul_comm _ _))) ?_
          refine lv_iload hx hb d_M_putElements_44 (lv_at hl 0 rfl) ?_
          refine lv_iadd hx hb d_M_putElements_46 ?_
          refine lv_eqi (nI_add _ _) ?_
          refine r_iald hx hb hK hP 9 8 rfl rfl (i := ((c0 * 12) + ((rLen c0 - nn) - 1))) (by omega) (by decide) d_M_putElements_47 ?_
          refine k_callV (m_put l D am gm tw sLen sKind sExt sMust rTab rFil mNum rLen rItm made pItm held dByt dLen ver fAdr fTab adr tab lf mCode ((teI (SR.mk sLen sKind sExt sMust rTab rFil rNum rLnk rLen rItm) c0 (((PW.mk row mWr mWid mOv).al 4 (rLen c0 + 1)).pb (nI 0)) nn).row) ((teI (SR.mk sLen sKind sExt sMust rTab rFil rNum rLnk rLen rItm) c0 (((PW.mk row mWr mWid mOv).al 4 (rLen c0 + 1)).pb (nI 0)) nn).wr) ((teI (SR.mk sLen sKind sExt sMust rTab rFil rNum rLnk rLen rItm) c0 (((PW.mk row mWr mWid mOv).al 4 (rLen c0 + 1)).pb (nI 0)) nn).wid) ((teI (SR.mk sLen sKind sExt sMust rTab rFil rNum rLnk rLen rItm) c0 (((PW.mk row mWr mWid mOv).al 4 (rLen c0 + 1)).pb (nI 0)) nn).ov) mPl mTh mSp mPile mNext mSh mShs mRea mWg mEn mDp mAt mTb mSt (rItm ((c0 * 12) + ((rLen c0 - nn) - 1)))  (Kp_te (Kp_pb (Kp_al hw 4 (rLen c0 + 1)).1 (nI 0)).1 (SR.mk sLen sKind sExt sMust rTab rFil rNum rLnk rLen rItm) c0 nn).1) m_M_put wd_77c1de03 0 8 rfl rfl rfl kT hx hb hml hown hts ⟨Nat.le_of_ble_eq_true rfl, Nat.le_of_ble_eq_true rfl⟩ ⟨Nat.le_of_ble_eq_true rfl, Nat.le_of_ble_eq_true rfl⟩ hK hP hD hS hA hZ hl.1 rfl rfl (Nat.le_of_ble_eq_true rfl) d_M_putElements_48 (fun H locs hP hD hS => ?_)
          have hP : va_P D vwCl (Wm am gm sLen sKind sExt sMust rTab rFil mNum rLen rItm made pItm held dByt dLen ver fAdr fTab adr tab lf mCode (((teI (SR.mk sLen sKind sExt sMust rTab rFil rNum rLnk rLen rItm) c0 (((PW.mk row mWr mWid mOv).al 4 (rLen c0 + 1)).pb (nI 0)) nn).pb (rItm ((c0 * 12) + ((rLen c0 - nn) - 1)))).row) (((teI (SR.mk sLen sKind sExt sMust rTab rFil rNum rLnk rLen rItm) c0 (((PW.mk row mWr mWid mOv).al 4 (rLen c0 + 1)).pb (nI 0)) nn).pb (rItm ((c0 * 12) + ((rLen c0 - nn) - 1)))).wr) (((teI (SR.mk sLen sKind sExt sMust rTab rFil rNum rLnk rLen rItm) c0 (((PW.mk row mWr mWid mOv).al 4 (rLen c0 + 1)).pb (nI 0)) nn).pb (rItm ((c0 * 12) + ((rLen c0 - nn) - 1)))).wid) (((teI (SR.mk sLen sKind sExt sMust rTab rFil rNum rLnk rLen rItm) c0 (((PW.mk row mWr mWid mOv).al 4 (rLen c0 + 1)).pb (nI 0)) nn).pb (rItm ((c0 * 12) + ((rLen c0 - nn) - 1)))).ov) mPl mTh mSp mPile mNext mSh mShs mRea mWg mEn mDp mAt mTb mSt) H := hP
          have hD : va_D A (Wm am gm sLen sKind sExt sMust rTab rFil mNum rLen rItm made pItm held dByt dLen ver fAdr fTab adr tab lf mCode (((teI (SR.mk sLen sKind sExt sMust rTab rFil rNum rLnk rLen rItm) c0 (((PW.mk row mWr mWid mOv).al 4 (rLen c0 + 1)).pb (nI 0)) nn).pb (rItm ((c0 * 12) + ((rLen c0 - nn) - 1)))).row) (((teI (SR.mk sLen sKind sExt sMust rTab rFil rNum rLnk rLen rItm) c0 (((PW.mk row mWr mWid mOv).al 4 (rLen c0 + 1)).pb (nI 0)) nn).pb (rItm ((c0 * 12) + ((rLen c0 - nn) - 1)))).wr) (((teI (SR.mk sLen sKind sExt sMust rTab rFil rNum rLnk rLen rItm) c0 (((PW.mk row mWr mWid mOv).al 4 (rLen c0 + 1)).pb (nI 0)) nn).pb (rItm ((c0 * 12) + ((rLen c0 - nn) - 1)))).wid) (((teI (SR.mk sLen sKind sExt sMust rTab rFil rNum rLnk rLen rItm) c0 (((PW.mk row mWr mWid mOv).al 4 (rLen c0 + 1)).pb (nI 0)) nn).pb (rItm ((c0 * 12) + ((rLen c0 - nn) - 1)))).ov) mPl mTh mSp mPile mNext mSh mShs mRea mWg mEn mDp mAt mTb mSt) := hD
          refine W.eq (g2 := F0 m 51 ls []) rfl ?_
          refine lv_iinc (v := (nI ((rLen c0 - nn) - 1)) + (-1)) (lv' := [(4, .int ((nI ((rLen c0 - nn) - 1)) + (-1))), (3, .int (nI (rLen c0))), (0, .ref (am 0)), (1, .int (nI c0)), (2, .int (nI k0))]) hx hb d_M_putElements_51 hl (k := 0) rfl rfl (by decide) rfl (fun ls hl => ?_)
          refine lv_goto (tgt := 30) hx hb d_M_putElements_54 (by decide) ?_
          have e_4 : (nI ((rLen c0 - nn) - 1)) + (-1) = nI (rLen c0 - (nn + 1)) - 1 := by rw [dn_step]; exact congrArg (· - 1) (nI_congr (by omega))
          have hl : lv_has ls 5 [(4, .int (nI (rLen c0 - (nn + 1)) - 1)), (3, .int (nI (rLen c0))), (0, .ref (am 0)), (1, .int (nI c0)), (2, .int (nI k0))] := by rw [← e_4]; exact hl
          have hP : va_P D vwCl (Wm am gm sLen sKind sExt sMust rTab rFil mNum rLen rItm made pItm held dByt dLen ver fAdr fTab adr tab lf mCode ((teI (SR.mk sLen sKind sExt sMust rTab rFil rNum rLnk rLen rItm) c0 (((PW.mk row mWr mWid mOv).al 4 (rLen c0 + 1)).pb (nI 0)) (nn + 1)).row) ((teI (SR.mk sLen sKind sExt sMust rTab rFil rNum rLnk rLen rItm) c0 (((PW.mk row mWr mWid mOv).al 4 (rLen c0 + 1)).pb (nI 0)) (nn + 1)).wr) ((teI (SR.mk sLen sKind sExt sMust rTab rFil rNum rLnk rLen rItm) c0 (((PW.mk row mWr mWid mOv).al 4 (rLen c0 + 1)).pb (nI 0)) (nn + 1)).wid) ((teI (SR.mk sLen sKind sExt sMust rTab rFil rNum rLnk rLen rItm) c0 (((PW.mk row mWr mWid mOv).al 4 (rLen c0 + 1)).pb (nI 0)) (nn + 1)).ov) mPl mTh mSp mPile mNext mSh mShs mRea mWg mEn mDp mAt mTb mSt) H := hP
          have hD : va_D A (Wm am gm sLen sKind sExt sMust rTab rFil mNum rLen rItm made pItm held dByt dLen ver fAdr fTab adr tab lf mCode ((teI (SR.mk sLen sKind sExt sMust rTab rFil rNum rLnk rLen rItm) c0 (((PW.mk row mWr mWid mOv).al 4 (rLen c0 + 1)).pb (nI 0)) (nn + 1)).row) ((teI (SR.mk sLen sKind sExt sMust rTab rFil rNum rLnk rLen rItm) c0 (((PW.mk row mWr mWid mOv).al 4 (rLen c0 + 1)).pb (nI 0)) (nn + 1)).wr) ((teI (SR.mk sLen sKind sExt sMust rTab rFil rNum rLnk rLen rItm) c0 (((PW.mk row mWr mWid mOv).al 4 (rLen c0 + 1)).pb (nI 0)) (nn + 1)).wid) ((teI (SR.mk sLen sKind sExt sMust rTab rFil rNum rLnk rLen rItm) c0 (((PW.mk row mWr mWid mOv).al 4 (rLen c0 + 1)).pb (nI 0)) (nn + 1)).ov) mPl mTh mSp mPile mNext mSh mShs mRea mWg mEn mDp mAt mTb mSt) := hD
          exact ih_30 (nn + 1) (by omega) (by omega) _ _ _ hP hD hS (lv_sub hl [0, 1, 2, 3, 4] rfl)
    exact L_30 ((rLen c0 - 0) + 1) 0 (by omega) (by omega) _ _ _ hP hD hS (lv_sub hl [0, 1, 2, 3, 4] rfl)
set_option maxHeartbeats 4000000 in
set_option maxRecDepth 100000 in
theorem m_word (l : Launch) (D : va_G) (am : Nat → Nat) (gm : Nat → ClassId) (tw : Nat) (sLen sKind : Nat → Nat) (sExt : Nat → Int32) (sMust : Nat → Bool) (rTab : Nat → Nat) (rFil : Nat → Bool) (mNum : Nat → Int64) (rLen : Nat → Nat) (rItm : Nat → Int32) (made : Nat) (pItm : Nat → Int32) (held : Nat) (dByt : Nat → Nat) (dLen : Nat) (ver : Bool) (fAdr fTab adr tab : Nat) (lf : Int32) (mCode : Nat) (row : Nat → Nat) (mWr mWid : Nat) (mOv : Bool) (mPl mTh mSp mPile mNext mSh : Nat → Nat) (mShs : Nat) (mRea : Nat → Bool) (mWg : Int32) (mEn mDp : Nat) (mAt mTb mSt : Nat → Nat) (tp : Nat) (bw : Nat) (x : Int32) (k0 : Nat) (td : Nat) (hx9 : x = nI td - 1) (htd : td ≤ 6) (hk0 : k0 < td + 2) (hbw : bw ≤ tp) (htp : tp ≤ 250) (hsp : ∀ j, j < td → mSp j ≤ tp) : kM l y_M_word b_M_word 5 (some .int) ({ frames := 0, cells := 0, slots := 0, locals := 0 }) D vwCl (WmT gm) tw [.ref (am 0), .int (nI tp), .int (nI bw), .int x, .int (nI k0)] (Wm am gm sLen sKind sExt sMust rTab rFil mNum rLen rItm made pItm held dByt dLen ver fAdr fTab adr tab lf mCode row mWr mWid mOv mPl mTh mSp mPile mNext mSh mShs mRea mWg mEn mDp mAt mTb mSt) (some (.int (nI (wdM mSp td tp bw k0)))) (Wm am gm sLen sKind sExt sMust rTab rFil mNum rLen rItm made pItm held dByt dLen ver fAdr fTab adr tab lf mCode row mWr mWid mOv mPl mTh mSp mPile mNext mSh mShs mRea mWg mEn mDp mAt mTb mSt) := by
  refine k_of (by decide) (Nat.le_of_ble_eq_true rfl) ?_
  intro p e s m below meth c A ls hx hb hr hlocks hml hts hown hin0 hA hP hK hD hS hZ hl
  have hl : lv_has ls 5 [(0, .ref (am 0)), (1, .int (nI tp)), (2, .int (nI bw)), (3, .int x), (4, .int (nI k0))] := hl
  refine lv_iload hx hb d_M_word_0 (lv_at hl 4 rfl) ?_
  refine lv_if_ne (tgt := 13) hx hb d_M_word_2 (by decide) (fun c_2 => ?_) (fun c_2 => ?_)
  · skip
    have c_2 := mt (z_eq (by omega)).mpr c_2
    refine lv_iload hx hb d_M_word_13 (lv_at hl 4 rfl) ?_
    refine lv_iconst (v := nI 1) hx hb d_M_word_15 (by decide) ?_
    refine lv_icmp_ne (tgt := 25) hx hb d_M_word_16 (by decide) (fun c_16 => ?_) (fun c_16 => ?_)
    · skip
      have c_16 := mt (nI_eq (by omega) (by omega)).mpr c_16
      have hs1 := hsp (k0 - 2) (by omega)
      refine lv_aload_n hx hb d_M_word_25 rfl (lv_at hl 0 rfl) ?_
      refine va_get (D := D) (ci := 8) (C := R_M) (T := T_M) (N := 39) hx hb hts (fun w h => kT w (i_M w h)) hown hK hP 0 rfl rfl 19 (by decide) (hts _ (kT _ wd_edc4f26f)) (fun _ h9 => h9) rfl d_M_word_26 ?_
      refine lv_iload hx hb d_M_word_29 (lv_at hl 4 rfl) ?_
      refine lv_iconst (v := nI 2) hx hb d_M_word_31 (by decide) ?_
      refine lv_isub hx hb d_M_word_32 ?_
      refine lv_eqi (pk_sub (by omega)) ?_
      refine n_iald hx hb hK hP 14 13 rfl rfl (i := (k0 - 2)) (by omega) (by decide) d_M_word_33 ?_
      refine lv_if_ne (tgt := 41) hx hb d_M_word_34 (by decide) (fun c_34 => ?_) (fun c_34 => ?_)
      · skip
        have c_34 := mt (z_eq (by omega)).mpr c_34
        refine lv_iload_n hx hb d_M_word_41 rfl (lv_at hl 1 rfl) ?_
        refine lv_aload_n hx hb d_M_word_42 rfl (lv_at hl 0 rfl) ?_
        refine va_get (D := D) (ci := 8) (C := R_M) (T := T_M) (N := 39) hx hb hts (fun w h => kT w (i_M w h)) hown hK hP 0 rfl rfl 19 (by decide) (hts _ (kT _ wd_edc4f26f)) (fun _ h9 => h9) rfl d_M_word_43 ?_
        refine lv_iload hx hb d_M_word_46 (lv_at hl 4 rfl) ?_
        refine lv_iconst (v := nI 2) hx hb d_M_word_48 (by decide) ?_
        refine lv_isub hx hb d_M_word_49 ?_
        refine lv_eqi (pk_sub (by omega)) ?_
        refine n_iald hx hb hK hP 14 13 rfl rfl (i := (k0 - 2)) (by omega) (by decide) d_M_word_50 ?_
        refine lv_isub hx hb d_M_word_51 ?_
        refine lv_eqi (pk_sub (by omega)) ?_
        exact k_iret hx hb hr hlocks hK hP hD hS (trivial) (nI_congr (by rw [wdM, if_neg c_2, if_neg c_16, if_neg c_34])) (rfl) d_M_word_52
      · skip
        have c_34 := (z_eq (by omega)).mp c_34
        refine lv_iconst (v := nI 0) hx hb d_M_word_37 (by decide) ?_
        refine lv_goto (tgt := 52) hx hb d_M_word_38 (by decide) ?_
        exact k_iret hx hb hr hlocks hK hP hD hS (trivial) (nI_congr (by rw [wdM, if_neg c_2, if_neg c_16, if_pos c_34])) (rfl) d_M_word_52
    · skip
      have c_16 := (nI_eq (by omega) (by omega)).mp c_16
      refine lv_iload_n hx hb d_M_word_19 rfl (lv_at hl 1 rfl) ?_
      refine lv_iload_n hx hb d_M_word_20 rfl (lv_at hl 2 rfl) ?_
      refine lv_isub hx hb d_M_word_21 ?_
      refine lv_eqi (pk_sub (by omega)) ?_
      refine lv_goto (tgt := 52) hx hb d_M_word_22 (by decide) ?_
      exact k_iret hx hb hr hlocks hK hP hD hS (trivial) (nI_congr (by rw [wdM, if_neg c_2, if_pos c_16])) (rfl) d_M_word_52
  · skip
    have c_2 := (z_eq (by omega)).mp c_2
    refine lv_iconst (v := nI 2) hx hb d_M_word_5 (by decide) ?_
    refine lv_iload_n hx hb d_M_word_6 rfl (lv_at hl 3 rfl) ?_
    refine lv_iconst (v := nI 3) hx hb d_M_word_7 (by decide) ?_
    refine lv_iadd hx hb d_M_word_8 ?_
    refine lv_eqi (l_p3 hx9) ?_
    refine lv_imul hx hb d_M_word_9 ?_
    refine lv_eqi (pk_mul _ _) ?_
    refine lv_goto (tgt := 52) hx hb d_M_word_10 (by decide) ?_
    exact k_iret hx hb hr hlocks hK hP hD hS (trivial) (nI_congr (by rw [wdM, if_pos c_2])) (rfl) d_M_word_52

theorem tg_le {d : Nat → Nat} {n x : Nat} : tgF d n x ≤ x + 100000 := Nat.add_le_add_left (Nat.min_le_right _ _) _
/-! the verifying, of whatever functions the bytes are read by -/
abbrev FN : Type := (Nat → Nat → Nat) × (Nat → Nat) × (Nat → Nat) × (Nat → Bool) × (Nat → Int32) × (Nat → Nat) × (Nat → Nat → Bool) × (Nat → Nat) × (Nat → Prop) × Nat
abbrev FN.of (F : FN) : Nat → Nat → Nat := F.1
abbrev FN.tg (F : FN) : Nat → Nat := F.2.1
abbrev FN.vn (F : FN) : Nat → Nat := F.2.2.1
abbrev FN.bd (F : FN) : Nat → Bool := F.2.2.2.1
abbrev FN.io (F : FN) : Nat → Int32 := F.2.2.2.2.1
abbrev FN.l3 (F : FN) : Nat → Nat := F.2.2.2.2.2.1
abbrev FN.sd (F : FN) : Nat → Nat → Bool := F.2.2.2.2.2.2.1
abbrev FN.kw (F : FN) : Nat → Nat := F.2.2.2.2.2.2.2.1
abbrev FN.fr (F : FN) : Nat → Prop := F.2.2.2.2.2.2.2.2.1
abbrev FN.l0 (F : FN) : Nat := F.2.2.2.2.2.2.2.2.2
abbrev GF (n : Nat) (F : FN) : Prop := (∀ x f, F.of x f < 65536) ∧ (∀ y, F.tg y ≤ y + 100000) ∧ (∀ x, x < 2 ^ 30 → F.bd x = false → F.vn x + 4 ≤ n ∧ (¬ F.io x = -1 → ¬ F.io x < 0)) ∧ (∀ x, x + 4 ≤ n → F.bd x = false → F.io x = -1 → F.fr x) ∧ (∀ x, F.fr x → x + 4 ≤ n ∧ F.vn x + 4 ≤ n ∧ x + F.l3 x ≤ n)
/-! the model's verifying: its steps -/
abbrev MV : Type := Int32 × Nat × Nat × (Nat → Nat) × (Nat → Nat) × (Nat → Nat)
abbrev MV.mk (wg : Int32) (en dp : Nat) (fa ft fs : Nat → Nat) : MV := (wg, en, dp, fa, ft, fs)
abbrev MV.wg (s : MV) : Int32 := s.1
abbrev MV.en (s : MV) : Nat := s.2.1
abbrev MV.dp (s : MV) : Nat := s.2.2.1
abbrev MV.fa (s : MV) : Nat → Nat := s.2.2.2.1
abbrev MV.ft (s : MV) : Nat → Nat := s.2.2.2.2.1
abbrev MV.fs (s : MV) : Nat → Nat := s.2.2.2.2.2
def MV.fl (s : MV) (z : Int32) : MV := MV.mk (if s.wg < 0 then z else s.wg) s.en s.dp s.fa s.ft s.fs
def gfd (F : FN) (q : SR) (n : Nat) (T : VT) (x t f en : Nat) : Int32 × Nat :=
  if F.of x f = 0 then (if q.sMust (t * 6 + f) = true then nI x else -1, en)
  else if F.of x f < 4 ∨ F.l3 x < F.of x f + F.kw (q.sKind (t * 6 + f)) ∨ ¬ (x + F.of x f) % F.kw (q.sKind (t * 6 + f)) = 0 then (nI (F.vn x + 4 + 2 * f), en)
  else if q.sKind (t * 6 + f) = 6 then T (F.tg (x + F.of x f)) (cN (q.sExt (t * 6 + f))) (x + F.of x f) en
  else if q.sKind (t * 6 + f) < 4 ∨ F.sd (q.sKind (t * 6 + f)) (F.tg (x + F.of x f)) = true then (-1, en) else (nI (x + F.of x f), en)
theorem gfd_0 {q : SR} {F : FN} {n : Nat} {T : VT} {x t f en : Nat} (h : F.of x f = 0) : gfd F q n T x t f en = (if q.sMust (t * 6 + f) = true then nI x else -1, en) := by rw [gfd, if_pos h]
theorem gfd_b {q : SR} {F : FN} {n : Nat} {T : VT} {x t f en : Nat} (h0 : ¬ F.of x f = 0) (hb : F.of x f < 4 ∨ F.l3 x < F.of x f + F.kw (q.sKind (t * 6 + f)) ∨ ¬ (x + F.of x f) % F.kw (q.sKind (t * 6 + f)) = 0) : gfd F q n T x t f en = (nI (F.vn x + 4 + 2 * f), en) := by rw [gfd, if_neg h0, if_pos hb]
theorem gfd_6 {q : SR} {F : FN} {n : Nat} {T : VT} {x t f en : Nat} (h0 : ¬ F.of x f = 0) (h1 : ¬ F.of x f < 4) (h2 : ¬ F.l3 x < F.of x f + F.kw (q.sKind (t * 6 + f))) (h3 : (x + F.of x f) % F.kw (q.sKind (t * 6 + f)) = 0) (h6 : q.sKind (t * 6 + f) = 6) : gfd F q n T x t f en = T (F.tg (x + F.of x f)) (cN (q.sExt (t * 6 + f))) (x + F.of x f) en := by rw [gfd, if_neg h0, if_neg (fun z => z.elim h1 (fun z => z.elim h2 (fun z => z h3))), if_pos h6]
theorem gfd_y {q : SR} {F : FN} {n : Nat} {T : VT} {x t f en : Nat} (h0 : ¬ F.of x f = 0) (h1 : ¬ F.of x f < 4) (h2 : ¬ F.l3 x < F.of x f + F.kw (q.sKind (t * 6 + f))) (h3 : (x + F.of x f) % F.kw (q.sKind (t * 6 + f)) = 0) (h6 : ¬ q.sKind (t * 6 + f) = 6) (hs : q.sKind (t * 6 + f) < 4 ∨ F.sd (q.sKind (t * 6 + f)) (F.tg (x + F.of x f)) = true) : gfd F q n T x t f en = (-1, en) := by rw [gfd, if_neg h0, if_neg (fun z => z.elim h1 (fun z => z.elim h2 (fun z => z h3))), if_neg h6, if_pos hs]
theorem gfd_n {q : SR} {F : FN} {n : Nat} {T : VT} {x t f en : Nat} (h0 : ¬ F.of x f = 0) (h1 : ¬ F.of x f < 4) (h2 : ¬ F.l3 x < F.of x f + F.kw (q.sKind (t * 6 + f))) (h3 : (x + F.of x f) % F.kw (q.sKind (t * 6 + f)) = 0) (h6 : ¬ q.sKind (t * 6 + f) = 6) (h4 : ¬ q.sKind (t * 6 + f) < 4) (hs : F.sd (q.sKind (t * 6 + f)) (F.tg (x + F.of x f)) = false) : gfd F q n T x t f en = (nI (x + F.of x f), en) := by rw [gfd, if_neg h0, if_neg (fun z => z.elim h1 (fun z => z.elim h2 (fun z => z h3))), if_neg h6, if_neg (fun z => z.elim h4 (fun z => by rw [hs] at z; cases z))]
def gfl (F : FN) (q : SR) (n : Nat) (T : VT) (x t : Nat) (e0 : Int32 × Nat) : Nat → Int32 × Nat
  | 0 => e0
  | f + 1 => if (gfl F q n T x t e0 f).1 = -1 then gfd F q n T x t f (gfl F q n T x t e0 f).2 else gfl F q n T x t e0 f
theorem gfl_stop {q : SR} {F : FN} {n : Nat} {T : VT} {x t : Nat} {e0 : Int32 × Nat} {f : Nat} (h : ¬ (gfl F q n T x t e0 f).1 = -1) : ∀ m, f ≤ m → gfl F q n T x t e0 m = gfl F q n T x t e0 f := by
  intro m
  induction m with
  | zero => intro h; rw [show f = 0 by omega]
  | succ m ih =>
    intro hm
    by_cases e : f = m + 1
    · rw [e]
    · have h2 := ih (by omega)
      rw [gfl, if_neg (by rw [h2]; exact h), h2]
def gtb (F : FN) (q : SR) (n : Nat) : Nat → VT
  | 0 => fun _ _ to en => (nI to, en)
  | K + 1 => fun x t to en =>
    if ¬ x % 4 = 0 ∨ n < x + 4 ∨ 16 ≤ en then (nI to, en)
    else if F.bd x = true then (nI x, en + 1)
    else gfl F q n (gtb F q n K) x t (F.io x, en + 1) (q.sLen t)
theorem gfd_en {q : SR} {F : FN} {n : Nat} {T : VT} (hT : TEn T) (x t f en : Nat) (h : en ≤ 16) : en ≤ (gfd F q n T x t f en).2 ∧ (gfd F q n T x t f en).2 ≤ 16 := by
  unfold gfd
  split
  · exact ⟨Nat.le_refl _, h⟩
  · split
    · exact ⟨Nat.le_refl _, h⟩
    · split
      · exact hT _ _ _ _ h
      · split <;> exact ⟨Nat.le_refl _, h⟩
theorem gfl_en {q : SR} {F : FN} {n : Nat} {T : VT} (hT : TEn T) (x t : Nat) {e0 : Int32 × Nat} (h : e0.2 ≤ 16) (m : Nat) : e0.2 ≤ (gfl F q n T x t e0 m).2 ∧ (gfl F q n T x t e0 m).2 ≤ 16 := by
  induction m with
  | zero => exact ⟨Nat.le_refl _, h⟩
  | succ m ih =>
    rw [gfl]
    split
    · have := gfd_en (F := F) (q := q) (n := n) hT x t m _ ih.2
      omega
    · exact ih
theorem gtb_en (F : FN) (q : SR) (n K : Nat) : TEn (gtb F q n K) := by
  induction K with
  | zero => intro x t to en h; exact ⟨Nat.le_refl _, h⟩
  | succ K ih =>
    intro x t to en h
    show en ≤ (if _ then _ else _ : Int32 × Nat).2 ∧ (if _ then _ else _ : Int32 × Nat).2 ≤ 16
    split
    · exact ⟨Nat.le_refl _, h⟩
    · split
      · exact ⟨Nat.le_succ _, by show en + 1 ≤ 16; omega⟩
      · have := gfl_en (F := F) (q := q) (n := n) ih x t (e0 := (F.io x, en + 1)) (by show en + 1 ≤ 16; omega) (q.sLen t)
        dsimp only at this ⊢
        omega
def gvi (F : FN) (q : SR) (n t : Nat) : Int32 × Nat := if n < 4 then (nI 0, 0) else gtb F q n 6 (min (F.l0) 100000) t 0 0
def gFB (F : FN) (q : SR) (n x t f : Nat) : Prop := ¬ F.of x f < 4 ∧ x + F.of x f + F.kw (q.sKind (t * 6 + f)) ≤ n
def gVG (F : FN) (q : SR) (n : Nat) : Nat → Nat → Nat → Prop
  | 0, _, _ => False
  | K + 1, x, t => F.fr x ∧ t < 4 ∧ ∀ f, f < q.sLen t → F.of x f = 0 ∨ (gFB F q n x t f ∧ (q.sKind (t * 6 + f) = 6 → gVG F q n K (F.tg (x + F.of x f)) (cN (q.sExt (t * 6 + f)))) ∧ (¬ q.sKind (t * 6 + f) = 6 → ¬ q.sKind (t * 6 + f) < 4 → F.sd (q.sKind (t * 6 + f)) (F.tg (x + F.of x f)) = true))
abbrev gVE (F : FN) (q : SR) (n x t : Nat) : Prop := ∃ K, gVG F q n K x t
def gen (F : FN) (n : Nat) (s : MV) (x t to : Nat) : MV :=
  if ¬ x % 4 = 0 ∨ n < x + 4 ∨ s.en = 16 ∨ s.dp = 6 then s.fl (nI to)
  else if F.bd x = true then (MV.mk s.wg (s.en + 1) s.dp s.fa s.ft s.fs).fl (nI x)
  else MV.mk (if F.io x = -1 then s.wg else if s.wg < 0 then F.io x else s.wg) (s.en + 1) (s.dp + 1) (va_up s.fa s.dp x) (va_up s.ft s.dp t) (va_up s.fs s.dp 0)
def gin (F : FN) (q : SR) (n : Nat) (s : MV) (x t f : Nat) : MV :=
  if F.of x f = 0 then (if q.sMust (t * 6 + f) = true then s.fl (nI x) else s)
  else if F.of x f < 4 ∨ F.l3 x < F.of x f + F.kw (q.sKind (t * 6 + f)) ∨ ¬ (x + F.of x f) % F.kw (q.sKind (t * 6 + f)) = 0 then s.fl (nI (F.vn x + 4 + 2 * f))
  else if q.sKind (t * 6 + f) = 6 then gen F n s (F.tg (x + F.of x f)) (cN (q.sExt (t * 6 + f))) (x + F.of x f)
  else if q.sKind (t * 6 + f) < 4 ∨ F.sd (q.sKind (t * 6 + f)) (F.tg (x + F.of x f)) = true then s else s.fl (nI (x + F.of x f))
def gst (F : FN) (q : SR) (n : Nat) (s : MV) : MV :=
  if s.fs (s.dp - 1) = q.sLen (s.ft (s.dp - 1)) then MV.mk s.wg s.en (s.dp - 1) s.fa s.ft s.fs
  else gin F q n (MV.mk s.wg s.en s.dp s.fa s.ft (va_up s.fs (s.dp - 1) (s.fs (s.dp - 1) + 1))) (s.fa (s.dp - 1)) (s.ft (s.dp - 1)) (s.fs (s.dp - 1))
abbrev dnV (s : MV) : Prop := s.dp = 0 ∨ ¬ s.wg < 0
def git (F : FN) (q : SR) (n : Nat) : Nat → MV → MV
  | 0, s => s
  | k + 1, s => if s.dp = 0 ∨ ¬ s.wg < 0 then s else git F q n k (gst F q n s)
theorem git_dn {q : SR} {F : FN} {n : Nat} {s : MV} (h : dnV s) : ∀ k, git F q n k s = s
  | 0 => rfl
  | k + 1 => by rw [git, if_pos h]
theorem git_st {q : SR} {F : FN} {n : Nat} {s : MV} (h : ¬ dnV s) (k : Nat) : git F q n (k + 1) s = git F q n k (gst F q n s) := by rw [git, if_neg h]
theorem git_add {q : SR} {F : FN} {n : Nat} : ∀ (j k : Nat) (s : MV), git F q n (j + k) s = git F q n k (git F q n j s)
  | 0, k, s => by rw [Nat.zero_add]; rfl
  | j + 1, k, s => by
    by_cases h : dnV s
    · rw [git_dn h, git_dn h, git_dn h]
    · rw [show j + 1 + k = j + k + 1 by omega, git_st h, git_st h, git_add j k]
/-- what the walk must know -/
abbrev gVI (F : FN) (q : SR) (n : Nat) (s : MV) : Prop := s.dp ≤ 6 ∧ s.en ≤ 16 ∧ (s.wg < 0 → ∀ i, i < s.dp → F.fr (s.fa i)) ∧ ∀ i, i < s.dp → s.ft i < 4 ∧ s.fs i ≤ q.sLen (s.ft i)
theorem gVI_fl {q : SR} {F : FN} {n : Nat} {s : MV} (h : gVI F q n s) {a : Nat} (ha : a < 2 ^ 31) : gVI F q n (s.fl (nI a)) := by
  refine ⟨h.1, h.2.1, fun e => ?_, h.2.2.2⟩
  have e' : (if s.wg < 0 then nI a else s.wg) < 0 := e
  split at e'
  · exact absurd e' (nI_pos ha)
  · rename_i h1; exact absurd e' h1
theorem gVI_en {q : SR} {F : FN} {n : Nat} {s : MV} (hn : n ≤ 240) (hF : GF n F) (h : gVI F q n s) {x t to : Nat} (hx : x < 2 ^ 30) (ht : t < 4) (hto : to < 2 ^ 31) : gVI F q n (gen F n s x t to) := by
  unfold gen
  split
  · exact gVI_fl h hto
  · rename_i h1
    have h16 := h.2.1
    have h6 := h.1
    have h7 : ¬ s.en = 16 := fun z => h1 (Or.inr (Or.inr (Or.inl z)))
    have h8 : ¬ s.dp = 6 := fun z => h1 (Or.inr (Or.inr (Or.inr z)))
    split
    · exact gVI_fl (s := MV.mk s.wg (s.en + 1) s.dp s.fa s.ft s.fs) ⟨h.1, show s.en + 1 ≤ 16 by omega, h.2.2.1, h.2.2.2⟩ (by omega)
    · rename_i h2
      have hb : F.bd x = false := by cases hc : F.bd x <;> simp_all
      obtain ⟨o2, o3⟩ := hF.2.2.1 _ hx hb
      refine ⟨show s.dp + 1 ≤ 6 by omega, show s.en + 1 ≤ 16 by omega, fun e i hi => ?_, fun i hi => ?_⟩
      · have hi' : i < s.dp + 1 := hi
        show F.fr (va_up s.fa s.dp x i)
        have e' : (if F.io x = -1 then s.wg else if s.wg < 0 then F.io x else s.wg) < 0 := e
        split at e'
        · rename_i h3
          by_cases hc : i = s.dp
          · rw [hc, va_up_self]; exact hF.2.2.2.1 _ (by omega) hb h3
          · rw [va_up_ne _ _ hc]; exact h.2.2.1 e' i (by omega)
        · rename_i h3
          split at e'
          · exact absurd e' (o3 h3)
          · rename_i h4; exact absurd e' h4
      · have hi' : i < s.dp + 1 := hi
        show va_up s.ft s.dp t i < 4 ∧ va_up s.fs s.dp 0 i ≤ q.sLen (va_up s.ft s.dp t i)
        by_cases hc : i = s.dp
        · rw [hc, va_up_self, va_up_self]; exact ⟨ht, Nat.zero_le _⟩
        · rw [va_up_ne _ _ hc, va_up_ne _ _ hc]; exact h.2.2.2 i (by omega)
theorem gVI_in {q : SR} {F : FN} {n : Nat} {s : MV} (hn : n ≤ 240) (hF : GF n F) (hX : ∀ j, q.sKind j = 6 → okT (q.sExt j) = true) (h : gVI F q n s) {x t f : Nat} (hf : f < 6) (hx : F.fr x) : gVI F q n (gin F q n s x t f) := by
  obtain ⟨hx1, hx3, hx6⟩ := hF.2.2.2.2 _ hx
  have ho : F.of x f < 65536 := hF.1 x f
  unfold gin
  split
  · split
    · exact gVI_fl h (by omega)
    · exact h
  · split
    · exact gVI_fl h (by omega)
    · split
      · rename_i h6
        have hg := hF.2.1 (x + F.of x f)
        exact gVI_en hn hF h (by omega) (okT_spec (hX _ h6)).2 (by omega)
      · split
        · exact h
        · exact gVI_fl h (by omega)
theorem gVI_st {q : SR} {F : FN} {n : Nat} {s : MV} (hn : n ≤ 240) (hF : GF n F) (hX : ∀ j, q.sKind j = 6 → okT (q.sExt j) = true) (hL : ∀ t, q.sLen t ≤ 6) (h : gVI F q n s) (hd : ¬ dnV s) : gVI F q n (gst F q n s) := by
  have hd0 : ¬ s.dp = 0 := fun z => hd (Or.inl z)
  have hw : s.wg < 0 := Classical.not_not.mp (fun z => hd (Or.inr z))
  have hfr := h.2.2.1 hw (s.dp - 1) (by omega)
  have hst := h.2.2.2 (s.dp - 1) (by omega)
  have hl := hL (s.ft (s.dp - 1))
  unfold gst
  split
  · exact ⟨Nat.le_trans (Nat.sub_le _ _) h.1, h.2.1, fun e i hi => h.2.2.1 e i (Nat.lt_of_lt_of_le hi (Nat.sub_le _ _)), fun i hi => h.2.2.2 i (Nat.lt_of_lt_of_le hi (Nat.sub_le _ _))⟩
  · rename_i h1
    refine gVI_in hn hF hX (f := s.fs (s.dp - 1)) (s := MV.mk s.wg s.en s.dp s.fa s.ft (va_up s.fs (s.dp - 1) (s.fs (s.dp - 1) + 1))) ⟨h.1, h.2.1, h.2.2.1, fun i hi => ?_⟩ (by omega) hfr
    show s.ft i < 4 ∧ va_up s.fs (s.dp - 1) (s.fs (s.dp - 1) + 1) i ≤ q.sLen (s.ft i)
    by_cases hc : i = s.dp - 1
    · rw [hc, va_up_self]; exact ⟨hst.1, by omega⟩
    · rw [va_up_ne _ _ hc]; exact h.2.2.2 i hi
/-- the frames below are as they were -/
abbrev Bel (s s' : MV) : Prop := ∀ i, i < s.dp → s'.fa i = s.fa i ∧ s'.ft i = s.ft i ∧ s'.fs i = s.fs i
/-- a state that answers as r does: it is done with the fault, or it goes on where s stood -/
abbrev Ans (s : MV) (r : Int32 × Nat) (s' : MV) : Prop := (¬ r.1 = -1 → ¬ s'.wg < 0) ∧ s'.wg = r.1 ∧ s'.en = r.2 ∧ (r.1 = -1 → s'.dp = s.dp ∧ Bel s s')
theorem fl_m1 {s : MV} (h : s.wg = -1) (z : Int32) : (s.fl z).wg = z := by
  show (if s.wg < 0 then z else s.wg) = z
  rw [h]; rfl
theorem Ans_fl {s0 s : MV} (h : s.wg = -1) {a : Nat} (ha : a < 2 ^ 31) : Ans s0 (nI a, s.en) (s.fl (nI a)) :=
  ⟨fun _ => by rw [fl_m1 h]; exact nI_pos ha, fl_m1 h _, rfl, fun e => absurd e (nI_m1 ha)⟩
abbrev gPV (F : FN) (q : SR) (n K : Nat) : Prop := ∀ (s : MV) (x t to : Nat), s.dp + K = 6 → s.wg = -1 → s.en ≤ 16 → x < 2 ^ 30 → to < 2 ^ 31 → ∃ k, Ans s (gtb F q n K x t to s.en) (git F q n k (gen F n s x t to))
theorem gPV_f {q : SR} {F : FN} {n K : Nat} (hn : n ≤ 240) (hF : GF n F) (hL : ∀ t, q.sLen t ≤ 6) (ih : gPV F q n K) {s : MV} {x t : Nat} {e0 : Int32 × Nat} (hx : F.fr x) (hK : s.dp + K + 1 = 6) : ∀ (m f : Nat) (s1 : MV), f + m = q.sLen t → s1.dp = s.dp + 1 → s1.wg = -1 → s1.en ≤ 16 → s1.fa s.dp = x → s1.ft s.dp = t → s1.fs s.dp = f → Bel s s1 → (gfl F q n (gtb F q n K) x t e0 f).1 = -1 → (gfl F q n (gtb F q n K) x t e0 f).2 = s1.en → ∃ k, Ans s (gfl F q n (gtb F q n K) x t e0 (q.sLen t)) (git F q n k s1) := by
  intro m
  obtain ⟨hx1, hx3, hx6⟩ := hF.2.2.2.2 _ hx
  induction m with
  | zero =>
    intro f s1 hm h1 h2 h3 h4 h5 h6 h7 h8 h9
    have hnd : ¬ dnV s1 := fun z => z.elim (fun z => by omega) (fun z => z (by rw [h2]; decide))
    refine ⟨1, ?_⟩
    rw [git_st hnd]
    show Ans s _ (gst F q n s1)
    have hd : s1.dp - 1 = s.dp := by omega
    rw [gst, hd, h5, h6, if_pos (by omega), ← hm, Nat.add_zero]
    exact ⟨fun e => absurd h8 e, h2.trans h8.symm, h9.symm, fun _ => ⟨rfl, h7⟩⟩
  | succ m ihm =>
    intro f s1 hm h1 h2 h3 h4 h5 h6 h7 h8 h9
    have hL1 := hL t
    have hnd : ¬ dnV s1 := fun z => z.elim (fun z => by omega) (fun z => z (by rw [h2]; decide))
    have hd : s1.dp - 1 = s.dp := by omega
    have ho : F.of x f < 65536 := hF.1 x f
    -- the state with the step taken
    have hs2 : gst F q n s1 = gin F q n (MV.mk s1.wg s1.en s1.dp s1.fa s1.ft (va_up s1.fs s.dp (f + 1))) x t f := by
      rw [gst, hd, h4, h5, h6, if_neg (by omega)]
    generalize hs : MV.mk s1.wg s1.en s1.dp s1.fa s1.ft (va_up s1.fs s.dp (f + 1)) = s2 at hs2
    have b1 : s2.dp = s.dp + 1 := by rw [← hs]; exact h1
    have b2 : s2.wg = -1 := by rw [← hs]; exact h2
    have b3 : s2.en = s1.en := by rw [← hs]
    have b4 : s2.fa s.dp = x := by rw [← hs]; exact h4
    have b5 : s2.ft s.dp = t := by rw [← hs]; exact h5
    have b6 : s2.fs s.dp = f + 1 := by rw [← hs]; exact va_up_self _ _ _
    have b7 : Bel s s2 := by
      rw [← hs]; intro i hi
      exact ⟨(h7 i hi).1, (h7 i hi).2.1, (va_up_ne s1.fs (f + 1) (show i ≠ s.dp by omega)).trans (h7 i hi).2.2⟩
    -- one field
    have key : ∃ k, Ans s2 (gfd F q n (gtb F q n K) x t f s1.en) (git F q n k (gin F q n s2 x t f)) := by
      by_cases c0 : F.of x f = 0
      · refine ⟨0, ?_⟩
        rw [gfd_0 c0]
        show Ans s2 _ (gin F q n s2 x t f)
        rw [gin, if_pos c0]
        by_cases c1 : q.sMust (t * 6 + f) = true
        · rw [if_pos c1, if_pos c1, ← b3]; exact Ans_fl b2 (by omega)
        · rw [if_neg c1, if_neg c1]; exact ⟨fun e => absurd rfl e, b2, b3, fun _ => ⟨rfl, fun i _ => ⟨rfl, rfl, rfl⟩⟩⟩
      · by_cases c1 : F.of x f < 4 ∨ F.l3 x < F.of x f + F.kw (q.sKind (t * 6 + f)) ∨ ¬ (x + F.of x f) % F.kw (q.sKind (t * 6 + f)) = 0
        · refine ⟨0, ?_⟩
          rw [gfd_b c0 c1]
          show Ans s2 _ (gin F q n s2 x t f)
          rw [gin, if_neg c0, if_pos c1, ← b3]
          exact Ans_fl b2 (by omega)
        · by_cases c6 : q.sKind (t * 6 + f) = 6
          · have hg := hF.2.1 (x + F.of x f)
            obtain ⟨k, hk⟩ := ih s2 (F.tg (x + F.of x f)) (cN (q.sExt (t * 6 + f))) (x + F.of x f) (by omega) b2 (by omega) (by omega) (by omega)
            refine ⟨k, ?_⟩
            rw [gin, if_neg c0, if_neg c1, if_pos c6, gfd, if_neg c0, if_neg c1, if_pos c6, ← b3]
            exact hk
          · refine ⟨0, ?_⟩
            show Ans s2 _ (gin F q n s2 x t f)
            rw [gin, if_neg c0, if_neg c1, if_neg c6, gfd, if_neg c0, if_neg c1, if_neg c6]
            split
            · exact ⟨fun e => absurd rfl e, b2, b3, fun _ => ⟨rfl, fun i _ => ⟨rfl, rfl, rfl⟩⟩⟩
            · rw [← b3]; exact Ans_fl b2 (by omega)
    obtain ⟨k, a1, a2, a3, a4⟩ := key
    have e1 : gfl F q n (gtb F q n K) x t e0 (f + 1) = gfd F q n (gtb F q n K) x t f s1.en := by rw [gfl, if_pos h8, h9]
    by_cases cr : (gfd F q n (gtb F q n K) x t f s1.en).1 = -1
    · obtain ⟨a5, a6⟩ := a4 cr
      have hen := (gfd_en (F := F) (q := q) (n := n) (gtb_en F q n K) x t f s1.en h3).2
      obtain ⟨k2, hk2⟩ := ihm (f + 1) (git F q n k (gin F q n s2 x t f)) (by omega) (a5.trans b1) (a2.trans cr) (by rw [a3]; exact hen) ((a6 s.dp (by omega)).1.trans b4) ((a6 s.dp (by omega)).2.1.trans b5) ((a6 s.dp (by omega)).2.2.trans b6) (fun i hi => ⟨(a6 i (by omega)).1.trans (b7 i hi).1, (a6 i (by omega)).2.1.trans (b7 i hi).2.1, (a6 i (by omega)).2.2.trans (b7 i hi).2.2⟩) (by rw [e1]; exact cr) (by rw [e1]; exact a3.symm)
      refine ⟨(k + k2) + 1, ?_⟩
      rw [git_st hnd, hs2, git_add]
      exact hk2
    · refine ⟨k + 1, ?_⟩
      have e2 := gfl_stop (F := F) (q := q) (n := n) (T := gtb F q n K) (x := x) (t := t) (e0 := e0) (f := f + 1) (by rw [e1]; exact cr) (q.sLen t) (by omega)
      rw [git_st hnd, hs2, e2, e1]
      exact ⟨a1, a2, a3, fun e => absurd e cr⟩
theorem gPV_all {q : SR} {F : FN} {n : Nat} (hn : n ≤ 240) (hF : GF n F) (hL : ∀ t, q.sLen t ≤ 6) : ∀ K, gPV F q n K := by
  intro K
  induction K with
  | zero =>
    intro s x t to hK hw hen hx hto
    refine ⟨0, ?_⟩
    show Ans s (nI to, s.en) (gen F n s x t to)
    rw [gen, if_pos (Or.inr (Or.inr (Or.inr (by omega))))]
    exact Ans_fl hw hto
  | succ K ih =>
    intro s x t to hK hw hen hx hto
    by_cases c1 : ¬ x % 4 = 0 ∨ n < x + 4 ∨ s.en = 16 ∨ s.dp = 6
    · refine ⟨0, ?_⟩
      show Ans s (if _ then _ else _ : Int32 × Nat) (gen F n s x t to)
      rw [gen, if_pos c1, if_pos (by omega)]
      exact Ans_fl hw hto
    · have c1' : ¬ (¬ x % 4 = 0 ∨ n < x + 4 ∨ 16 ≤ s.en) := by omega
      by_cases c2 : F.bd x = true
      · refine ⟨0, ?_⟩
        show Ans s (if _ then _ else _ : Int32 × Nat) (gen F n s x t to)
        rw [gen, if_neg c1, if_neg c1', if_pos c2, if_pos c2]
        exact Ans_fl (s := MV.mk s.wg (s.en + 1) s.dp s.fa s.ft s.fs) hw (by omega)
      · have hb : F.bd x = false := by cases hc : F.bd x <;> simp_all
        obtain ⟨o2, o3⟩ := hF.2.2.1 _ hx hb
        have e1 : gtb F q n (K + 1) x t to s.en = gfl F q n (gtb F q n K) x t (F.io x, s.en + 1) (q.sLen t) := by
          show (if _ then _ else _ : Int32 × Nat) = _
          rw [if_neg c1', if_neg c2]
        by_cases c3 : F.io x = -1
        · have hfr := hF.2.2.2.1 _ (show x + 4 ≤ n by omega) hb c3
          obtain ⟨k, hk⟩ := gPV_f hn hF hL ih (s := s) (x := x) (t := t) (e0 := (F.io x, s.en + 1)) hfr (by omega) (q.sLen t) 0 (gen F n s x t to) (by omega) (by rw [gen, if_neg c1, if_neg c2]) (by rw [gen, if_neg c1, if_neg c2, if_pos c3]; exact hw) (by rw [gen, if_neg c1, if_neg c2]; show s.en + 1 ≤ 16; omega) (by rw [gen, if_neg c1, if_neg c2]; exact va_up_self _ _ _) (by rw [gen, if_neg c1, if_neg c2]; exact va_up_self _ _ _) (by rw [gen, if_neg c1, if_neg c2]; exact va_up_self _ _ _) (by rw [gen, if_neg c1, if_neg c2]; exact fun i hi => ⟨va_up_ne _ _ (by omega), va_up_ne _ _ (by omega), va_up_ne _ _ (by omega)⟩) c3 (by rw [gen, if_neg c1, if_neg c2]; rfl)
          exact ⟨k, by rw [e1]; exact hk⟩
        · refine ⟨0, ?_⟩
          have e2 := gfl_stop (F := F) (q := q) (n := n) (T := gtb F q n K) (x := x) (t := t) (e0 := (F.io x, s.en + 1)) (f := 0) c3 (q.sLen t) (by omega)
          rw [e1, e2]
          show Ans s (F.io x, s.en + 1) (gen F n s x t to)
          rw [gen, if_neg c1, if_neg c2, if_neg c3]
          have hneg : s.wg < 0 := by rw [hw]; decide
          refine ⟨fun _ => ?_, ?_, rfl, fun e => absurd e c3⟩
          · show ¬ (if s.wg < 0 then F.io x else s.wg) < 0
            rw [if_pos hneg]; exact o3 c3
          · show (if s.wg < 0 then F.io x else s.wg) = _
            rw [if_pos hneg]
def gv0 (F : FN) (n t : Nat) (fa ft fs : Nat → Nat) : MV := if n < 4 then MV.mk (nI 0) 0 0 fa ft fs else gen F n (MV.mk (-1) 0 0 fa ft fs) (min (F.l0) 100000) t 0
theorem gv0_run {q : SR} {F : FN} {n t : Nat} (hn : n ≤ 240) (hF : GF n F) (hL : ∀ t, q.sLen t ≤ 6) (fa ft fs : Nat → Nat) : ∃ k, dnV (git F q n k (gv0 F n t fa ft fs)) ∧ (git F q n k (gv0 F n t fa ft fs)).wg = (gvi F q n t).1 ∧ (git F q n k (gv0 F n t fa ft fs)).en = (gvi F q n t).2 := by
  by_cases h : n < 4
  · refine ⟨0, ?_⟩
    rw [gv0, if_pos h, gvi, if_pos h]
    exact ⟨Or.inl rfl, rfl, rfl⟩
  · rw [gv0, if_neg h, gvi, if_neg h]
    have hm : min (F.l0) 100000 ≤ 100000 := Nat.min_le_right _ _
    obtain ⟨k, a1, a2, a3, a4⟩ := gPV_all hn hF hL 6 (MV.mk (-1) 0 0 fa ft fs) (min (F.l0) 100000) t 0 rfl rfl (Nat.zero_le _) (by omega) (by decide)
    refine ⟨k, ?_, a2, a3⟩
    by_cases c : (gtb F q n 6 (min (F.l0) 100000) t 0 0).1 = -1
    · exact Or.inl (a4 c).1
    · exact Or.inr (a1 c)
/-- what is verified is good -/
theorem gfd_VG {q : SR} {F : FN} {n K x t f en : Nat} (hn : n ≤ 240) (hF : GF n F) (hf : f < 6) (hx : F.fr x) (ih : ∀ x t to en, x < 2 ^ 30 → to < 2 ^ 31 → t < 4 → (gtb F q n K x t to en).1 = -1 → gVG F q n K x t) (hX : ∀ j, q.sKind j = 6 → okT (q.sExt j) = true) (h : (gfd F q n (gtb F q n K) x t f en).1 = -1) : F.of x f = 0 ∨ (gFB F q n x t f ∧ (q.sKind (t * 6 + f) = 6 → gVG F q n K (F.tg (x + F.of x f)) (cN (q.sExt (t * 6 + f)))) ∧ (¬ q.sKind (t * 6 + f) = 6 → ¬ q.sKind (t * 6 + f) < 4 → F.sd (q.sKind (t * 6 + f)) (F.tg (x + F.of x f)) = true)) := by
  obtain ⟨hx1, hx3, hx6⟩ := hF.2.2.2.2 _ hx
  have ho : F.of x f < 65536 := hF.1 x f
  by_cases c0 : F.of x f = 0
  · exact Or.inl c0
  · right
    unfold gfd at h
    rw [if_neg c0] at h
    split at h
    · exact absurd h (nI_m1 (by omega))
    · rename_i c1
      have hg := hF.2.1 (x + F.of x f)
      refine ⟨⟨by omega, by omega⟩, fun h6 => ?_, fun h6 h4 => ?_⟩
      · rw [if_pos h6] at h
        exact ih _ _ _ _ (by omega) (by omega) (okT_spec (hX _ h6)).2 h
      · rw [if_neg h6] at h
        split at h
        · rename_i c2; exact c2.elim (fun z => absurd z h4) id
        · exact absurd h (nI_m1 (by omega))
theorem gtb_VG {q : SR} {F : FN} {n : Nat} (hn : n ≤ 240) (hF : GF n F) (hL : ∀ t, q.sLen t ≤ 6) (hX : ∀ j, q.sKind j = 6 → okT (q.sExt j) = true) : ∀ (K x t to en : Nat), x < 2 ^ 30 → to < 2 ^ 31 → t < 4 → (gtb F q n K x t to en).1 = -1 → gVG F q n K x t := by
  intro K
  induction K with
  | zero => intro x t to en hx hto ht h; exact absurd h (nI_m1 hto)
  | succ K ih =>
    intro x t to en hx hto ht h
    have h' : (if ¬ x % 4 = 0 ∨ n < x + 4 ∨ 16 ≤ en then (nI to, en) else if F.bd x = true then (nI x, en + 1) else gfl F q n (gtb F q n K) x t (F.io x, en + 1) (q.sLen t)).1 = -1 := h
    split at h'
    · exact absurd h' (nI_m1 hto)
    · rename_i c1
      split at h'
      · exact absurd h' (nI_m1 (by omega))
      · rename_i c2
        have hb : F.bd x = false := by cases hc : F.bd x <;> simp_all
        have hall : ∀ m, m ≤ q.sLen t → (gfl F q n (gtb F q n K) x t (F.io x, en + 1) m).1 = -1 := fun m hm => Classical.not_not.mp (fun z => by
          have := gfl_stop z (q.sLen t) hm
          rw [this] at h'; exact z h')
        have hfr := hF.2.2.2.1 _ (by omega) hb (hall 0 (Nat.zero_le _))
        refine ⟨hfr, ht, fun f hf => ?_⟩
        have hL1 := hL t
        have h1 := hall (f + 1) hf
        rw [gfl, if_pos (hall f (by omega))] at h1
        exact gfd_VG hn hF (by omega) hfr ih hX h1
/-! the bytes that are there -/
def cF (d : Nat → Nat) (n : Nat) : FN := (fun x f => ofF d n x f, fun y => tgF d n y, fun x => vN d n x, fun x => bdV d n x, fun x => ioF d n x (vN d n x), fun x => leN d n (nI (vN d n x + 2)) 2, fun k s => sdF d n k s, kWd, fun x => FR d n x, leN d n (nI 0) 4)
theorem ioF_n {d : Nat → Nat} {n x o : Nat} (ho : o + 2 < 2 ^ 31) (h : ¬ ioF d n x o = -1) : ¬ ioF d n x o < 0 := by
  unfold ioF at h ⊢
  split
  · exact nI_pos (by omega)
  · rename_i h1
    rw [if_neg h1] at h
    split
    · exact nI_pos (by omega)
    · rename_i h2; rw [if_neg h2] at h; exact absurd rfl h
theorem cF_of (d : Nat → Nat) (n x f : Nat) : (cF d n).of x f = ofF d n x f := by unfold cF; rfl
theorem cF_tg (d : Nat → Nat) (n x : Nat) : (cF d n).tg x = tgF d n x := by unfold cF; rfl
theorem cF_vn (d : Nat → Nat) (n x : Nat) : (cF d n).vn x = vN d n x := by unfold cF; rfl
theorem cF_bd (d : Nat → Nat) (n x : Nat) : (cF d n).bd x = bdV d n x := by unfold cF; rfl
theorem cF_io (d : Nat → Nat) (n x : Nat) : (cF d n).io x = ioF d n x (vN d n x) := by unfold cF; rfl
theorem cF_l3 (d : Nat → Nat) (n x : Nat) : (cF d n).l3 x = leN d n (nI (vN d n x + 2)) 2 := by unfold cF; rfl
theorem cF_sd (d : Nat → Nat) (n k x : Nat) : (cF d n).sd k x = sdF d n k x := by unfold cF; rfl
theorem cF_kw (d : Nat → Nat) (n k : Nat) : (cF d n).kw k = kWd k := by unfold cF; rfl
theorem cF_fr (d : Nat → Nat) (n x : Nat) : (cF d n).fr x = FR d n x := by unfold cF; rfl
theorem cF_l0 (d : Nat → Nat) (n : Nat) : (cF d n).l0 = leN d n (nI 0) 4 := by unfold cF; rfl
theorem FR_3 {d : Nat → Nat} {n x : Nat} (h : FR d n x) : x + 4 ≤ n ∧ vN d n x + 4 ≤ n ∧ x + leN d n (nI (vN d n x + 2)) 2 ≤ n := by
  unfold FR at h
  exact ⟨h.1, h.2.2.1, h.2.2.2.2.2⟩
theorem cF_ok {d : Nat → Nat} {n : Nat} (hB : ∀ k, d k < 256) (hn : n ≤ 240) : GF n (cF d n) := by
  refine ⟨fun x f => ?_, fun y => ?_, fun x hx hb => ?_, fun x hx hb hi => ?_, fun x h => ?_⟩
  · rw [cF_of]; exact offF_lt hB
  · rw [cF_tg]; exact tg_le
  · rw [cF_bd] at hb
    rw [cF_vn, cF_io]
    have h9 := (vO_ok hB hx hn hb).2
    exact ⟨h9, fun h => ioF_n (Nat.lt_of_le_of_lt (Nat.le_trans (Nat.add_le_add_left (by decide : 2 ≤ 4) _) h9) (Nat.lt_of_le_of_lt hn (by decide))) h⟩
  · rw [cF_bd] at hb
    rw [cF_io] at hi
    rw [cF_fr]; exact FR_of hB hn hx hb hi
  · rw [cF_fr] at h
    rw [cF_vn, cF_l3]; exact FR_3 h
def enV (d : Nat → Nat) (n : Nat) (s : MV) (x t to : Nat) : MV :=
  if ¬ x % 4 = 0 ∨ n < x + 4 ∨ s.en = 16 ∨ s.dp = 6 then s.fl (nI to)
  else if bdV d n x = true then (MV.mk s.wg (s.en + 1) s.dp s.fa s.ft s.fs).fl (nI x)
  else MV.mk (if ioF d n x (vN d n x) = -1 then s.wg else if s.wg < 0 then ioF d n x (vN d n x) else s.wg) (s.en + 1) (s.dp + 1) (va_up s.fa s.dp x) (va_up s.ft s.dp t) (va_up s.fs s.dp 0)
def inV (q : SR) (d : Nat → Nat) (n : Nat) (s : MV) (x t f : Nat) : MV :=
  if ofF d n x f = 0 then (if q.sMust (t * 6 + f) = true then s.fl (nI x) else s)
  else if ofF d n x f < 4 ∨ leN d n (nI (vN d n x + 2)) 2 < ofF d n x f + kWd (q.sKind (t * 6 + f)) ∨ ¬ (x + ofF d n x f) % kWd (q.sKind (t * 6 + f)) = 0 then s.fl (nI (vN d n x + 4 + 2 * f))
  else if q.sKind (t * 6 + f) = 6 then enV d n s (tgF d n (x + ofF d n x f)) (cN (q.sExt (t * 6 + f))) (x + ofF d n x f)
  else if q.sKind (t * 6 + f) < 4 ∨ sdF d n (q.sKind (t * 6 + f)) (tgF d n (x + ofF d n x f)) = true then s else s.fl (nI (x + ofF d n x f))
def stV (q : SR) (d : Nat → Nat) (n : Nat) (s : MV) : MV :=
  if s.fs (s.dp - 1) = q.sLen (s.ft (s.dp - 1)) then MV.mk s.wg s.en (s.dp - 1) s.fa s.ft s.fs
  else inV q d n (MV.mk s.wg s.en s.dp s.fa s.ft (va_up s.fs (s.dp - 1) (s.fs (s.dp - 1) + 1))) (s.fa (s.dp - 1)) (s.ft (s.dp - 1)) (s.fs (s.dp - 1))
def itV (q : SR) (d : Nat → Nat) (n : Nat) : Nat → MV → MV
  | 0, s => s
  | k + 1, s => if s.dp = 0 ∨ ¬ s.wg < 0 then s else itV q d n k (stV q d n s)
def v0V (d : Nat → Nat) (n t : Nat) (fa ft fs : Nat → Nat) : MV := if n < 4 then MV.mk (nI 0) 0 0 fa ft fs else enV d n (MV.mk (-1) 0 0 fa ft fs) (min (leN d n (nI 0) 4) 100000) t 0
abbrev VI (q : SR) (d : Nat → Nat) (n : Nat) (s : MV) : Prop := s.dp ≤ 6 ∧ s.en ≤ 16 ∧ (s.wg < 0 → ∀ i, i < s.dp → FR d n (s.fa i)) ∧ ∀ i, i < s.dp → s.ft i < 4 ∧ s.fs i ≤ q.sLen (s.ft i)
theorem enV_g (d : Nat → Nat) (n : Nat) (s : MV) (x t to : Nat) : enV d n s x t to = gen (cF d n) n s x t to := by
  unfold enV gen
  simp only [cF_bd, cF_io]
theorem inV_g (q : SR) (d : Nat → Nat) (n : Nat) (s : MV) (x t f : Nat) : inV q d n s x t f = gin (cF d n) q n s x t f := by
  unfold inV gin
  simp only [cF_of, cF_l3, cF_kw, cF_tg, cF_sd, cF_vn, enV_g]
theorem stV_g (q : SR) (d : Nat → Nat) (n : Nat) (s : MV) : stV q d n s = gst (cF d n) q n s := by
  unfold stV gst
  simp only [inV_g]
theorem itV_g (q : SR) (d : Nat → Nat) (n : Nat) : ∀ k s, itV q d n k s = git (cF d n) q n k s
  | 0, s => rfl
  | k + 1, s => by rw [itV, git, itV_g q d n k, stV_g]
theorem v0V_g (d : Nat → Nat) (n t : Nat) (fa ft fs : Nat → Nat) : v0V d n t fa ft fs = gv0 (cF d n) n t fa ft fs := by
  unfold v0V gv0
  simp only [enV_g, cF_l0]
theorem fdF_g (q : SR) (d : Nat → Nat) (n : Nat) (T : VT) (x t f en : Nat) : fdF q d n T x t f en = gfd (cF d n) q n T x t f en := by
  unfold fdF gfd
  simp only [cF_of, cF_l3, cF_kw, cF_tg, cF_sd, cF_vn]
theorem vFl_g (q : SR) (d : Nat → Nat) (n : Nat) (T : VT) (x t : Nat) (e0 : Int32 × Nat) : ∀ m, vFl q d n T x t e0 m = gfl (cF d n) q n T x t e0 m
  | 0 => rfl
  | m + 1 => by rw [vFl, gfl, vFl_g q d n T x t e0 m, fdF_g]
theorem vTb_s (q : SR) (d : Nat → Nat) (n K x t to en : Nat) : vTb q d n (K + 1) x t to en = if ¬ x % 4 = 0 ∨ n < x + 4 ∨ 16 ≤ en then (nI to, en) else if bdV d n x = true then (nI x, en + 1) else vFl q d n (vTb q d n K) x t (ioF d n x (vN d n x), en + 1) (q.sLen t) := by rw [vTb]
theorem gtb_s (F : FN) (q : SR) (n K x t to en : Nat) : gtb F q n (K + 1) x t to en = if ¬ x % 4 = 0 ∨ n < x + 4 ∨ 16 ≤ en then (nI to, en) else if F.bd x = true then (nI x, en + 1) else gfl F q n (gtb F q n K) x t (F.io x, en + 1) (q.sLen t) := by rw [gtb]
theorem vTb_g (q : SR) (d : Nat → Nat) (n : Nat) : ∀ K, vTb q d n K = gtb (cF d n) q n K
  | 0 => by funext x t to en; rw [vTb, gtb]
  | K + 1 => by
    funext x t to en
    rw [vTb_s, gtb_s, vTb_g q d n K]
    simp only [cF_bd, cF_io, vFl_g]
theorem vIn_g (q : SR) (d : Nat → Nat) (n t : Nat) : vIn q d n t = gvi (cF d n) q n t := by
  unfold vIn gvi
  rw [vTb_g, cF_l0]
theorem VG_g (q : SR) (d : Nat → Nat) (n : Nat) : ∀ K, gVG (cF d n) q n K = VG q d n K
  | 0 => by funext x t; rw [gVG, VG]
  | K + 1 => by
    funext x t
    rw [gVG, VG, VG_g q d n K]
    unfold gFB FB
    simp only [cF_of, cF_l3, cF_kw, cF_tg, cF_sd, cF_vn, cF_fr]
theorem VI_g (q : SR) (d : Nat → Nat) (n : Nat) (s : MV) : VI q d n s ↔ gVI (cF d n) q n s := by
  unfold VI gVI
  simp only [cF_fr]
theorem itV_dn {q : SR} {d : Nat → Nat} {n : Nat} {s : MV} (h : dnV s) : ∀ k, itV q d n k s = s
  | 0 => rfl
  | k + 1 => by rw [itV, if_pos h]
theorem itV_st {q : SR} {d : Nat → Nat} {n : Nat} {s : MV} (h : ¬ dnV s) (k : Nat) : itV q d n (k + 1) s = itV q d n k (stV q d n s) := by rw [itV, if_neg h]
theorem VI_en {q : SR} {d : Nat → Nat} {n : Nat} {s : MV} (hB : ∀ k, d k < 256) (hn : n ≤ 240) (h : VI q d n s) {x t to : Nat} (hx : x < 2 ^ 30) (ht : t < 4) (hto : to < 2 ^ 31) : VI q d n (enV d n s x t to) := by rw [VI_g, enV_g]; exact gVI_en hn (cF_ok hB hn) ((VI_g q d n s).mp h) hx ht hto
theorem VI_st {q : SR} {d : Nat → Nat} {n : Nat} {s : MV} (hB : ∀ k, d k < 256) (hn : n ≤ 240) (hX : ∀ j, q.sKind j = 6 → okT (q.sExt j) = true) (hL : ∀ t, q.sLen t ≤ 6) (h : VI q d n s) (hd : ¬ dnV s) : VI q d n (stV q d n s) := by rw [VI_g, stV_g]; exact gVI_st hn (cF_ok hB hn) hX hL ((VI_g q d n s).mp h) hd
theorem v0V_run {q : SR} {d : Nat → Nat} {n t : Nat} (hB : ∀ k, d k < 256) (hn : n ≤ 240) (hL : ∀ t, q.sLen t ≤ 6) (fa ft fs : Nat → Nat) : ∃ k, dnV (itV q d n k (v0V d n t fa ft fs)) ∧ (itV q d n k (v0V d n t fa ft fs)).wg = (vIn q d n t).1 ∧ (itV q d n k (v0V d n t fa ft fs)).en = (vIn q d n t).2 := by
  obtain ⟨k, h1, h2, h3⟩ := gv0_run (F := cF d n) (q := q) (t := t) hn (cF_ok hB hn) hL fa ft fs
  refine ⟨k, ?_⟩
  rw [itV_g, v0V_g, vIn_g]
  exact ⟨h1, h2, h3⟩
theorem MV_eta (s : MV) : MV.mk s.wg s.en s.dp s.fa s.ft s.fs = s := rfl
theorem stV_p {q : SR} {d : Nat → Nat} {n : Nat} {wg : Int32} {en dp : Nat} {fa ft fs : Nat → Nat} (h : fs (dp - 1) = q.sLen (ft (dp - 1))) : stV q d n (MV.mk wg en dp fa ft fs) = MV.mk wg en (dp - 1) fa ft fs := by rw [stV, if_pos h]
theorem stV_i {q : SR} {d : Nat → Nat} {n : Nat} {wg : Int32} {en dp : Nat} {fa ft fs : Nat → Nat} (h : ¬ fs (dp - 1) = q.sLen (ft (dp - 1))) : stV q d n (MV.mk wg en dp fa ft fs) = inV q d n (MV.mk wg en dp fa ft (va_up fs (dp - 1) (fs (dp - 1) + 1))) (fa (dp - 1)) (ft (dp - 1)) (fs (dp - 1)) := by rw [stV, if_neg h]
theorem v0V_y {d : Nat → Nat} {n t : Nat} {fa ft fs : Nat → Nat} (h : n < 4) : v0V d n t fa ft fs = MV.mk (if (-1 : Int32) < 0 then nI 0 else -1) 0 0 fa ft fs := by rw [v0V, if_pos h]; rfl
theorem v0V_n {d : Nat → Nat} {n t : Nat} {fa ft fs : Nat → Nat} (h : ¬ n < 4) : v0V d n t fa ft fs = enV d n (MV.mk (-1) 0 0 fa ft fs) (min (leN d n (nI 0) 4) 100000) t 0 := by rw [v0V, if_neg h]
theorem itV_pos {q : SR} {d : Nat → Nat} {n k : Nat} {s fin : MV} (h : itV q d n k s = fin) (hf : dnV fin) (hs : ¬ dnV s) : ∃ j, k = j + 1 ∧ itV q d n j (stV q d n s) = fin := by
  cases k with
  | zero => exact absurd (by rw [show s = fin from h]; exact hf) hs
  | succ j => exact ⟨j, rfl, by rw [← itV_st hs]; exact h⟩
theorem vIn_4 {q : SR} {d : Nat → Nat} {n t : Nat} (h : (vIn q d n t).1 = -1) : 4 ≤ n := by
  by_cases c : n < 4
  · rw [vIn, if_pos c] at h; exact absurd h (nI_m1 (by decide))
  · omega
theorem vIn_neg {q : SR} {d : Nat → Nat} {n t : Nat} (hB : ∀ k, d k < 256) (hn : n ≤ 240) (hL : ∀ t, q.sLen t ≤ 6) (h : (vIn q d n t).1 < 0) : (vIn q d n t).1 = -1 := by
  by_cases c : n < 4
  · rw [vIn, if_pos c] at h; exact absurd h (nI_pos (by decide))
  · rw [vIn, if_neg c] at h ⊢
    have hm : min (leN d n (nI 0) 4) 100000 ≤ 100000 := Nat.min_le_right _ _
    rw [vTb_g] at h ⊢
    generalize min (leN d n (nI 0) 4) 100000 = c9 at *
    obtain ⟨k, a1, a2, a3, a4⟩ := gPV_all hn (cF_ok hB hn) hL 6 (MV.mk (-1) 0 0 (fun _ => 0) (fun _ => 0) (fun _ => 0)) c9 t 0 rfl rfl (Nat.zero_le _) (by omega) (by decide)
    exact Classical.not_not.mp (fun z => a1 z (by rw [a2]; exact h))
theorem VI_0 {q : SR} {d : Nat → Nat} {n : Nat} (w : Int32) (fa ft fs : Nat → Nat) : VI q d n (MV.mk w 0 0 fa ft fs) := ⟨Nat.zero_le _, Nat.zero_le _, fun _ i hi => absurd hi (Nat.not_lt_zero _), fun i hi => absurd hi (Nat.not_lt_zero _)⟩
theorem vIn_VE {q : SR} {d : Nat → Nat} {n t : Nat} (hn : n ≤ 240) (hB : ∀ k, d k < 256) (hL : ∀ t, q.sLen t ≤ 6) (hX : ∀ j, q.sKind j = 6 → okT (q.sExt j) = true) (ht : t < 4) (h : (vIn q d n t).1 = -1) : VE q d n (min (leN d n (nI 0) 4) 100000) t := by
  have h4 := vIn_4 h
  rw [vIn, if_neg (by omega)] at h
  have hm : min (leN d n (nI 0) 4) 100000 ≤ 100000 := Nat.min_le_right _ _
  rw [vTb_g] at h
  refine ⟨6, ?_⟩
  rw [← VG_g]
  exact gtb_VG hn (cF_ok hB hn) hL hX 6 _ _ _ _ (Nat.lt_of_le_of_lt hm (by decide)) (by decide) ht h
theorem wd_38303c4f : Cond.methodLink R_M 192 y_M_fail ∈ kGW := kGW_of (List.mem_of_getElem? (i := 1046) (by decide +kernel)) (by decide)
theorem wd_1759d07d : Cond.fieldLink R_M 186 R_M "entered" "I" ∈ kGW := kGW_of (List.mem_of_getElem? (i := 852) (by decide +kernel)) (by decide)
theorem wd_8f75c4b2 : Cond.fieldLink R_M 189 R_M "depth" "I" ∈ kGW := kGW_of (List.mem_of_getElem? (i := 853) (by decide +kernel)) (by decide)
theorem wd_5beb78c7 : Cond.methodLink R_M 195 y_M_badV ∈ kGW := kGW_of (List.mem_of_getElem? (i := 1069) (by decide +kernel)) (by decide)
theorem wd_4926ac37 : Cond.fieldLink R_M 73 R_M "at" "[I" ∈ kGW := kGW_of (List.mem_of_getElem? (i := 854) (by decide +kernel)) (by decide)
theorem wd_1951fc82 : Cond.fieldLink R_M 76 R_M "table" "[I" ∈ kGW := kGW_of (List.mem_of_getElem? (i := 855) (by decide +kernel)) (by decide)
theorem wd_1d293484 : Cond.fieldLink R_M 79 R_M "step" "[I" ∈ kGW := kGW_of (List.mem_of_getElem? (i := 856) (by decide +kernel)) (by decide)
theorem wd_b1107d52 : Cond.methodLink R_M 214 y_M_elements ∈ kGW := kGW_of (List.mem_of_getElem? (i := 1091) (by decide +kernel)) (by decide)
theorem wd_d0b75dba : Cond.methodLink R_M 210 y_M_enter ∈ kGW := kGW_of (List.mem_of_getElem? (i := 1065) (by decide +kernel)) (by decide)
theorem wd_03a55fc4 : Cond.methodLink R_M 218 y_M_inspect ∈ kGW := kGW_of (List.mem_of_getElem? (i := 1079) (by decide +kernel)) (by decide)
set_option maxRecDepth 20000 in
theorem wd_cd04f299 : Cond.code y_M_enter b_M_enter 6 none ∈ kGW := kGW_of (List.mem_of_getElem? (i := 1068) (by rfl)) (by decide)
theorem wd_e347da80 : Cond.instanceMethod y_M_enter ∈ kGW := kGW_of (List.mem_of_getElem? (i := 1067) (by decide +kernel)) (by decide)
theorem wd_0f55a933 : Cond.selects R_M y_M_enter y_M_enter ∈ kGW := kGW_of (List.mem_of_getElem? (i := 38) (by decide +kernel)) (by decide)
set_option maxRecDepth 20000 in
theorem wd_1769408e : Cond.code y_M_elements b_M_elements 5 none ∈ kGW := kGW_of (List.mem_of_getElem? (i := 1094) (by rfl)) (by decide)
theorem wd_06fad6d5 : Cond.instanceMethod y_M_elements ∈ kGW := kGW_of (List.mem_of_getElem? (i := 1093) (by decide +kernel)) (by decide)
theorem wd_21c10d4c : Cond.selects R_M y_M_elements y_M_elements ∈ kGW := kGW_of (List.mem_of_getElem? (i := 44) (by decide +kernel)) (by decide)
set_option maxRecDepth 20000 in
theorem wd_36b6e4f7 : Cond.code y_M_inspect b_M_inspect 8 none ∈ kGW := kGW_of (List.mem_of_getElem? (i := 1082) (by rfl)) (by decide)
theorem wd_4e1653fd : Cond.instanceMethod y_M_inspect ∈ kGW := kGW_of (List.mem_of_getElem? (i := 1081) (by decide +kernel)) (by decide)
theorem wd_315e33af : Cond.selects R_M y_M_inspect y_M_inspect ∈ kGW := kGW_of (List.mem_of_getElem? (i := 41) (by decide +kernel)) (by decide)
set_option maxRecDepth 20000 in
theorem wd_cb812034 : Cond.code y_M_verify b_M_verify 3 (some .int) ∈ kGW := kGW_of (List.mem_of_getElem? (i := 1045) (by rfl)) (by decide)
theorem wd_390b9911 : Cond.instanceMethod y_M_verify ∈ kGW := kGW_of (List.mem_of_getElem? (i := 1043) (by decide +kernel)) (by decide)
theorem wd_57ff318c : Cond.selects R_M y_M_verify y_M_verify ∈ kGW := kGW_of (List.mem_of_getElem? (i := 1044) (by decide +kernel)) (by decide)
theorem d_M_enter_0 : decode b_M_enter 0 = .ok (.iload_n 1, 1) := by decide +kernel
theorem d_M_enter_1 : decode b_M_enter 1 = .ok (.iconst 4, 1) := by decide +kernel
theorem d_M_enter_2 : decode b_M_enter 2 = .ok (.irem, 1) := by decide +kernel
theorem d_M_enter_3 : decode b_M_enter 3 = .ok (.ifCond .ne 31, 3) := by decide +kernel
theorem d_M_enter_6 : decode b_M_enter 6 = .ok (.iload_n 1, 1) := by decide +kernel
theorem d_M_enter_7 : decode b_M_enter 7 = .ok (.iconst 4, 1) := by decide +kernel
theorem d_M_enter_8 : decode b_M_enter 8 = .ok (.iadd, 1) := by decide +kernel
theorem d_M_enter_9 : decode b_M_enter 9 = .ok (.aload_n 0, 1) := by decide +kernel
theorem d_M_enter_10 : decode b_M_enter 10 = .ok (.getfield 164, 3) := by decide +kernel
theorem d_M_enter_13 : decode b_M_enter 13 = .ok (.if_icmp .gt 21, 3) := by decide +kernel
theorem d_M_enter_16 : decode b_M_enter 16 = .ok (.aload_n 0, 1) := by decide +kernel
theorem d_M_enter_17 : decode b_M_enter 17 = .ok (.getfield 186, 3) := by decide +kernel
theorem d_M_enter_20 : decode b_M_enter 20 = .ok (.bipush 16, 2) := by decide +kernel
theorem d_M_enter_22 : decode b_M_enter 22 = .ok (.if_icmp .eq 12, 3) := by decide +kernel
theorem d_M_enter_25 : decode b_M_enter 25 = .ok (.aload_n 0, 1) := by decide +kernel
theorem d_M_enter_26 : decode b_M_enter 26 = .ok (.getfield 189, 3) := by decide +kernel
theorem d_M_enter_29 : decode b_M_enter 29 = .ok (.bipush 6, 2) := by decide +kernel
theorem d_M_enter_31 : decode b_M_enter 31 = .ok (.if_icmp .ne 9, 3) := by decide +kernel
theorem d_M_enter_34 : decode b_M_enter 34 = .ok (.aload_n 0, 1) := by decide +kernel
theorem d_M_enter_35 : decode b_M_enter 35 = .ok (.iload_n 3, 1) := by decide +kernel
theorem d_M_enter_36 : decode b_M_enter 36 = .ok (.invokevirtual 192, 3) := by decide +kernel
theorem d_M_enter_39 : decode b_M_enter 39 = .ok (.return_, 1) := by decide +kernel
theorem d_M_enter_40 : decode b_M_enter 40 = .ok (.aload_n 0, 1) := by decide +kernel
theorem d_M_enter_41 : decode b_M_enter 41 = .ok (.dup, 1) := by decide +kernel
theorem d_M_enter_42 : decode b_M_enter 42 = .ok (.getfield 186, 3) := by decide +kernel
theorem d_M_enter_45 : decode b_M_enter 45 = .ok (.iconst 1, 1) := by decide +kernel
theorem d_M_enter_46 : decode b_M_enter 46 = .ok (.iadd, 1) := by decide +kernel
theorem d_M_enter_47 : decode b_M_enter 47 = .ok (.putfield 186, 3) := by decide +kernel
theorem d_M_enter_50 : decode b_M_enter 50 = .ok (.aload_n 0, 1) := by decide +kernel
theorem d_M_enter_51 : decode b_M_enter 51 = .ok (.iload_n 1, 1) := by decide +kernel
theorem d_M_enter_52 : decode b_M_enter 52 = .ok (.invokevirtual 195, 3) := by decide +kernel
theorem d_M_enter_55 : decode b_M_enter 55 = .ok (.ifCond .eq 9, 3) := by decide +kernel
theorem d_M_enter_58 : decode b_M_enter 58 = .ok (.aload_n 0, 1) := by decide +kernel
theorem d_M_enter_59 : decode b_M_enter 59 = .ok (.iload_n 1, 1) := by decide +kernel
theorem d_M_enter_60 : decode b_M_enter 60 = .ok (.invokevirtual 192, 3) := by decide +kernel
theorem d_M_enter_63 : decode b_M_enter 63 = .ok (.return_, 1) := by decide +kernel
theorem d_M_enter_64 : decode b_M_enter 64 = .ok (.aload_n 0, 1) := by decide +kernel
theorem d_M_enter_65 : decode b_M_enter 65 = .ok (.iload_n 1, 1) := by decide +kernel
theorem d_M_enter_66 : decode b_M_enter 66 = .ok (.invokevirtual 198, 3) := by decide +kernel
theorem d_M_enter_69 : decode b_M_enter 69 = .ok (.istore 4, 2) := by decide +kernel
theorem d_M_enter_71 : decode b_M_enter 71 = .ok (.aload_n 0, 1) := by decide +kernel
theorem d_M_enter_72 : decode b_M_enter 72 = .ok (.iload 4, 2) := by decide +kernel
theorem d_M_enter_74 : decode b_M_enter 74 = .ok (.invokevirtual 167, 3) := by decide +kernel
theorem d_M_enter_77 : decode b_M_enter 77 = .ok (.istore 5, 2) := by decide +kernel
theorem d_M_enter_79 : decode b_M_enter 79 = .ok (.iload 5, 2) := by decide +kernel
theorem d_M_enter_81 : decode b_M_enter 81 = .ok (.iconst 2, 1) := by decide +kernel
theorem d_M_enter_82 : decode b_M_enter 82 = .ok (.irem, 1) := by decide +kernel
theorem d_M_enter_83 : decode b_M_enter 83 = .ok (.ifCond .ne 21, 3) := by decide +kernel
theorem d_M_enter_86 : decode b_M_enter 86 = .ok (.iload 5, 2) := by decide +kernel
theorem d_M_enter_88 : decode b_M_enter 88 = .ok (.iconst 4, 1) := by decide +kernel
theorem d_M_enter_89 : decode b_M_enter 89 = .ok (.if_icmp .lt 15, 3) := by decide +kernel
theorem d_M_enter_92 : decode b_M_enter 92 = .ok (.iload 4, 2) := by decide +kernel
theorem d_M_enter_94 : decode b_M_enter 94 = .ok (.iload 5, 2) := by decide +kernel
theorem d_M_enter_96 : decode b_M_enter 96 = .ok (.iadd, 1) := by decide +kernel
theorem d_M_enter_97 : decode b_M_enter 97 = .ok (.aload_n 0, 1) := by decide +kernel
theorem d_M_enter_98 : decode b_M_enter 98 = .ok (.getfield 164, 3) := by decide +kernel
theorem d_M_enter_101 : decode b_M_enter 101 = .ok (.if_icmp .le 12, 3) := by decide +kernel
theorem d_M_enter_104 : decode b_M_enter 104 = .ok (.aload_n 0, 1) := by decide +kernel
theorem d_M_enter_105 : decode b_M_enter 105 = .ok (.iload 4, 2) := by decide +kernel
theorem d_M_enter_107 : decode b_M_enter 107 = .ok (.invokevirtual 192, 3) := by decide +kernel
theorem d_M_enter_110 : decode b_M_enter 110 = .ok (.goto 40, 3) := by decide +kernel
theorem d_M_enter_113 : decode b_M_enter 113 = .ok (.aload_n 0, 1) := by decide +kernel
theorem d_M_enter_114 : decode b_M_enter 114 = .ok (.iload 4, 2) := by decide +kernel
theorem d_M_enter_116 : decode b_M_enter 116 = .ok (.iconst 2, 1) := by decide +kernel
theorem d_M_enter_117 : decode b_M_enter 117 = .ok (.iadd, 1) := by decide +kernel
theorem d_M_enter_118 : decode b_M_enter 118 = .ok (.invokevirtual 167, 3) := by decide +kernel
theorem d_M_enter_121 : decode b_M_enter 121 = .ok (.iconst 4, 1) := by decide +kernel
theorem d_M_enter_122 : decode b_M_enter 122 = .ok (.if_icmp .lt 20, 3) := by decide +kernel
theorem d_M_enter_125 : decode b_M_enter 125 = .ok (.iload_n 1, 1) := by decide +kernel
theorem d_M_enter_126 : decode b_M_enter 126 = .ok (.aload_n 0, 1) := by decide +kernel
theorem d_M_enter_127 : decode b_M_enter 127 = .ok (.iload 4, 2) := by decide +kernel
theorem d_M_enter_129 : decode b_M_enter 129 = .ok (.iconst 2, 1) := by decide +kernel
theorem d_M_enter_130 : decode b_M_enter 130 = .ok (.iadd, 1) := by decide +kernel
theorem d_M_enter_131 : decode b_M_enter 131 = .ok (.invokevirtual 167, 3) := by decide +kernel
theorem d_M_enter_134 : decode b_M_enter 134 = .ok (.iadd, 1) := by decide +kernel
theorem d_M_enter_135 : decode b_M_enter 135 = .ok (.aload_n 0, 1) := by decide +kernel
theorem d_M_enter_136 : decode b_M_enter 136 = .ok (.getfield 164, 3) := by decide +kernel
theorem d_M_enter_139 : decode b_M_enter 139 = .ok (.if_icmp .le 11, 3) := by decide +kernel
theorem d_M_enter_142 : decode b_M_enter 142 = .ok (.aload_n 0, 1) := by decide +kernel
theorem d_M_enter_143 : decode b_M_enter 143 = .ok (.iload 4, 2) := by decide +kernel
theorem d_M_enter_145 : decode b_M_enter 145 = .ok (.iconst 2, 1) := by decide +kernel
theorem d_M_enter_146 : decode b_M_enter 146 = .ok (.iadd, 1) := by decide +kernel
theorem d_M_enter_147 : decode b_M_enter 147 = .ok (.invokevirtual 192, 3) := by decide +kernel
theorem d_M_enter_150 : decode b_M_enter 150 = .ok (.aload_n 0, 1) := by decide +kernel
theorem d_M_enter_151 : decode b_M_enter 151 = .ok (.getfield 73, 3) := by decide +kernel
theorem d_M_enter_154 : decode b_M_enter 154 = .ok (.aload_n 0, 1) := by decide +kernel
theorem d_M_enter_155 : decode b_M_enter 155 = .ok (.getfield 189, 3) := by decide +kernel
theorem d_M_enter_158 : decode b_M_enter 158 = .ok (.iload_n 1, 1) := by decide +kernel
theorem d_M_enter_159 : decode b_M_enter 159 = .ok (.iastore, 1) := by decide +kernel
theorem d_M_enter_160 : decode b_M_enter 160 = .ok (.aload_n 0, 1) := by decide +kernel
theorem d_M_enter_161 : decode b_M_enter 161 = .ok (.getfield 76, 3) := by decide +kernel
theorem d_M_enter_164 : decode b_M_enter 164 = .ok (.aload_n 0, 1) := by decide +kernel
theorem d_M_enter_165 : decode b_M_enter 165 = .ok (.getfield 189, 3) := by decide +kernel
theorem d_M_enter_168 : decode b_M_enter 168 = .ok (.iload_n 2, 1) := by decide +kernel
theorem d_M_enter_169 : decode b_M_enter 169 = .ok (.iastore, 1) := by decide +kernel
theorem d_M_enter_170 : decode b_M_enter 170 = .ok (.aload_n 0, 1) := by decide +kernel
theorem d_M_enter_171 : decode b_M_enter 171 = .ok (.getfield 79, 3) := by decide +kernel
theorem d_M_enter_174 : decode b_M_enter 174 = .ok (.aload_n 0, 1) := by decide +kernel
theorem d_M_enter_175 : decode b_M_enter 175 = .ok (.getfield 189, 3) := by decide +kernel
theorem d_M_enter_178 : decode b_M_enter 178 = .ok (.iconst 0, 1) := by decide +kernel
theorem d_M_enter_179 : decode b_M_enter 179 = .ok (.iastore, 1) := by decide +kernel
theorem d_M_enter_180 : decode b_M_enter 180 = .ok (.aload_n 0, 1) := by decide +kernel
theorem d_M_enter_181 : decode b_M_enter 181 = .ok (.dup, 1) := by decide +kernel
theorem d_M_enter_182 : decode b_M_enter 182 = .ok (.getfield 189, 3) := by decide +kernel
theorem d_M_enter_185 : decode b_M_enter 185 = .ok (.iconst 1, 1) := by decide +kernel
theorem d_M_enter_186 : decode b_M_enter 186 = .ok (.iadd, 1) := by decide +kernel
theorem d_M_enter_187 : decode b_M_enter 187 = .ok (.putfield 189, 3) := by decide +kernel
theorem d_M_enter_190 : decode b_M_enter 190 = .ok (.return_, 1) := by decide +kernel
theorem d_M_elements_0 : decode b_M_elements 0 = .ok (.iload_n 2, 1) := by decide +kernel
theorem d_M_elements_1 : decode b_M_elements 1 = .ok (.iconst 4, 1) := by decide +kernel
theorem d_M_elements_2 : decode b_M_elements 2 = .ok (.irem, 1) := by decide +kernel
theorem d_M_elements_3 : decode b_M_elements 3 = .ok (.ifCond .ne 13, 3) := by decide +kernel
theorem d_M_elements_6 : decode b_M_elements 6 = .ok (.iload_n 2, 1) := by decide +kernel
theorem d_M_elements_7 : decode b_M_elements 7 = .ok (.iconst 4, 1) := by decide +kernel
theorem d_M_elements_8 : decode b_M_elements 8 = .ok (.iadd, 1) := by decide +kernel
theorem d_M_elements_9 : decode b_M_elements 9 = .ok (.aload_n 0, 1) := by decide +kernel
theorem d_M_elements_10 : decode b_M_elements 10 = .ok (.getfield 164, 3) := by decide +kernel
theorem d_M_elements_13 : decode b_M_elements 13 = .ok (.if_icmp .le 9, 3) := by decide +kernel
theorem d_M_elements_16 : decode b_M_elements 16 = .ok (.aload_n 0, 1) := by decide +kernel
theorem d_M_elements_17 : decode b_M_elements 17 = .ok (.iload_n 1, 1) := by decide +kernel
theorem d_M_elements_18 : decode b_M_elements 18 = .ok (.invokevirtual 192, 3) := by decide +kernel
theorem d_M_elements_21 : decode b_M_elements 21 = .ok (.return_, 1) := by decide +kernel
theorem d_M_elements_22 : decode b_M_elements 22 = .ok (.aload_n 0, 1) := by decide +kernel
theorem d_M_elements_23 : decode b_M_elements 23 = .ok (.iload_n 2, 1) := by decide +kernel
theorem d_M_elements_24 : decode b_M_elements 24 = .ok (.invokevirtual 204, 3) := by decide +kernel
theorem d_M_elements_27 : decode b_M_elements 27 = .ok (.istore 4, 2) := by decide +kernel
theorem d_M_elements_29 : decode b_M_elements 29 = .ok (.iload 4, 2) := by decide +kernel
theorem d_M_elements_31 : decode b_M_elements 31 = .ok (.sipush 200, 3) := by decide +kernel
theorem d_M_elements_34 : decode b_M_elements 34 = .ok (.if_icmp .gt 29, 3) := by decide +kernel
theorem d_M_elements_37 : decode b_M_elements 37 = .ok (.iload_n 2, 1) := by decide +kernel
theorem d_M_elements_38 : decode b_M_elements 38 = .ok (.iconst 4, 1) := by decide +kernel
theorem d_M_elements_39 : decode b_M_elements 39 = .ok (.iadd, 1) := by decide +kernel
theorem d_M_elements_40 : decode b_M_elements 40 = .ok (.iload_n 3, 1) := by decide +kernel
theorem d_M_elements_41 : decode b_M_elements 41 = .ok (.ifCond .eq 10, 3) := by decide +kernel
theorem d_M_elements_44 : decode b_M_elements 44 = .ok (.iload 4, 2) := by decide +kernel
theorem d_M_elements_46 : decode b_M_elements 46 = .ok (.iconst 1, 1) := by decide +kernel
theorem d_M_elements_47 : decode b_M_elements 47 = .ok (.iadd, 1) := by decide +kernel
theorem d_M_elements_48 : decode b_M_elements 48 = .ok (.goto 7, 3) := by decide +kernel
theorem d_M_elements_51 : decode b_M_elements 51 = .ok (.iconst 2, 1) := by decide +kernel
theorem d_M_elements_52 : decode b_M_elements 52 = .ok (.iload 4, 2) := by decide +kernel
theorem d_M_elements_54 : decode b_M_elements 54 = .ok (.imul, 1) := by decide +kernel
theorem d_M_elements_55 : decode b_M_elements 55 = .ok (.iadd, 1) := by decide +kernel
theorem d_M_elements_56 : decode b_M_elements 56 = .ok (.aload_n 0, 1) := by decide +kernel
theorem d_M_elements_57 : decode b_M_elements 57 = .ok (.getfield 164, 3) := by decide +kernel
theorem d_M_elements_60 : decode b_M_elements 60 = .ok (.if_icmp .le 11, 3) := by decide +kernel
theorem d_M_elements_63 : decode b_M_elements 63 = .ok (.aload_n 0, 1) := by decide +kernel
theorem d_M_elements_64 : decode b_M_elements 64 = .ok (.iload_n 1, 1) := by decide +kernel
theorem d_M_elements_65 : decode b_M_elements 65 = .ok (.invokevirtual 192, 3) := by decide +kernel
theorem d_M_elements_68 : decode b_M_elements 68 = .ok (.goto 26, 3) := by decide +kernel
theorem d_M_elements_71 : decode b_M_elements 71 = .ok (.iload_n 3, 1) := by decide +kernel
theorem d_M_elements_72 : decode b_M_elements 72 = .ok (.ifCond .eq 22, 3) := by decide +kernel
theorem d_M_elements_75 : decode b_M_elements 75 = .ok (.aload_n 0, 1) := by decide +kernel
theorem d_M_elements_76 : decode b_M_elements 76 = .ok (.getfield 66, 3) := by decide +kernel
theorem d_M_elements_79 : decode b_M_elements 79 = .ok (.iload_n 2, 1) := by decide +kernel
theorem d_M_elements_80 : decode b_M_elements 80 = .ok (.iconst 4, 1) := by decide +kernel
theorem d_M_elements_81 : decode b_M_elements 81 = .ok (.iadd, 1) := by decide +kernel
theorem d_M_elements_82 : decode b_M_elements 82 = .ok (.iload 4, 2) := by decide +kernel
theorem d_M_elements_84 : decode b_M_elements 84 = .ok (.iadd, 1) := by decide +kernel
theorem d_M_elements_85 : decode b_M_elements 85 = .ok (.iaload, 1) := by decide +kernel
theorem d_M_elements_86 : decode b_M_elements 86 = .ok (.ifCond .eq 8, 3) := by decide +kernel
theorem d_M_elements_89 : decode b_M_elements 89 = .ok (.aload_n 0, 1) := by decide +kernel
theorem d_M_elements_90 : decode b_M_elements 90 = .ok (.iload_n 1, 1) := by decide +kernel
theorem d_M_elements_91 : decode b_M_elements 91 = .ok (.invokevirtual 192, 3) := by decide +kernel
theorem d_M_elements_94 : decode b_M_elements 94 = .ok (.return_, 1) := by decide +kernel
theorem d_M_inspect_0 : decode b_M_inspect 0 = .ok (.aload_n 0, 1) := by decide +kernel
theorem d_M_inspect_1 : decode b_M_inspect 1 = .ok (.iload_n 1, 1) := by decide +kernel
theorem d_M_inspect_2 : decode b_M_inspect 2 = .ok (.invokevirtual 198, 3) := by decide +kernel
theorem d_M_inspect_5 : decode b_M_inspect 5 = .ok (.istore 4, 2) := by decide +kernel
theorem d_M_inspect_7 : decode b_M_inspect 7 = .ok (.aload_n 0, 1) := by decide +kernel
theorem d_M_inspect_8 : decode b_M_inspect 8 = .ok (.iload_n 1, 1) := by decide +kernel
theorem d_M_inspect_9 : decode b_M_inspect 9 = .ok (.iload_n 3, 1) := by decide +kernel
theorem d_M_inspect_10 : decode b_M_inspect 10 = .ok (.invokevirtual 201, 3) := by decide +kernel
theorem d_M_inspect_13 : decode b_M_inspect 13 = .ok (.istore 5, 2) := by decide +kernel
theorem d_M_inspect_15 : decode b_M_inspect 15 = .ok (.aload_n 0, 1) := by decide +kernel
theorem d_M_inspect_16 : decode b_M_inspect 16 = .ok (.getfield 13, 3) := by decide +kernel
theorem d_M_inspect_19 : decode b_M_inspect 19 = .ok (.bipush 6, 2) := by decide +kernel
theorem d_M_inspect_21 : decode b_M_inspect 21 = .ok (.iload_n 2, 1) := by decide +kernel
theorem d_M_inspect_22 : decode b_M_inspect 22 = .ok (.imul, 1) := by decide +kernel
theorem d_M_inspect_23 : decode b_M_inspect 23 = .ok (.iload_n 3, 1) := by decide +kernel
theorem d_M_inspect_24 : decode b_M_inspect 24 = .ok (.iadd, 1) := by decide +kernel
theorem d_M_inspect_25 : decode b_M_inspect 25 = .ok (.iaload, 1) := by decide +kernel
theorem d_M_inspect_26 : decode b_M_inspect 26 = .ok (.istore 6, 2) := by decide +kernel
theorem d_M_inspect_28 : decode b_M_inspect 28 = .ok (.iload 6, 2) := by decide +kernel
theorem d_M_inspect_30 : decode b_M_inspect 30 = .ok (.invokestatic 137, 3) := by decide +kernel
theorem d_M_inspect_33 : decode b_M_inspect 33 = .ok (.istore 7, 2) := by decide +kernel
theorem d_M_inspect_35 : decode b_M_inspect 35 = .ok (.iload 5, 2) := by decide +kernel
theorem d_M_inspect_37 : decode b_M_inspect 37 = .ok (.ifCond .ne 23, 3) := by decide +kernel
theorem d_M_inspect_40 : decode b_M_inspect 40 = .ok (.aload_n 0, 1) := by decide +kernel
theorem d_M_inspect_41 : decode b_M_inspect 41 = .ok (.getfield 19, 3) := by decide +kernel
theorem d_M_inspect_44 : decode b_M_inspect 44 = .ok (.bipush 6, 2) := by decide +kernel
theorem d_M_inspect_46 : decode b_M_inspect 46 = .ok (.iload_n 2, 1) := by decide +kernel
theorem d_M_inspect_47 : decode b_M_inspect 47 = .ok (.imul, 1) := by decide +kernel
theorem d_M_inspect_48 : decode b_M_inspect 48 = .ok (.iload_n 3, 1) := by decide +kernel
theorem d_M_inspect_49 : decode b_M_inspect 49 = .ok (.iadd, 1) := by decide +kernel
theorem d_M_inspect_50 : decode b_M_inspect 50 = .ok (.baload, 1) := by decide +kernel
theorem d_M_inspect_51 : decode b_M_inspect 51 = .ok (.ifCond .eq 8, 3) := by decide +kernel
theorem d_M_inspect_54 : decode b_M_inspect 54 = .ok (.aload_n 0, 1) := by decide +kernel
theorem d_M_inspect_55 : decode b_M_inspect 55 = .ok (.iload_n 1, 1) := by decide +kernel
theorem d_M_inspect_56 : decode b_M_inspect 56 = .ok (.invokevirtual 192, 3) := by decide +kernel
theorem d_M_inspect_59 : decode b_M_inspect 59 = .ok (.return_, 1) := by decide +kernel
theorem d_M_inspect_60 : decode b_M_inspect 60 = .ok (.iload 5, 2) := by decide +kernel
theorem d_M_inspect_62 : decode b_M_inspect 62 = .ok (.iconst 4, 1) := by decide +kernel
theorem d_M_inspect_63 : decode b_M_inspect 63 = .ok (.if_icmp .lt 29, 3) := by decide +kernel
theorem d_M_inspect_66 : decode b_M_inspect 66 = .ok (.iload 5, 2) := by decide +kernel
theorem d_M_inspect_68 : decode b_M_inspect 68 = .ok (.iload 7, 2) := by decide +kernel
theorem d_M_inspect_70 : decode b_M_inspect 70 = .ok (.iadd, 1) := by decide +kernel
theorem d_M_inspect_71 : decode b_M_inspect 71 = .ok (.aload_n 0, 1) := by decide +kernel
theorem d_M_inspect_72 : decode b_M_inspect 72 = .ok (.iload 4, 2) := by decide +kernel
theorem d_M_inspect_74 : decode b_M_inspect 74 = .ok (.iconst 2, 1) := by decide +kernel
theorem d_M_inspect_75 : decode b_M_inspect 75 = .ok (.iadd, 1) := by decide +kernel
theorem d_M_inspect_76 : decode b_M_inspect 76 = .ok (.invokevirtual 167, 3) := by decide +kernel
theorem d_M_inspect_79 : decode b_M_inspect 79 = .ok (.if_icmp .gt 13, 3) := by decide +kernel
theorem d_M_inspect_82 : decode b_M_inspect 82 = .ok (.iload_n 1, 1) := by decide +kernel
theorem d_M_inspect_83 : decode b_M_inspect 83 = .ok (.iload 5, 2) := by decide +kernel
theorem d_M_inspect_85 : decode b_M_inspect 85 = .ok (.iadd, 1) := by decide +kernel
theorem d_M_inspect_86 : decode b_M_inspect 86 = .ok (.iload 7, 2) := by decide +kernel
theorem d_M_inspect_88 : decode b_M_inspect 88 = .ok (.irem, 1) := by decide +kernel
theorem d_M_inspect_89 : decode b_M_inspect 89 = .ok (.ifCond .eq 16, 3) := by decide +kernel
theorem d_M_inspect_92 : decode b_M_inspect 92 = .ok (.aload_n 0, 1) := by decide +kernel
theorem d_M_inspect_93 : decode b_M_inspect 93 = .ok (.iload 4, 2) := by decide +kernel
theorem d_M_inspect_95 : decode b_M_inspect 95 = .ok (.iconst 4, 1) := by decide +kernel
theorem d_M_inspect_96 : decode b_M_inspect 96 = .ok (.iadd, 1) := by decide +kernel
theorem d_M_inspect_97 : decode b_M_inspect 97 = .ok (.iconst 2, 1) := by decide +kernel
theorem d_M_inspect_98 : decode b_M_inspect 98 = .ok (.iload_n 3, 1) := by decide +kernel
theorem d_M_inspect_99 : decode b_M_inspect 99 = .ok (.imul, 1) := by decide +kernel
theorem d_M_inspect_100 : decode b_M_inspect 100 = .ok (.iadd, 1) := by decide +kernel
theorem d_M_inspect_101 : decode b_M_inspect 101 = .ok (.invokevirtual 192, 3) := by decide +kernel
theorem d_M_inspect_104 : decode b_M_inspect 104 = .ok (.return_, 1) := by decide +kernel
theorem d_M_inspect_105 : decode b_M_inspect 105 = .ok (.iload 6, 2) := by decide +kernel
theorem d_M_inspect_107 : decode b_M_inspect 107 = .ok (.bipush 6, 2) := by decide +kernel
theorem d_M_inspect_109 : decode b_M_inspect 109 = .ok (.if_icmp .ne 31, 3) := by decide +kernel
theorem d_M_inspect_112 : decode b_M_inspect 112 = .ok (.aload_n 0, 1) := by decide +kernel
theorem d_M_inspect_113 : decode b_M_inspect 113 = .ok (.aload_n 0, 1) := by decide +kernel
theorem d_M_inspect_114 : decode b_M_inspect 114 = .ok (.iload_n 1, 1) := by decide +kernel
theorem d_M_inspect_115 : decode b_M_inspect 115 = .ok (.iload_n 3, 1) := by decide +kernel
theorem d_M_inspect_116 : decode b_M_inspect 116 = .ok (.invokevirtual 207, 3) := by decide +kernel
theorem d_M_inspect_119 : decode b_M_inspect 119 = .ok (.aload_n 0, 1) := by decide +kernel
theorem d_M_inspect_120 : decode b_M_inspect 120 = .ok (.getfield 16, 3) := by decide +kernel
theorem d_M_inspect_123 : decode b_M_inspect 123 = .ok (.bipush 6, 2) := by decide +kernel
theorem d_M_inspect_125 : decode b_M_inspect 125 = .ok (.iload_n 2, 1) := by decide +kernel
theorem d_M_inspect_126 : decode b_M_inspect 126 = .ok (.imul, 1) := by decide +kernel
theorem d_M_inspect_127 : decode b_M_inspect 127 = .ok (.iload_n 3, 1) := by decide +kernel
theorem d_M_inspect_128 : decode b_M_inspect 128 = .ok (.iadd, 1) := by decide +kernel
theorem d_M_inspect_129 : decode b_M_inspect 129 = .ok (.iaload, 1) := by decide +kernel
theorem d_M_inspect_130 : decode b_M_inspect 130 = .ok (.iload_n 1, 1) := by decide +kernel
theorem d_M_inspect_131 : decode b_M_inspect 131 = .ok (.iload 5, 2) := by decide +kernel
theorem d_M_inspect_133 : decode b_M_inspect 133 = .ok (.iadd, 1) := by decide +kernel
theorem d_M_inspect_134 : decode b_M_inspect 134 = .ok (.invokevirtual 210, 3) := by decide +kernel
theorem d_M_inspect_137 : decode b_M_inspect 137 = .ok (.goto 34, 3) := by decide +kernel
theorem d_M_inspect_140 : decode b_M_inspect 140 = .ok (.iload 6, 2) := by decide +kernel
theorem d_M_inspect_142 : decode b_M_inspect 142 = .ok (.iconst 4, 1) := by decide +kernel
theorem d_M_inspect_143 : decode b_M_inspect 143 = .ok (.if_icmp .lt 28, 3) := by decide +kernel
theorem d_M_inspect_146 : decode b_M_inspect 146 = .ok (.aload_n 0, 1) := by decide +kernel
theorem d_M_inspect_147 : decode b_M_inspect 147 = .ok (.iload_n 1, 1) := by decide +kernel
theorem d_M_inspect_148 : decode b_M_inspect 148 = .ok (.iload 5, 2) := by decide +kernel
theorem d_M_inspect_150 : decode b_M_inspect 150 = .ok (.iadd, 1) := by decide +kernel
theorem d_M_inspect_151 : decode b_M_inspect 151 = .ok (.aload_n 0, 1) := by decide +kernel
theorem d_M_inspect_152 : decode b_M_inspect 152 = .ok (.iload_n 1, 1) := by decide +kernel
theorem d_M_inspect_153 : decode b_M_inspect 153 = .ok (.iload_n 3, 1) := by decide +kernel
theorem d_M_inspect_154 : decode b_M_inspect 154 = .ok (.invokevirtual 207, 3) := by decide +kernel
theorem d_M_inspect_157 : decode b_M_inspect 157 = .ok (.iload 6, 2) := by decide +kernel
theorem d_M_inspect_159 : decode b_M_inspect 159 = .ok (.iconst 4, 1) := by decide +kernel
theorem d_M_inspect_160 : decode b_M_inspect 160 = .ok (.if_icmp .ne 7, 3) := by decide +kernel
theorem d_M_inspect_163 : decode b_M_inspect 163 = .ok (.iconst 1, 1) := by decide +kernel
theorem d_M_inspect_164 : decode b_M_inspect 164 = .ok (.goto 4, 3) := by decide +kernel
theorem d_M_inspect_167 : decode b_M_inspect 167 = .ok (.iconst 0, 1) := by decide +kernel
theorem d_M_inspect_168 : decode b_M_inspect 168 = .ok (.invokevirtual 214, 3) := by decide +kernel
theorem d_M_inspect_171 : decode b_M_inspect 171 = .ok (.return_, 1) := by decide +kernel
theorem d_M_verify_0 : decode b_M_verify 0 = .ok (.aload_n 0, 1) := by decide +kernel
theorem d_M_verify_1 : decode b_M_verify 1 = .ok (.iconst 0, 1) := by decide +kernel
theorem d_M_verify_2 : decode b_M_verify 2 = .ok (.putfield 82, 3) := by decide +kernel
theorem d_M_verify_5 : decode b_M_verify 5 = .ok (.iload_n 1, 1) := by decide +kernel
theorem d_M_verify_6 : decode b_M_verify 6 = .ok (.iconst 3, 1) := by decide +kernel
theorem d_M_verify_7 : decode b_M_verify 7 = .ok (.invokestatic 85, 3) := by decide +kernel
theorem d_M_verify_10 : decode b_M_verify 10 = .ok (.ifCond .eq 9, 3) := by decide +kernel
theorem d_M_verify_13 : decode b_M_verify 13 = .ok (.aload_n 0, 1) := by decide +kernel
theorem d_M_verify_14 : decode b_M_verify 14 = .ok (.iconst 1, 1) := by decide +kernel
theorem d_M_verify_15 : decode b_M_verify 15 = .ok (.invokevirtual 89, 3) := by decide +kernel
theorem d_M_verify_18 : decode b_M_verify 18 = .ok (.ireturn, 1) := by decide +kernel
theorem d_M_verify_19 : decode b_M_verify 19 = .ok (.aload_n 0, 1) := by decide +kernel
theorem d_M_verify_20 : decode b_M_verify 20 = .ok (.iconst (-1), 1) := by decide +kernel
theorem d_M_verify_21 : decode b_M_verify 21 = .ok (.putfield 179, 3) := by decide +kernel
theorem d_M_verify_24 : decode b_M_verify 24 = .ok (.aload_n 0, 1) := by decide +kernel
theorem d_M_verify_25 : decode b_M_verify 25 = .ok (.iconst 0, 1) := by decide +kernel
theorem d_M_verify_26 : decode b_M_verify 26 = .ok (.putfield 186, 3) := by decide +kernel
theorem d_M_verify_29 : decode b_M_verify 29 = .ok (.aload_n 0, 1) := by decide +kernel
theorem d_M_verify_30 : decode b_M_verify 30 = .ok (.iconst 0, 1) := by decide +kernel
theorem d_M_verify_31 : decode b_M_verify 31 = .ok (.putfield 189, 3) := by decide +kernel
theorem d_M_verify_34 : decode b_M_verify 34 = .ok (.aload_n 0, 1) := by decide +kernel
theorem d_M_verify_35 : decode b_M_verify 35 = .ok (.iconst 0, 1) := by decide +kernel
theorem d_M_verify_36 : decode b_M_verify 36 = .ok (.putfield 93, 3) := by decide +kernel
theorem d_M_verify_39 : decode b_M_verify 39 = .ok (.aload_n 0, 1) := by decide +kernel
theorem d_M_verify_40 : decode b_M_verify 40 = .ok (.getfield 164, 3) := by decide +kernel
theorem d_M_verify_43 : decode b_M_verify 43 = .ok (.iconst 4, 1) := by decide +kernel
theorem d_M_verify_44 : decode b_M_verify 44 = .ok (.if_icmp .ge 11, 3) := by decide +kernel
theorem d_M_verify_47 : decode b_M_verify 47 = .ok (.aload_n 0, 1) := by decide +kernel
theorem d_M_verify_48 : decode b_M_verify 48 = .ok (.iconst 0, 1) := by decide +kernel
theorem d_M_verify_49 : decode b_M_verify 49 = .ok (.invokevirtual 192, 3) := by decide +kernel
theorem d_M_verify_52 : decode b_M_verify 52 = .ok (.goto 14, 3) := by decide +kernel
theorem d_M_verify_55 : decode b_M_verify 55 = .ok (.aload_n 0, 1) := by decide +kernel
theorem d_M_verify_56 : decode b_M_verify 56 = .ok (.aload_n 0, 1) := by decide +kernel
theorem d_M_verify_57 : decode b_M_verify 57 = .ok (.iconst 0, 1) := by decide +kernel
theorem d_M_verify_58 : decode b_M_verify 58 = .ok (.invokevirtual 204, 3) := by decide +kernel
theorem d_M_verify_61 : decode b_M_verify 61 = .ok (.iload_n 1, 1) := by decide +kernel
theorem d_M_verify_62 : decode b_M_verify 62 = .ok (.iconst 0, 1) := by decide +kernel
theorem d_M_verify_63 : decode b_M_verify 63 = .ok (.invokevirtual 210, 3) := by decide +kernel
theorem d_M_verify_66 : decode b_M_verify 66 = .ok (.aload_n 0, 1) := by decide +kernel
theorem d_M_verify_67 : decode b_M_verify 67 = .ok (.getfield 189, 3) := by decide +kernel
theorem d_M_verify_70 : decode b_M_verify 70 = .ok (.ifCond .le 87, 3) := by decide +kernel
theorem d_M_verify_73 : decode b_M_verify 73 = .ok (.aload_n 0, 1) := by decide +kernel
theorem d_M_verify_74 : decode b_M_verify 74 = .ok (.getfield 179, 3) := by decide +kernel
theorem d_M_verify_77 : decode b_M_verify 77 = .ok (.ifCond .ge 80, 3) := by decide +kernel
theorem d_M_verify_80 : decode b_M_verify 80 = .ok (.aload_n 0, 1) := by decide +kernel
theorem d_M_verify_81 : decode b_M_verify 81 = .ok (.getfield 189, 3) := by decide +kernel
theorem d_M_verify_84 : decode b_M_verify 84 = .ok (.iconst 1, 1) := by decide +kernel
theorem d_M_verify_85 : decode b_M_verify 85 = .ok (.isub, 1) := by decide +kernel
theorem d_M_verify_86 : decode b_M_verify 86 = .ok (.istore_n 2, 1) := by decide +kernel
theorem d_M_verify_87 : decode b_M_verify 87 = .ok (.aload_n 0, 1) := by decide +kernel
theorem d_M_verify_88 : decode b_M_verify 88 = .ok (.getfield 79, 3) := by decide +kernel
theorem d_M_verify_91 : decode b_M_verify 91 = .ok (.iload_n 2, 1) := by decide +kernel
theorem d_M_verify_92 : decode b_M_verify 92 = .ok (.iaload, 1) := by decide +kernel
theorem d_M_verify_93 : decode b_M_verify 93 = .ok (.aload_n 0, 1) := by decide +kernel
theorem d_M_verify_94 : decode b_M_verify 94 = .ok (.getfield 7, 3) := by decide +kernel
theorem d_M_verify_97 : decode b_M_verify 97 = .ok (.aload_n 0, 1) := by decide +kernel
theorem d_M_verify_98 : decode b_M_verify 98 = .ok (.getfield 76, 3) := by decide +kernel
theorem d_M_verify_101 : decode b_M_verify 101 = .ok (.iload_n 2, 1) := by decide +kernel
theorem d_M_verify_102 : decode b_M_verify 102 = .ok (.iaload, 1) := by decide +kernel
theorem d_M_verify_103 : decode b_M_verify 103 = .ok (.iaload, 1) := by decide +kernel
theorem d_M_verify_104 : decode b_M_verify 104 = .ok (.if_icmp .ne 16, 3) := by decide +kernel
theorem d_M_verify_107 : decode b_M_verify 107 = .ok (.aload_n 0, 1) := by decide +kernel
theorem d_M_verify_108 : decode b_M_verify 108 = .ok (.dup, 1) := by decide +kernel
theorem d_M_verify_109 : decode b_M_verify 109 = .ok (.getfield 189, 3) := by decide +kernel
theorem d_M_verify_112 : decode b_M_verify 112 = .ok (.iconst 1, 1) := by decide +kernel
theorem d_M_verify_113 : decode b_M_verify 113 = .ok (.isub, 1) := by decide +kernel
theorem d_M_verify_114 : decode b_M_verify 114 = .ok (.putfield 189, 3) := by decide +kernel
theorem d_M_verify_117 : decode b_M_verify 117 = .ok (.goto (-51), 3) := by decide +kernel
theorem d_M_verify_120 : decode b_M_verify 120 = .ok (.aload_n 0, 1) := by decide +kernel
theorem d_M_verify_121 : decode b_M_verify 121 = .ok (.getfield 79, 3) := by decide +kernel
theorem d_M_verify_124 : decode b_M_verify 124 = .ok (.iload_n 2, 1) := by decide +kernel
theorem d_M_verify_125 : decode b_M_verify 125 = .ok (.dup2, 1) := by decide +kernel
theorem d_M_verify_126 : decode b_M_verify 126 = .ok (.iaload, 1) := by decide +kernel
theorem d_M_verify_127 : decode b_M_verify 127 = .ok (.iconst 1, 1) := by decide +kernel
theorem d_M_verify_128 : decode b_M_verify 128 = .ok (.iadd, 1) := by decide +kernel
theorem d_M_verify_129 : decode b_M_verify 129 = .ok (.iastore, 1) := by decide +kernel
theorem d_M_verify_130 : decode b_M_verify 130 = .ok (.aload_n 0, 1) := by decide +kernel
theorem d_M_verify_131 : decode b_M_verify 131 = .ok (.aload_n 0, 1) := by decide +kernel
theorem d_M_verify_132 : decode b_M_verify 132 = .ok (.getfield 73, 3) := by decide +kernel
theorem d_M_verify_135 : decode b_M_verify 135 = .ok (.iload_n 2, 1) := by decide +kernel
theorem d_M_verify_136 : decode b_M_verify 136 = .ok (.iaload, 1) := by decide +kernel
theorem d_M_verify_137 : decode b_M_verify 137 = .ok (.aload_n 0, 1) := by decide +kernel
theorem d_M_verify_138 : decode b_M_verify 138 = .ok (.getfield 76, 3) := by decide +kernel
theorem d_M_verify_141 : decode b_M_verify 141 = .ok (.iload_n 2, 1) := by decide +kernel
theorem d_M_verify_142 : decode b_M_verify 142 = .ok (.iaload, 1) := by decide +kernel
theorem d_M_verify_143 : decode b_M_verify 143 = .ok (.aload_n 0, 1) := by decide +kernel
theorem d_M_verify_144 : decode b_M_verify 144 = .ok (.getfield 79, 3) := by decide +kernel
theorem d_M_verify_147 : decode b_M_verify 147 = .ok (.iload_n 2, 1) := by decide +kernel
theorem d_M_verify_148 : decode b_M_verify 148 = .ok (.iaload, 1) := by decide +kernel
theorem d_M_verify_149 : decode b_M_verify 149 = .ok (.iconst 1, 1) := by decide +kernel
theorem d_M_verify_150 : decode b_M_verify 150 = .ok (.isub, 1) := by decide +kernel
theorem d_M_verify_151 : decode b_M_verify 151 = .ok (.invokevirtual 218, 3) := by decide +kernel
theorem d_M_verify_154 : decode b_M_verify 154 = .ok (.goto (-88), 3) := by decide +kernel
theorem d_M_verify_157 : decode b_M_verify 157 = .ok (.aload_n 0, 1) := by decide +kernel
theorem d_M_verify_158 : decode b_M_verify 158 = .ok (.aload_n 0, 1) := by decide +kernel
theorem d_M_verify_159 : decode b_M_verify 159 = .ok (.getfield 179, 3) := by decide +kernel
theorem d_M_verify_162 : decode b_M_verify 162 = .ok (.putfield 69, 3) := by decide +kernel
theorem d_M_verify_165 : decode b_M_verify 165 = .ok (.aload_n 0, 1) := by decide +kernel
theorem d_M_verify_166 : decode b_M_verify 166 = .ok (.getfield 179, 3) := by decide +kernel
theorem d_M_verify_169 : decode b_M_verify 169 = .ok (.ifCond .lt 9, 3) := by decide +kernel
theorem d_M_verify_172 : decode b_M_verify 172 = .ok (.aload_n 0, 1) := by decide +kernel
theorem d_M_verify_173 : decode b_M_verify 173 = .ok (.iconst 1, 1) := by decide +kernel
theorem d_M_verify_174 : decode b_M_verify 174 = .ok (.invokevirtual 89, 3) := by decide +kernel
theorem d_M_verify_177 : decode b_M_verify 177 = .ok (.ireturn, 1) := by decide +kernel
theorem d_M_verify_178 : decode b_M_verify 178 = .ok (.aload_n 0, 1) := by decide +kernel
theorem d_M_verify_179 : decode b_M_verify 179 = .ok (.iconst 1, 1) := by decide +kernel
theorem d_M_verify_180 : decode b_M_verify 180 = .ok (.putfield 93, 3) := by decide +kernel
theorem d_M_verify_183 : decode b_M_verify 183 = .ok (.aload_n 0, 1) := by decide +kernel
theorem d_M_verify_184 : decode b_M_verify 184 = .ok (.aload_n 0, 1) := by decide +kernel
theorem d_M_verify_185 : decode b_M_verify 185 = .ok (.iconst 0, 1) := by decide +kernel
theorem d_M_verify_186 : decode b_M_verify 186 = .ok (.invokevirtual 204, 3) := by decide +kernel
theorem d_M_verify_189 : decode b_M_verify 189 = .ok (.putfield 221, 3) := by decide +kernel
theorem d_M_verify_192 : decode b_M_verify 192 = .ok (.aload_n 0, 1) := by decide +kernel
theorem d_M_verify_193 : decode b_M_verify 193 = .ok (.iload_n 1, 1) := by decide +kernel
theorem d_M_verify_194 : decode b_M_verify 194 = .ok (.putfield 224, 3) := by decide +kernel
theorem d_M_verify_197 : decode b_M_verify 197 = .ok (.aload_n 0, 1) := by decide +kernel
theorem d_M_verify_198 : decode b_M_verify 198 = .ok (.aload_n 0, 1) := by decide +kernel
theorem d_M_verify_199 : decode b_M_verify 199 = .ok (.getfield 221, 3) := by decide +kernel
theorem d_M_verify_202 : decode b_M_verify 202 = .ok (.putfield 227, 3) := by decide +kernel
theorem d_M_verify_205 : decode b_M_verify 205 = .ok (.aload_n 0, 1) := by decide +kernel
theorem d_M_verify_206 : decode b_M_verify 206 = .ok (.iload_n 1, 1) := by decide +kernel
theorem d_M_verify_207 : decode b_M_verify 207 = .ok (.putfield 230, 3) := by decide +kernel
theorem d_M_verify_210 : decode b_M_verify 210 = .ok (.aload_n 0, 1) := by decide +kernel
theorem d_M_verify_211 : decode b_M_verify 211 = .ok (.getfield 186, 3) := by decide +kernel
theorem d_M_verify_214 : decode b_M_verify 214 = .ok (.ireturn, 1) := by decide +kernel
theorem m_M_enter : kIV y_M_enter b_M_enter 6 none 3 := ⟨⟨wd_cd04f299, wd_5cde94ae, ⟨by decide, by decide⟩, by decide +kernel⟩, wd_e347da80, wd_0f55a933⟩
theorem m_M_elements : kIV y_M_elements b_M_elements 5 none 3 := ⟨⟨wd_1769408e, wd_5cde94ae, ⟨by decide, by decide⟩, by decide +kernel⟩, wd_06fad6d5, wd_21c10d4c⟩
theorem m_M_inspect : kIV y_M_inspect b_M_inspect 8 none 3 := ⟨⟨wd_36b6e4f7, wd_5cde94ae, ⟨by decide, by decide⟩, by decide +kernel⟩, wd_4e1653fd, wd_315e33af⟩
theorem m_M_verify : kIV y_M_verify b_M_verify 3 (some .int) 1 := ⟨⟨wd_cb812034, wd_5cde94ae, ⟨by decide, by decide⟩, by decide +kernel⟩, wd_390b9911, wd_57ff318c⟩
set_option maxHeartbeats 4000000 in
set_option maxRecDepth 100000 in
theorem m_enter (l : Launch) (D : va_G) (am : Nat → Nat) (gm : Nat → ClassId) (tw : Nat) (sLen sKind : Nat → Nat) (sExt : Nat → Int32) (sMust : Nat → Bool) (rTab : Nat → Nat) (rFil : Nat → Bool) (mNum : Nat → Int64) (rLen : Nat → Nat) (rItm : Nat → Int32) (made : Nat) (pItm : Nat → Int32) (held : Nat) (dByt : Nat → Nat) (dLen : Nat) (ver : Bool) (fAdr fTab adr tab : Nat) (lf : Int32) (mCode : Nat) (row : Nat → Nat) (mWr mWid : Nat) (mOv : Bool) (mPl mTh mSp mPile mNext mSh : Nat → Nat) (mShs : Nat) (mRea : Nat → Bool) (mWg : Int32) (mEn mDp : Nat) (mAt mTb mSt : Nat → Nat) (x : Nat) (t : Nat) (to : Nat)  (hx0 : x < 1000000) (ht : t < 4) (hto : to < 2 ^ 31) (hen : mEn ≤ 16) (hdp : mDp ≤ 6) (hB : ∀ k, dByt k < 256) (hd : dLen ≤ 240) : kM l y_M_enter b_M_enter 6 none ({ frames := 3, cells := 0, slots := 0, locals := 65 }) D vwCl (WmT gm) tw [.ref (am 0), .int (nI x), .int (nI t), .int (nI to)] (Wm am gm sLen sKind sExt sMust rTab rFil mNum rLen rItm made pItm held dByt dLen ver fAdr fTab adr tab lf mCode row mWr mWid mOv mPl mTh mSp mPile mNext mSh mShs mRea mWg mEn mDp mAt mTb mSt) none (Wm am gm sLen sKind sExt sMust rTab rFil mNum rLen rItm made pItm held dByt dLen ver fAdr fTab adr tab lf mCode row mWr mWid mOv mPl mTh mSp mPile mNext mSh mShs mRea ((enV dByt dLen (MV.mk mWg mEn mDp mAt mTb mSt) x t to).wg) ((enV dByt dLen (MV.mk mWg mEn mDp mAt mTb mSt) x t to).en) ((enV dByt dLen (MV.mk mWg mEn mDp mAt mTb mSt) x t to).dp) ((enV dByt dLen (MV.mk mWg mEn mDp mAt mTb mSt) x t to).fa) ((enV dByt dLen (MV.mk mWg mEn mDp mAt mTb mSt) x t to).ft) ((enV dByt dLen (MV.mk mWg mEn mDp mAt mTb mSt) x t to).fs)) := by
  refine k_of (by decide) (Nat.le_of_ble_eq_true rfl) ?_
  intro p e s m below meth c A ls hx hb hr hlocks hml hts hown hin0 hA hP hK hD hS hZ hl
  have hl : lv_has ls 6 [(0, .ref (am 0)), (1, .int (nI x)), (2, .int (nI t)), (3, .int (nI to))] := hl
  refine lv_iload_n hx hb d_M_enter_0 rfl (lv_at hl 1 rfl) ?_
  refine lv_iconst (v := nI 4) hx hb d_M_enter_1 (by decide) ?_
  refine lv_irem hx hb d_M_enter_2 (nI_ne0 (by omega) (by omega)) ?_
  refine lv_eqi (pk_rem (by omega) (by omega) (by omega)) ?_
  refine lv_if_ne (tgt := 34) hx hb d_M_enter_3 (by decide) (fun c_3 => ?_) (fun c_3 => ?_)
  · skip
    have c_3 := mt (z_eq (by omega)).mpr c_3
    refine lv_aload_n hx hb d_M_enter_34 rfl (lv_at hl 0 rfl) ?_
    refine lv_iload_n hx hb d_M_enter_35 rfl (lv_at hl 3 rfl) ?_
    refine k_callV (m_fail l D am gm tw sLen sKind sExt sMust rTab rFil mNum rLen rItm made pItm held dByt dLen ver fAdr fTab adr tab lf mCode row mWr mWid mOv mPl mTh mSp mPile mNext mSh mShs mRea mWg mEn mDp mAt mTb mSt (nI to)  ) m_M_fail wd_38303c4f 0 8 rfl rfl rfl kT hx hb hml hown hts ⟨Nat.le_of_ble_eq_true rfl, Nat.le_of_ble_eq_true rfl⟩ ⟨Nat.le_of_ble_eq_true rfl, Nat.le_of_ble_eq_true rfl⟩ hK hP hD hS hA hZ hl.1 rfl rfl (Nat.le_of_ble_eq_true rfl) d_M_enter_36 (fun H locs hP hD hS => ?_)
    have hP : va_P D vwCl (Wm am gm sLen sKind sExt sMust rTab rFil mNum rLen rItm made pItm held dByt dLen ver fAdr fTab adr tab lf mCode row mWr mWid mOv mPl mTh mSp mPile mNext mSh mShs mRea (if mWg < 0 then (nI to) else mWg) mEn mDp mAt mTb mSt) H := hP
    have hD : va_D A (Wm am gm sLen sKind sExt sMust rTab rFil mNum rLen rItm made pItm held dByt dLen ver fAdr fTab adr tab lf mCode row mWr mWid mOv mPl mTh mSp mPile mNext mSh mShs mRea (if mWg < 0 then (nI to) else mWg) mEn mDp mAt mTb mSt) := hD
    refine W.eq (g2 := F0 m 39 ls []) rfl ?_
    have hv : enV dByt dLen (MV.mk mWg mEn mDp mAt mTb mSt) x t to = (MV.mk mWg mEn mDp mAt mTb mSt).fl (nI to) := by rw [enV, if_pos (by show _ ∨ _ ∨ mEn = 16 ∨ mDp = 6; omega)]
    exact k_vret hx hb hr hlocks hK hP hD hS (trivial) (by rw [hv]; first | done | rfl) d_M_enter_39
  · skip
    have c_3 := (z_eq (by omega)).mp c_3
    refine lv_iload_n hx hb d_M_enter_6 rfl (lv_at hl 1 rfl) ?_
    refine lv_iconst (v := nI 4) hx hb d_M_enter_7 (by decide) ?_
    refine lv_iadd hx hb d_M_enter_8 ?_
    refine lv_eqi (nI_add _ _) ?_
    refine lv_aload_n hx hb d_M_enter_9 rfl (lv_at hl 0 rfl) ?_
    refine va_get (D := D) (ci := 8) (C := R_M) (T := T_M) (N := 39) hx hb hts (fun w h => kT w (i_M w h)) hown hK hP 0 rfl rfl 26 (by decide) (hts _ (kT _ wd_3139de6a)) (fun _ h9 => h9) rfl d_M_enter_10 ?_
    refine lv_icmp_gt (tgt := 34) hx hb d_M_enter_13 (by decide) (fun c_13 => ?_) (fun c_13 => ?_)
    · skip
      have c_13 := (nI_ltI (by omega) (by omega)).mp c_13
      refine lv_aload_n hx hb d_M_enter_34 rfl (lv_at hl 0 rfl) ?_
      refine lv_iload_n hx hb d_M_enter_35 rfl (lv_at hl 3 rfl) ?_
      refine k_callV (m_fail l D am gm tw sLen sKind sExt sMust rTab rFil mNum rLen rItm made pItm held dByt dLen ver fAdr fTab adr tab lf mCode row mWr mWid mOv mPl mTh mSp mPile mNext mSh mShs mRea mWg mEn mDp mAt mTb mSt (nI to)  ) m_M_fail wd_38303c4f 0 8 rfl rfl rfl kT hx hb hml hown hts ⟨Nat.le_of_ble_eq_true rfl, Nat.le_of_ble_eq_true rfl⟩ ⟨Nat.le_of_ble_eq_true rfl, Nat.le_of_ble_eq_true rfl⟩ hK hP hD hS hA hZ hl.1 rfl rfl (Nat.le_of_ble_eq_true rfl) d_M_enter_36 (fun H locs hP hD hS => ?_)
      have hP : va_P D vwCl (Wm am gm sLen sKind sExt sMust rTab rFil mNum rLen rItm made pItm held dByt dLen ver fAdr fTab adr tab lf mCode row mWr mWid mOv mPl mTh mSp mPile mNext mSh mShs mRea (if mWg < 0 then (nI to) else mWg) mEn mDp mAt mTb mSt) H := hP
      have hD : va_D A (Wm am gm sLen sKind sExt sMust rTab rFil mNum rLen rItm made pItm held dByt dLen ver fAdr fTab adr tab lf mCode row mWr mWid mOv mPl mTh mSp mPile mNext mSh mShs mRea (if mWg < 0 then (nI to) else mWg) mEn mDp mAt mTb mSt) := hD
      refine W.eq (g2 := F0 m 39 ls []) rfl ?_
      have hv : enV dByt dLen (MV.mk mWg mEn mDp mAt mTb mSt) x t to = (MV.mk mWg mEn mDp mAt mTb mSt).fl (nI to) := by rw [enV, if_pos (by show _ ∨ _ ∨ mEn = 16 ∨ mDp = 6; omega)]
      exact k_vret hx hb hr hlocks hK hP hD hS (trivial) (by rw [hv]; first | done | rfl) d_M_enter_39
    · skip
      have c_13 := mt (nI_ltI (by omega) (by omega)).mpr c_13
      refine lv_aload_n hx hb d_M_enter_16 rfl (lv_at hl 0 rfl) ?_
      refine va_get (D := D) (ci := 8) (C := R_M) (T := T_M) (N := 39) hx hb hts (fun w h => kT w (i_M w h)) hown hK hP 0 rfl rfl 34 (by decide) (hts _ (kT _ wd_1759d07d)) (fun _ h9 => h9) rfl d_M_enter_17 ?_
      refine lv_bipush (v := nI 16) hx hb d_M_enter_20 (by decide) ?_
      refine lv_icmp_eq (tgt := 34) hx hb d_M_enter_22 (by decide) (fun c_22 => ?_) (fun c_22 => ?_)
      · skip
        have c_22 := (nI_eq (by omega) (by omega)).mp c_22
        refine lv_aload_n hx hb d_M_enter_34 rfl (lv_at hl 0 rfl) ?_
        refine lv_iload_n hx hb d_M_enter_35 rfl (lv_at hl 3 rfl) ?_
        refine k_callV (m_fail l D am gm tw sLen sKind sExt sMust rTab rFil mNum rLen rItm made pItm held dByt dLen ver fAdr fTab adr tab lf mCode row mWr mWid mOv mPl mTh mSp mPile mNext mSh mShs mRea mWg mEn mDp mAt mTb mSt (nI to)  ) m_M_fail wd_38303c4f 0 8 rfl rfl rfl kT hx hb hml hown hts ⟨Nat.le_of_ble_eq_true rfl, Nat.le_of_ble_eq_true rfl⟩ ⟨Nat.le_of_ble_eq_true rfl, Nat.le_of_ble_eq_true rfl⟩ hK hP hD hS hA hZ hl.1 rfl rfl (Nat.le_of_ble_eq_true rfl) d_M_enter_36 (fun H locs hP hD hS => ?_)
        have hP : va_P D vwCl (Wm am gm sLen sKind sExt sMust rTab rFil mNum rLen rItm made pItm held dByt dLen ver fAdr fTab adr tab lf mCode row mWr mWid mOv mPl mTh mSp mPile mNext mSh mShs mRea (if mWg < 0 then (nI to) else mWg) mEn mDp mAt mTb mSt) H := hP
        have hD : va_D A (Wm am gm sLen sKind sExt sMust rTab rFil mNum rLen rItm made pItm held dByt dLen ver fAdr fTab adr tab lf mCode row mWr mWid mOv mPl mTh mSp mPile mNext mSh mShs mRea (if mWg < 0 then (nI to) else mWg) mEn mDp mAt mTb mSt) := hD
        refine W.eq (g2 := F0 m 39 ls []) rfl ?_
        have hv : enV dByt dLen (MV.mk mWg mEn mDp mAt mTb mSt) x t to = (MV.mk mWg mEn mDp mAt mTb mSt).fl (nI to) := by rw [enV, if_pos (by show _ ∨ _ ∨ mEn = 16 ∨ mDp = 6; omega)]
        exact k_vret hx hb hr hlocks hK hP hD hS (trivial) (by rw [hv]; first | done | rfl) d_M_enter_39
      · skip
        have c_22 := mt (nI_eq (by omega) (by omega)).mpr c_22
        refine lv_aload_n hx hb d_M_enter_25 rfl (lv_at hl 0 rfl) ?_
        refine va_get (D := D) (ci := 8) (C := R_M) (T := T_M) (N := 39) hx hb hts (fun w h => kT w (i_M w h)) hown hK hP 0 rfl rfl 35 (by decide) (hts _ (kT _ wd_8f75c4b2)) (fun _ h9 => h9) rfl d_M_enter_26 ?_
        refine lv_bipush (v := nI 6) hx hb d_M_enter_29 (by decide) ?_
        refine lv_icmp_ne (tgt := 40) hx hb d_M_enter_31 (by decide) (fun c_31 => ?_) (fun c_31 => ?_)
        · skip
          have c_31 := mt (nI_eq (by omega) (by omega)).mpr c_31
          refine lv_aload_n hx hb d_M_enter_40 rfl (lv_at hl 0 rfl) ?_
          refine lv_dup hx hb d_M_enter_41 rfl ?_
          refine va_get (D := D) (ci := 8) (C := R_M) (T := T_M) (N := 39) hx hb hts (fun w h => kT w (i_M w h)) hown hK hP 0 rfl rfl 34 (by decide) (hts _ (kT _ wd_1759d07d)) (fun _ h9 => h9) rfl d_M_enter_42 ?_
          refine lv_iconst (v := nI 1) hx hb d_M_enter_45 (by decide) ?_
          refine lv_iadd hx hb d_M_enter_46 ?_
          refine lv_eqi (nI_add _ _) ?_
          refine va_put (D := D) (ci := 8) (ty := .int) (C := R_M) (T := T_M) (N := 39) hx hb hts (fun w h => kT w (i_M w h)) ty_M tyk_M nm_M hown hK hP hD hS 0 rfl rfl 34 (by decide) (hts _ (kT _ wd_1759d07d)) (fun _ h9 => h9) rfl (by decide +kernel) rfl rfl (Nat.le_of_ble_eq_true rfl) d_M_enter_47 (fun H locs hP hD hS => ?_)
          have hP : va_P D vwCl (Wm am gm sLen sKind sExt sMust rTab rFil mNum rLen rItm made pItm held dByt dLen ver fAdr fTab adr tab lf mCode row mWr mWid mOv mPl mTh mSp mPile mNext mSh mShs mRea mWg (mEn + 1) mDp mAt mTb mSt) H := hP
          have hD : va_D A (Wm am gm sLen sKind sExt sMust rTab rFil mNum rLen rItm made pItm held dByt dLen ver fAdr fTab adr tab lf mCode row mWr mWid mOv mPl mTh mSp mPile mNext mSh mShs mRea mWg (mEn + 1) mDp mAt mTb mSt) := hD
          refine lv_aload_n hx hb d_M_enter_50 rfl (lv_at hl 0 rfl) ?_
          refine lv_iload_n hx hb d_M_enter_51 rfl (lv_at hl 1 rfl) ?_
          refine k_callV (m_badV l D am gm tw sLen sKind sExt sMust rTab rFil mNum rLen rItm made pItm held dByt dLen ver fAdr fTab adr tab lf mCode row mWr mWid mOv mPl mTh mSp mPile mNext mSh mShs mRea mWg (mEn + 1) mDp mAt mTb mSt x  (by omega) hB hd) m_M_badV wd_5beb78c7 0 8 rfl rfl rfl kT hx hb hml hown hts ⟨Nat.le_of_ble_eq_true rfl, Nat.le_of_ble_eq_true rfl⟩ ⟨Nat.le_of_ble_eq_true rfl, Nat.le_of_ble_eq_true rfl⟩ hK hP hD hS hA hZ hl.1 rfl rfl (Nat.le_of_ble_eq_true rfl) d_M_enter_52 (fun H locs hP hD hS => ?_)
          have hP : va_P D vwCl (Wm am gm sLen sKind sExt sMust rTab rFil mNum rLen rItm made pItm held dByt dLen ver fAdr fTab adr tab lf mCode row mWr mWid mOv mPl mTh mSp mPile mNext mSh mShs mRea mWg (mEn + 1) mDp mAt mTb mSt) H := hP
          have hD : va_D A (Wm am gm sLen sKind sExt sMust rTab rFil mNum rLen rItm made pItm held dByt dLen ver fAdr fTab adr tab lf mCode row mWr mWid mOv mPl mTh mSp mPile mNext mSh mShs mRea mWg (mEn + 1) mDp mAt mTb mSt) := hD
          refine W.eq (g2 := F0 m 55 ls [.int (bI (bdV dByt dLen x))]) rfl ?_
          refine lv_if_eq (tgt := 64) hx hb d_M_enter_55 (by decide) (fun c_55 => ?_) (fun c_55 => ?_)
          · skip
            have c_55 := (bI_0).mp c_55
            refine lv_aload_n hx hb d_M_enter_64 rfl (lv_at hl 0 rfl) ?_
            refine lv_iload_n hx hb d_M_enter_65 rfl (lv_at hl 1 rfl) ?_
            refine k_callV (m_tableAt l D am gm tw sLen sKind sExt sMust rTab rFil mNum rLen rItm made pItm held dByt dLen ver fAdr fTab adr tab lf mCode row mWr mWid mOv mPl mTh mSp mPile mNext mSh mShs mRea mWg (mEn + 1) mDp mAt mTb mSt x  (by omega) hB hd) m_M_tableAt wd_4533cc18 0 8 rfl rfl rfl kT hx hb hml hown hts ⟨Nat.le_of_ble_eq_true rfl, Nat.le_of_ble_eq_true rfl⟩ ⟨Nat.le_of_ble_eq_true rfl, Nat.le_of_ble_eq_true rfl⟩ hK hP hD hS hA hZ hl.1 rfl rfl (Nat.le_of_ble_eq_true rfl) d_M_enter_66 (fun H locs hP hD hS => ?_)
            have hP : va_P D vwCl (Wm am gm sLen sKind sExt sMust rTab rFil mNum rLen rItm made pItm held dByt dLen ver fAdr fTab adr tab lf mCode row mWr mWid mOv mPl mTh mSp mPile mNext mSh mShs mRea mWg (mEn + 1) mDp mAt mTb mSt) H := hP
            have hD : va_D A (Wm am gm sLen sKind sExt sMust rTab rFil mNum rLen rItm made pItm held dByt dLen ver fAdr fTab adr tab lf mCode row mWr mWid mOv mPl mTh mSp mPile mNext mSh mShs mRea mWg (mEn + 1) mDp mAt mTb mSt) := hD
            refine W.eq (g2 := F0 m 69 ls [.int (vOf dByt dLen x)]) rfl ?_
            obtain ⟨hvo, hv4⟩ := vO_ok hB (by omega) hd c_55
            have hl2 : leN dByt dLen (nI (vN dByt dLen x)) 2 < 65536 := leN_lt hB 2
            have hl3 : leN dByt dLen (nI (vN dByt dLen x + 2)) 2 < 65536 := leN_lt hB 2
            refine lv_eqi hvo ?_
            refine lv_istore (lv' := [(4, .int (nI (vN dByt dLen x))), (0, .ref (am 0)), (1, .int (nI x)), (2, .int (nI t)), (3, .int (nI to))]) hx hb d_M_enter_69 hl (by decide) rfl (fun ls hl => ?_)
            refine lv_aload_n hx hb d_M_enter_71 rfl (lv_at hl 1 rfl) ?_
            refine lv_iload hx hb d_M_enter_72 (lv_at hl 0 rfl) ?_
            refine k_callV (m_two l D am gm tw sLen sKind sExt sMust rTab rFil mNum rLen rItm made pItm held dByt dLen ver fAdr fTab adr tab lf mCode row mWr mWid mOv mPl mTh mSp mPile mNext mSh mShs mRea mWg (mEn + 1) mDp mAt mTb mSt (vN dByt dLen x)  (by omega) hB hd) m_M_two wd_f4633fa4 0 8 rfl rfl rfl kT hx hb hml hown hts ⟨Nat.le_of_ble_eq_true rfl, Nat.le_of_ble_eq_true rfl⟩ ⟨Nat.le_of_ble_eq_true rfl, Nat.le_of_ble_eq_true rfl⟩ hK hP hD hS hA hZ hl.1 rfl rfl (Nat.le_of_ble_eq_true rfl) d_M_enter_74 (fun H locs hP hD hS => ?_)
            have hP : va_P D vwCl (Wm am gm sLen sKind sExt sMust rTab rFil mNum rLen rItm made pItm held dByt dLen ver fAdr fTab adr tab lf mCode row mWr mWid mOv mPl mTh mSp mPile mNext mSh mShs mRea mWg (mEn + 1) mDp mAt mTb mSt) H := hP
            have hD : va_D A (Wm am gm sLen sKind sExt sMust rTab rFil mNum rLen rItm made pItm held dByt dLen ver fAdr fTab adr tab lf mCode row mWr mWid mOv mPl mTh mSp mPile mNext mSh mShs mRea mWg (mEn + 1) mDp mAt mTb mSt) := hD
            refine W.eq (g2 := F0 m 77 ls [.int (nI (leN dByt dLen (nI (vN dByt dLen x)) 2))]) rfl ?_
            refine lv_istore (lv' := [(5, .int (nI (leN dByt dLen (nI (vN dByt dLen x)) 2))), (4, .int (nI (vN dByt dLen x))), (0, .ref (am 0)), (1, .int (nI x)), (2, .int (nI t)), (3, .int (nI to))]) hx hb d_M_enter_77 hl (by decide) rfl (fun ls hl => ?_)
            refine lv_iload hx hb d_M_enter_79 (lv_at hl 0 rfl) ?_
            refine lv_iconst (v := nI 2) hx hb d_M_enter_81 (by decide) ?_
            refine lv_irem hx hb d_M_enter_82 (nI_ne0 (by omega) (by omega)) ?_
            refine lv_eqi (pk_rem (by omega) (by omega) (by omega)) ?_
            refine lv_if_ne (tgt := 104) hx hb d_M_enter_83 (by decide) (fun c_83 => ?_) (fun c_83 => ?_)
            · skip
              have c_83 := mt (z_eq (by omega)).mpr c_83
              refine lv_aload_n hx hb d_M_enter_104 rfl (lv_at hl 2 rfl) ?_
              refine lv_iload hx hb d_M_enter_105 (lv_at hl 1 rfl) ?_
              refine k_callV (m_fail l D am gm tw sLen sKind sExt sMust rTab rFil mNum rLen rItm made pItm held dByt dLen ver fAdr fTab adr tab lf mCode row mWr mWid mOv mPl mTh mSp mPile mNext mSh mShs mRea mWg (mEn + 1) mDp mAt mTb mSt (nI (vN dByt dLen x))  ) m_M_fail wd_38303c4f 0 8 rfl rfl rfl kT hx hb hml hown hts ⟨Nat.le_of_ble_eq_true rfl, Nat.le_of_ble_eq_true rfl⟩ ⟨Nat.le_of_ble_eq_true rfl, Nat.le_of_ble_eq_true rfl⟩ hK hP hD hS hA hZ hl.1 rfl rfl (Nat.le_of_ble_eq_true rfl) d_M_enter_107 (fun H locs hP hD hS => ?_)
              have hP : va_P D vwCl (Wm am gm sLen sKind sExt sMust rTab rFil mNum rLen rItm made pItm held dByt dLen ver fAdr fTab adr tab lf mCode row mWr mWid mOv mPl mTh mSp mPile mNext mSh mShs mRea (if mWg < 0 then (nI (vN dByt dLen x)) else mWg) (mEn + 1) mDp mAt mTb mSt) H := hP
              have hD : va_D A (Wm am gm sLen sKind sExt sMust rTab rFil mNum rLen rItm made pItm held dByt dLen ver fAdr fTab adr tab lf mCode row mWr mWid mOv mPl mTh mSp mPile mNext mSh mShs mRea (if mWg < 0 then (nI (vN dByt dLen x)) else mWg) (mEn + 1) mDp mAt mTb mSt) := hD
              refine W.eq (g2 := F0 m 110 ls []) rfl ?_
              refine lv_goto (tgt := 150) hx hb d_M_enter_110 (by decide) ?_
              refine lv_aload_n hx hb d_M_enter_150 rfl (lv_at hl 2 rfl) ?_
              refine va_get (D := D) (ci := 8) (C := R_M) (T := T_M) (N := 39) hx hb hts (fun w h => kT w (i_M w h)) hown hK hP 0 rfl rfl 36 (by decide) (hts _ (kT _ wd_4926ac37)) (fun _ h9 => h9) rfl d_M_enter_151 ?_
              refine lv_aload_n hx hb d_M_enter_154 rfl (lv_at hl 2 rfl) ?_
              refine va_get (D := D) (ci := 8) (C := R_M) (T := T_M) (N := 39) hx hb hts (fun w h => kT w (i_M w h)) hown hK hP 0 rfl rfl 35 (by decide) (hts _ (kT _ wd_8f75c4b2)) (fun _ h9 => h9) rfl d_M_enter_155 ?_
              refine lv_iload_n hx hb d_M_enter_158 rfl (lv_at hl 3 rfl) ?_
              refine n_iast hx hb hK hP hD hS 20 19 rfl rfl (i := mDp) (by omega) (by decide) d_M_enter_159 (fun H locs hP hD hS => ?_)
              have hP : va_P D vwCl (Wm am gm sLen sKind sExt sMust rTab rFil mNum rLen rItm made pItm held dByt dLen ver fAdr fTab adr tab lf mCode row mWr mWid mOv mPl mTh mSp mPile mNext mSh mShs mRea (if mWg < 0 then (nI (vN dByt dLen x)) else mWg) (mEn + 1) mDp (va_up mAt mDp x) mTb mSt) H := hP
              have hD : va_D A (Wm am gm sLen sKind sExt sMust rTab rFil mNum rLen rItm made pItm held dByt dLen ver fAdr fTab adr tab lf mCode row mWr mWid mOv mPl mTh mSp mPile mNext mSh mShs mRea (if mWg < 0 then (nI (vN dByt dLen x)) else mWg) (mEn + 1) mDp (va_up mAt mDp x) mTb mSt) := hD
              refine lv_aload_n hx hb d_M_enter_160 rfl (lv_at hl 2 rfl) ?_
              refine va_get (D := D) (ci := 8) (C := R_M) (T := T_M) (N := 39) hx hb hts (fun w h => kT w (i_M w h)) hown hK hP 0 rfl rfl 37 (by decide) (hts _ (kT _ wd_1951fc82)) (fun _ h9 => h9) rfl d_M_enter_161 ?_
              refine lv_aload_n hx hb d_M_enter_164 rfl (lv_at hl 2 rfl) ?_
              refine va_get (D := D) (ci := 8) (C := R_M) (T := T_M) (N := 39) hx hb hts (fun w h => kT w (i_M w h)) hown hK hP 0 rfl rfl 35 (by decide) (hts _ (kT _ wd_8f75c4b2)) (fun _ h9 => h9) rfl d_M_enter_165 ?_
              refine lv_iload_n hx hb d_M_enter_168 rfl (lv_at hl 4 rfl) ?_
              refine n_iast hx hb hK hP hD hS 21 20 rfl rfl (i := mDp) (by omega) (by decide) d_M_enter_169 (fun H locs hP hD hS => ?_)
              have hP : va_P D vwCl (Wm am gm sLen sKind sExt sMust rTab rFil mNum rLen rItm made pItm held dByt dLen ver fAdr fTab adr tab lf mCode row mWr mWid mOv mPl mTh mSp mPile mNext mSh mShs mRea (if mWg < 0 then (nI (vN dByt dLen x)) else mWg) (mEn + 1) mDp (va_up mAt mDp x) (va_up mTb mDp t) mSt) H := hP
              have hD : va_D A (Wm am gm sLen sKind sExt sMust rTab rFil mNum rLen rItm made pItm held dByt dLen ver fAdr fTab adr tab lf mCode row mWr mWid mOv mPl mTh mSp mPile mNext mSh mShs mRea (if mWg < 0 then (nI (vN dByt dLen x)) else mWg) (mEn + 1) mDp (va_up mAt mDp x) (va_up mTb mDp t) mSt) := hD
              refine lv_aload_n hx hb d_M_enter_170 rfl (lv_at hl 2 rfl) ?_
              refine va_get (D := D) (ci := 8) (C := R_M) (T := T_M) (N := 39) hx hb hts (fun w h => kT w (i_M w h)) hown hK hP 0 rfl rfl 38 (by decide) (hts _ (kT _ wd_1d293484)) (fun _ h9 => h9) rfl d_M_enter_171 ?_
              refine lv_aload_n hx hb d_M_enter_174 rfl (lv_at hl 2 rfl) ?_
              refine va_get (D := D) (ci := 8) (C := R_M) (T := T_M) (N := 39) hx hb hts (fun w h => kT w (i_M w h)) hown hK hP 0 rfl rfl 35 (by decide) (hts _ (kT _ wd_8f75c4b2)) (fun _ h9 => h9) rfl d_M_enter_175 ?_
              refine lv_iconst (v := nI 0) hx hb d_M_enter_178 (by decide) ?_
              refine n_iast hx hb hK hP hD hS 22 21 rfl rfl (i := mDp) (by omega) (by decide) d_M_enter_179 (fun H locs hP hD hS => ?_)
              have hP : va_P D vwCl (Wm am gm sLen sKind sExt sMust rTab rFil mNum rLen rItm made pItm held dByt dLen ver fAdr fTab adr tab lf mCode row mWr mWid mOv mPl mTh mSp mPile mNext mSh mShs mRea (if mWg < 0 then (nI (vN dByt dLen x)) else mWg) (mEn + 1) mDp (va_up mAt mDp x) (va_up mTb mDp t) (va_up mSt mDp 0)) H := hP
              have hD : va_D A (Wm am gm sLen sKind sExt sMust rTab rFil mNum rLen rItm made pItm held dByt dLen ver fAdr fTab adr tab lf mCode row mWr mWid mOv mPl mTh mSp mPile mNext mSh mShs mRea (if mWg < 0 then (nI (vN dByt dLen x)) else mWg) (mEn + 1) mDp (va_up mAt mDp x) (va_up mTb mDp t) (va_up mSt mDp 0)) := hD
              refine lv_aload_n hx hb d_M_enter_180 rfl (lv_at hl 2 rfl) ?_
              refine lv_dup hx hb d_M_enter_181 rfl ?_
              refine va_get (D := D) (ci := 8) (C := R_M) (T := T_M) (N := 39) hx hb hts (fun w h => kT w (i_M w h)) hown hK hP 0 rfl rfl 35 (by decide) (hts _ (kT _ wd_8f75c4b2)) (fun _ h9 => h9) rfl d_M_enter_182 ?_
              refine lv_iconst (v := nI 1) hx hb d_M_enter_185 (by decide) ?_
              refine lv_iadd hx hb d_M_enter_186 ?_
              refine lv_eqi (nI_add _ _) ?_
              refine va_put (D := D) (ci := 8) (ty := .int) (C := R_M) (T := T_M) (N := 39) hx hb hts (fun w h => kT w (i_M w h)) ty_M tyk_M nm_M hown hK hP hD hS 0 rfl rfl 35 (by decide) (hts _ (kT _ wd_8f75c4b2)) (fun _ h9 => h9) rfl (by decide +kernel) rfl rfl (Nat.le_of_ble_eq_true rfl) d_M_enter_187 (fun H locs hP hD hS => ?_)
              have hP : va_P D vwCl (Wm am gm sLen sKind sExt sMust rTab rFil mNum rLen rItm made pItm held dByt dLen ver fAdr fTab adr tab lf mCode row mWr mWid mOv mPl mTh mSp mPile mNext mSh mShs mRea (if mWg < 0 then (nI (vN dByt dLen x)) else mWg) (mEn + 1) (mDp + 1) (va_up mAt mDp x) (va_up mTb mDp t) (va_up mSt mDp 0)) H := hP
              have hD : va_D A (Wm am gm sLen sKind sExt sMust rTab rFil mNum rLen rItm made pItm held dByt dLen ver fAdr fTab adr tab lf mCode row mWr mWid mOv mPl mTh mSp mPile mNext mSh mShs mRea (if mWg < 0 then (nI (vN dByt dLen x)) else mWg) (mEn + 1) (mDp + 1) (va_up mAt mDp x) (va_up mTb mDp t) (va_up mSt mDp 0)) := hD
              have hio : ioF dByt dLen x (vN dByt dLen x) = nI (vN dByt dLen x) := by rw [ioF, if_pos (by omega)]
              have hv : enV dByt dLen (MV.mk mWg mEn mDp mAt mTb mSt) x t to = MV.mk (if mWg < 0 then (nI (vN dByt dLen x)) else mWg) (mEn + 1) (mDp + 1) (va_up mAt mDp x) (va_up mTb mDp t) (va_up mSt mDp 0) := by rw [enV, if_neg (by show ¬ (_ ∨ _ ∨ mEn = 16 ∨ mDp = 6); omega), if_neg (by rw [c_55]; simp), hio, if_neg (nI_m1 (by omega))]
              exact k_vret hx hb hr hlocks hK hP hD hS (trivial) (by rw [hv]; first | done | rfl) d_M_enter_190
            · skip
              have c_83 := (z_eq (by omega)).mp c_83
              refine lv_iload hx hb d_M_enter_86 (lv_at hl 0 rfl) ?_
              refine lv_iconst (v := nI 4) hx hb d_M_enter_88 (by decide) ?_
              refine lv_icmp_lt (tgt := 104) hx hb d_M_enter_89 (by decide) (fun c_89 => ?_) (fun c_89 => ?_)
              · skip
                have c_89 := (nI_ltI (by omega) (by omega)).mp c_89
                refine lv_aload_n hx hb d_M_enter_104 rfl (lv_at hl 2 rfl) ?_
                refine lv_iload hx hb d_M_enter_105 (lv_at hl 1 rfl) ?_
                refine k_callV (m_fail l D am gm tw sLen sKind sExt sMust rTab rFil mNum rLen rItm made pItm held dByt dLen ver fAdr fTab adr tab lf mCode row mWr mWid mOv mPl mTh mSp mPile mNext mSh mShs mRea mWg (mEn + 1) mDp mAt mTb mSt (nI (vN dByt dLen x))  ) m_M_fail wd_38303c4f 0 8 rfl rfl rfl kT hx hb hml hown hts ⟨Nat.le_of_ble_eq_true rfl, Nat.le_of_ble_eq_true rfl⟩ ⟨Nat.le_of_ble_eq_true rfl, Nat.le_of_ble_eq_true rfl⟩ hK hP hD hS hA hZ hl.1 rfl rfl (Nat.le_of_ble_eq_true rfl) d_M_enter_107 (fun H locs hP hD hS => ?_)
                have hP : va_P D vwCl (Wm am gm sLen sKind sExt sMust rTab rFil mNum rLen rItm made pItm held dByt dLen ver fAdr fTab adr tab lf mCode row mWr mWid mOv mPl mTh mSp mPile mNext mSh mShs mRea (if mWg < 0 then (nI (vN dByt dLen x)) else mWg) (mEn + 1) mDp mAt mTb mSt) H := hP
                have hD : va_D A (Wm am gm sLen sKind sExt sMust rTab rFil mNum rLen rItm made pItm held dByt dLen ver fAdr fTab adr tab lf mCode row mWr mWid mOv mPl mTh mSp mPile mNext mSh mShs mRea (if mWg < 0 then (nI (vN dByt dLen x)) else mWg) (mEn + 1) mDp mAt mTb mSt) := hD
                refine W.eq (g2 := F0 m 110 ls []) rfl ?_
                refine lv_goto (tgt := 150) hx hb d_M_enter_110 (by decide) ?_
                refine lv_aload_n hx hb d_M_enter_150 rfl (lv_at hl 2 rfl) ?_
                refine va_get (D := D) (ci := 8) (C := R_M) (T := T_M) (N := 39) hx hb hts (fun w h => kT w (i_M w h)) hown hK hP 0 rfl rfl 36 (by decide) (hts _ (kT _ wd_4926ac37)) (fun _ h9 => h9) rfl d_M_enter_151 ?_
                refine lv_aload_n hx hb d_M_enter_154 rfl (lv_at hl 2 rfl) ?_
                refine va_get (D := D) (ci := 8) (C := R_M) (T := T_M) (N := 39) hx hb hts (fun w h => kT w (i_M w h)) hown hK hP 0 rfl rfl 35 (by decide) (hts _ (kT _ wd_8f75c4b2)) (fun _ h9 => h9) rfl d_M_enter_155 ?_
                refine lv_iload_n hx hb d_M_enter_158 rfl (lv_at hl 3 rfl) ?_
                refine n_iast hx hb hK hP hD hS 20 19 rfl rfl (i := mDp) (by omega) (by decide) d_M_enter_159 (fun H locs hP hD hS => ?_)
                have hP : va_P D vwCl (Wm am gm sLen sKind sExt sMust rTab rFil mNum rLen rItm made pItm held dByt dLen ver fAdr fTab adr tab lf mCode row mWr mWid mOv mPl mTh mSp mPile mNext mSh mShs mRea (if mWg < 0 then (nI (vN dByt dLen x)) else mWg) (mEn + 1) mDp (va_up mAt mDp x) mTb mSt) H := hP
                have hD : va_D A (Wm am gm sLen sKind sExt sMust rTab rFil mNum rLen rItm made pItm held dByt dLen ver fAdr fTab adr tab lf mCode row mWr mWid mOv mPl mTh mSp mPile mNext mSh mShs mRea (if mWg < 0 then (nI (vN dByt dLen x)) else mWg) (mEn + 1) mDp (va_up mAt mDp x) mTb mSt) := hD
                refine lv_aload_n hx hb d_M_enter_160 rfl (lv_at hl 2 rfl) ?_
                refine va_get (D := D) (ci := 8) (C := R_M) (T := T_M) (N := 39) hx hb hts (fun w h => kT w (i_M w h)) hown hK hP 0 rfl rfl 37 (by decide) (hts _ (kT _ wd_1951fc82)) (fun _ h9 => h9) rfl d_M_enter_161 ?_
                refine lv_aload_n hx hb d_M_enter_164 rfl (lv_at hl 2 rfl) ?_
                refine va_get (D := D) (ci := 8) (C := R_M) (T := T_M) (N := 39) hx hb hts (fun w h => kT w (i_M w h)) hown hK hP 0 rfl rfl 35 (by decide) (hts _ (kT _ wd_8f75c4b2)) (fun _ h9 => h9) rfl d_M_enter_165 ?_
                refine lv_iload_n hx hb d_M_enter_168 rfl (lv_at hl 4 rfl) ?_
                refine n_iast hx hb hK hP hD hS 21 20 rfl rfl (i := mDp) (by omega) (by decide) d_M_enter_169 (fun H locs hP hD hS => ?_)
                have hP : va_P D vwCl (Wm am gm sLen sKind sExt sMust rTab rFil mNum rLen rItm made pItm held dByt dLen ver fAdr fTab adr tab lf mCode row mWr mWid mOv mPl mTh mSp mPile mNext mSh mShs mRea (if mWg < 0 then (nI (vN dByt dLen x)) else mWg) (mEn + 1) mDp (va_up mAt mDp x) (va_up mTb mDp t) mSt) H := hP
                have hD : va_D A (Wm am gm sLen sKind sExt sMust rTab rFil mNum rLen rItm made pItm held dByt dLen ver fAdr fTab adr tab lf mCode row mWr mWid mOv mPl mTh mSp mPile mNext mSh mShs mRea (if mWg < 0 then (nI (vN dByt dLen x)) else mWg) (mEn + 1) mDp (va_up mAt mDp x) (va_up mTb mDp t) mSt) := hD
                refine lv_aload_n hx hb d_M_enter_170 rfl (lv_at hl 2 rfl) ?_
                refine va_get (D := D) (ci := 8) (C := R_M) (T := T_M) (N := 39) hx hb hts (fun w h => kT w (i_M w h)) hown hK hP 0 rfl rfl 38 (by decide) (hts _ (kT _ wd_1d293484)) (fun _ h9 => h9) rfl d_M_enter_171 ?_
                refine lv_aload_n hx hb d_M_enter_174 rfl (lv_at hl 2 rfl) ?_
                refine va_get (D := D) (ci := 8) (C := R_M) (T := T_M) (N := 39) hx hb hts (fun w h => kT w (i_M w h)) hown hK hP 0 rfl rfl 35 (by decide) (hts _ (kT _ wd_8f75c4b2)) (fun _ h9 => h9) rfl d_M_enter_175 ?_
                refine lv_iconst (v := nI 0) hx hb d_M_enter_178 (by decide) ?_
                refine n_iast hx hb hK hP hD hS 22 21 rfl rfl (i := mDp) (by omega) (by decide) d_M_enter_179 (fun H locs hP hD hS => ?_)
                have hP : va_P D vwCl (Wm am gm sLen sKind sExt sMust rTab rFil mNum rLen rItm made pItm held dByt dLen ver fAdr fTab adr tab lf mCode row mWr mWid mOv mPl mTh mSp mPile mNext mSh mShs mRea (if mWg < 0 then (nI (vN dByt dLen x)) else mWg) (mEn + 1) mDp (va_up mAt mDp x) (va_up mTb mDp t) (va_up mSt mDp 0)) H := hP
                have hD : va_D A (Wm am gm sLen sKind sExt sMust rTab rFil mNum rLen rItm made pItm held dByt dLen ver fAdr fTab adr tab lf mCode row mWr mWid mOv mPl mTh mSp mPile mNext mSh mShs mRea (if mWg < 0 then (nI (vN dByt dLen x)) else mWg) (mEn + 1) mDp (va_up mAt mDp x) (va_up mTb mDp t) (va_up mSt mDp 0)) := hD
                refine lv_aload_n hx hb d_M_enter_180 rfl (lv_at hl 2 rfl) ?_
                refine lv_dup hx hb d_M_enter_181 rfl ?_
                refine va_get (D := D) (ci := 8) (C := R_M) (T := T_M) (N := 39) hx hb hts (fun w h => kT w (i_M w h)) hown hK hP 0 rfl rfl 35 (by decide) (hts _ (kT _ wd_8f75c4b2)) (fun _ h9 => h9) rfl d_M_enter_182 ?_
                refine lv_iconst (v := nI 1) hx hb d_M_enter_185 (by decide) ?_
                refine lv_iadd hx hb d_M_enter_186 ?_
                refine lv_eqi (nI_add _ _) ?_
                refine va_put (D := D) (ci := 8) (ty := .int) (C := R_M) (T := T_M) (N := 39) hx hb hts (fun w h => kT w (i_M w h)) ty_M tyk_M nm_M hown hK hP hD hS 0 rfl rfl 35 (by decide) (hts _ (kT _ wd_8f75c4b2)) (fun _ h9 => h9) rfl (by decide +kernel) rfl rfl (Nat.le_of_ble_eq_true rfl) d_M_enter_187 (fun H locs hP hD hS => ?_)
                have hP : va_P D vwCl (Wm am gm sLen sKind sExt sMust rTab rFil mNum rLen rItm made pItm held dByt dLen ver fAdr fTab adr tab lf mCode row mWr mWid mOv mPl mTh mSp mPile mNext mSh mShs mRea (if mWg < 0 then (nI (vN dByt dLen x)) else mWg) (mEn + 1) (mDp + 1) (va_up mAt mDp x) (va_up mTb mDp t) (va_up mSt mDp 0)) H := hP
                have hD : va_D A (Wm am gm sLen sKind sExt sMust rTab rFil mNum rLen rItm made pItm held dByt dLen ver fAdr fTab adr tab lf mCode row mWr mWid mOv mPl mTh mSp mPile mNext mSh mShs mRea (if mWg < 0 then (nI (vN dByt dLen x)) else mWg) (mEn + 1) (mDp + 1) (va_up mAt mDp x) (va_up mTb mDp t) (va_up mSt mDp 0)) := hD
                have hio : ioF dByt dLen x (vN dByt dLen x) = nI (vN dByt dLen x) := by rw [ioF, if_pos (by omega)]
                have hv : enV dByt dLen (MV.mk mWg mEn mDp mAt mTb mSt) x t to = MV.mk (if mWg < 0 then (nI (vN dByt dLen x)) else mWg) (mEn + 1) (mDp + 1) (va_up mAt mDp x) (va_up mTb mDp t) (va_up mSt mDp 0) := by rw [enV, if_neg (by show ¬ (_ ∨ _ ∨ mEn = 16 ∨ mDp = 6); omega), if_neg (by rw [c_55]; simp), hio, if_neg (nI_m1 (by omega))]
                exact k_vret hx hb hr hlocks hK hP hD hS (trivial) (by rw [hv]; first | done | rfl) d_M_enter_190
              · skip
                have c_89 := mt (nI_ltI (by omega) (by omega)).mpr c_89
                refine lv_iload hx hb d_M_enter_92 (lv_at hl 1 rfl) ?_
                refine lv_iload hx hb d_M_enter_94 (lv_at hl 0 rfl) ?_
                refine lv_iadd hx hb d_M_enter_96 ?_
                refine lv_eqi (nI_add _ _) ?_
                refine lv_aload_n hx hb d_M_enter_97 rfl (lv_at hl 2 rfl) ?_
                refine va_get (D := D) (ci := 8) (C := R_M) (T := T_M) (N := 39) hx hb hts (fun w h => kT w (i_M w h)) hown hK hP 0 rfl rfl 26 (by decide) (hts _ (kT _ wd_3139de6a)) (fun _ h9 => h9) rfl d_M_enter_98 ?_
                refine lv_icmp_le (tgt := 113) hx hb d_M_enter_101 (by decide) (fun c_101 => ?_) (fun c_101 => ?_)
                · skip
                  have c_101 := (nI_leI (by omega) (by omega)).mp c_101
                  refine lv_aload_n hx hb d_M_enter_113 rfl (lv_at hl 2 rfl) ?_
                  refine lv_iload hx hb d_M_enter_114 (lv_at hl 1 rfl) ?_
                  refine lv_iconst (v := nI 2) hx hb d_M_enter_116 (by decide) ?_
                  refine lv_iadd hx hb d_M_enter_117 ?_
                  refine lv_eqi (nI_add _ _) ?_
                  refine k_callV (m_two l D am gm tw sLen sKind sExt sMust rTab rFil mNum rLen rItm made pItm held dByt dLen ver fAdr fTab adr tab lf mCode row mWr mWid mOv mPl mTh mSp mPile mNext mSh mShs mRea mWg (mEn + 1) mDp mAt mTb mSt ((vN dByt dLen x) + 2)  (by omega) hB hd) m_M_two wd_f4633fa4 0 8 rfl rfl rfl kT hx hb hml hown hts ⟨Nat.le_of_ble_eq_true rfl, Nat.le_of_ble_eq_true rfl⟩ ⟨Nat.le_of_ble_eq_true rfl, Nat.le_of_ble_eq_true rfl⟩ hK hP hD hS hA hZ hl.1 rfl rfl (Nat.le_of_ble_eq_true rfl) d_M_enter_118 (fun H locs hP hD hS => ?_)
                  have hP : va_P D vwCl (Wm am gm sLen sKind sExt sMust rTab rFil mNum rLen rItm made pItm held dByt dLen ver fAdr fTab adr tab lf mCode row mWr mWid mOv mPl mTh mSp mPile mNext mSh mShs mRea mWg (mEn + 1) mDp mAt mTb mSt) H := hP
                  have hD : va_D A (Wm am gm sLen sKind sExt sMust rTab rFil mNum rLen rItm made pItm held dByt dLen ver fAdr fTab adr tab lf mCode row mWr mWid mOv mPl mTh mSp mPile mNext mSh mShs mRea mWg (mEn + 1) mDp mAt mTb mSt) := hD
                  refine W.eq (g2 := F0 m 121 ls [.int (nI (leN dByt dLen (nI ((vN dByt dLen x) + 2)) 2))]) rfl ?_
                  refine lv_iconst (v := nI 4) hx hb d_M_enter_121 (by decide) ?_
                  refine lv_icmp_lt (tgt := 142) hx hb d_M_enter_122 (by decide) (fun c_122 => ?_) (fun c_122 => ?_)
                  · skip
                    have c_122 := (nI_ltI (by omega) (by omega)).mp c_122
                    refine lv_aload_n hx hb d_M_enter_142 rfl (lv_at hl 2 rfl) ?_
                    refine lv_iload hx hb d_M_enter_143 (lv_at hl 1 rfl) ?_
                    refine lv_iconst (v := nI 2) hx hb d_M_enter_145 (by decide) ?_
                    refine lv_iadd hx hb d_M_enter_146 ?_
                    refine lv_eqi (nI_add _ _) ?_
                    refine k_callV (m_fail l D am gm tw sLen sKind sExt sMust rTab rFil mNum rLen rItm made pItm held dByt dLen ver fAdr fTab adr tab lf mCode row mWr mWid mOv mPl mTh mSp mPile mNext mSh mShs mRea mWg (mEn + 1) mDp mAt mTb mSt (nI ((vN dByt dLen x) + 2))  ) m_M_fail wd_38303c4f 0 8 rfl rfl rfl kT hx hb hml hown hts ⟨Nat.le_of_ble_eq_true rfl, Nat.le_of_ble_eq_true rfl⟩ ⟨Nat.le_of_ble_eq_true rfl, Nat.le_of_ble_eq_true rfl⟩ hK hP hD hS hA hZ hl.1 rfl rfl (Nat.le_of_ble_eq_true rfl) d_M_enter_147 (fun H locs hP hD hS => ?_)
                    have hP : va_P D vwCl (Wm am gm sLen sKind sExt sMust rTab rFil mNum rLen rItm made pItm held dByt dLen ver fAdr fTab adr tab lf mCode row mWr mWid mOv mPl mTh mSp mPile mNext mSh mShs mRea (if mWg < 0 then (nI ((vN dByt dLen x) + 2)) else mWg) (mEn + 1) mDp mAt mTb mSt) H := hP
                    have hD : va_D A (Wm am gm sLen sKind sExt sMust rTab rFil mNum rLen rItm made pItm held dByt dLen ver fAdr fTab adr tab lf mCode row mWr mWid mOv mPl mTh mSp mPile mNext mSh mShs mRea (if mWg < 0 then (nI ((vN dByt dLen x) + 2)) else mWg) (mEn + 1) mDp mAt mTb mSt) := hD
                    refine W.eq (g2 := F0 m 150 ls []) rfl ?_
                    refine lv_aload_n hx hb d_M_enter_150 rfl (lv_at hl 2 rfl) ?_
                    refine va_get (D := D) (ci := 8) (C := R_M) (T := T_M) (N := 39) hx hb hts (fun w h => kT w (i_M w h)) hown hK hP 0 rfl rfl 36 (by decide) (hts _ (kT _ wd_4926ac37)) (fun _ h9 => h9) rfl d_M_enter_151 ?_
                    refine lv_aload_n hx hb d_M_enter_154 rfl (lv_at hl 2 rfl) ?_
                    refine va_get (D := D) (ci := 8) (C := R_M) (T := T_M) (N := 39) hx hb hts (fun w h => kT w (i_M w h)) hown hK hP 0 rfl rfl 35 (by decide) (hts _ (kT _ wd_8f75c4b2)) (fun _ h9 => h9) rfl d_M_enter_155 ?_
                    refine lv_iload_n hx hb d_M_enter_158 rfl (lv_at hl 3 rfl) ?_
                    refine n_iast hx hb hK hP hD hS 20 19 rfl rfl (i := mDp) (by omega) (by decide) d_M_enter_159 (fun H locs hP hD hS => ?_)
                    have hP : va_P D vwCl (Wm am gm sLen sKind sExt sMust rTab rFil mNum rLen rItm made pItm held dByt dLen ver fAdr fTab adr tab lf mCode row mWr mWid mOv mPl mTh mSp mPile mNext mSh mShs mRea (if mWg < 0 then (nI ((vN dByt dLen x) + 2)) else mWg) (mEn + 1) mDp (va_up mAt mDp x) mTb mSt) H := hP
                    have hD : va_D A (Wm am gm sLen sKind sExt sMust rTab rFil mNum rLen rItm made pItm held dByt dLen ver fAdr fTab adr tab lf mCode row mWr mWid mOv mPl mTh mSp mPile mNext mSh mShs mRea (if mWg < 0 then (nI ((vN dByt dLen x) + 2)) else mWg) (mEn + 1) mDp (va_up mAt mDp x) mTb mSt) := hD
                    refine lv_aload_n hx hb d_M_enter_160 rfl (lv_at hl 2 rfl) ?_
                    refine va_get (D := D) (ci := 8) (C := R_M) (T := T_M) (N := 39) hx hb hts (fun w h => kT w (i_M w h)) hown hK hP 0 rfl rfl 37 (by decide) (hts _ (kT _ wd_1951fc82)) (fun _ h9 => h9) rfl d_M_enter_161 ?_
                    refine lv_aload_n hx hb d_M_enter_164 rfl (lv_at hl 2 rfl) ?_
                    refine va_get (D := D) (ci := 8) (C := R_M) (T := T_M) (N := 39) hx hb hts (fun w h => kT w (i_M w h)) hown hK hP 0 rfl rfl 35 (by decide) (hts _ (kT _ wd_8f75c4b2)) (fun _ h9 => h9) rfl d_M_enter_165 ?_
                    refine lv_iload_n hx hb d_M_enter_168 rfl (lv_at hl 4 rfl) ?_
                    refine n_iast hx hb hK hP hD hS 21 20 rfl rfl (i := mDp) (by omega) (by decide) d_M_enter_169 (fun H locs hP hD hS => ?_)
                    have hP : va_P D vwCl (Wm am gm sLen sKind sExt sMust rTab rFil mNum rLen rItm made pItm held dByt dLen ver fAdr fTab adr tab lf mCode row mWr mWid mOv mPl mTh mSp mPile mNext mSh mShs mRea (if mWg < 0 then (nI ((vN dByt dLen x) + 2)) else mWg) (mEn + 1) mDp (va_up mAt mDp x) (va_up mTb mDp t) mSt) H := hP
                    have hD : va_D A (Wm am gm sLen sKind sExt sMust rTab rFil mNum rLen rItm made pItm held dByt dLen ver fAdr fTab adr tab lf mCode row mWr mWid mOv mPl mTh mSp mPile mNext mSh mShs mRea (if mWg < 0 then (nI ((vN dByt dLen x) + 2)) else mWg) (mEn + 1) mDp (va_up mAt mDp x) (va_up mTb mDp t) mSt) := hD
                    refine lv_aload_n hx hb d_M_enter_170 rfl (lv_at hl 2 rfl) ?_
                    refine va_get (D := D) (ci := 8) (C := R_M) (T := T_M) (N := 39) hx hb hts (fun w h => kT w (i_M w h)) hown hK hP 0 rfl rfl 38 (by decide) (hts _ (kT _ wd_1d293484)) (fun _ h9 => h9) rfl d_M_enter_171 ?_
                    refine lv_aload_n hx hb d_M_enter_174 rfl (lv_at hl 2 rfl) ?_
                    refine va_get (D := D) (ci := 8) (C := R_M) (T := T_M) (N := 39) hx hb hts (fun w h => kT w (i_M w h)) hown hK hP 0 rfl rfl 35 (by decide) (hts _ (kT _ wd_8f75c4b2)) (fun _ h9 => h9) rfl d_M_enter_175 ?_
                    refine lv_iconst (v := nI 0) hx hb d_M_enter_178 (by decide) ?_
                    refine n_iast hx hb hK hP hD hS 22 21 rfl rfl (i := mDp) (by omega) (by decide) d_M_enter_179 (fun H locs hP hD hS => ?_)
                    have hP : va_P D vwCl (Wm am gm sLen sKind sExt sMust rTab rFil mNum rLen rItm made pItm held dByt dLen ver fAdr fTab adr tab lf mCode row mWr mWid mOv mPl mTh mSp mPile mNext mSh mShs mRea (if mWg < 0 then (nI ((vN dByt dLen x) + 2)) else mWg) (mEn + 1) mDp (va_up mAt mDp x) (va_up mTb mDp t) (va_up mSt mDp 0)) H := hP
                    have hD : va_D A (Wm am gm sLen sKind sExt sMust rTab rFil mNum rLen rItm made pItm held dByt dLen ver fAdr fTab adr tab lf mCode row mWr mWid mOv mPl mTh mSp mPile mNext mSh mShs mRea (if mWg < 0 then (nI ((vN dByt dLen x) + 2)) else mWg) (mEn + 1) mDp (va_up mAt mDp x) (va_up mTb mDp t) (va_up mSt mDp 0)) := hD
                    refine lv_aload_n hx hb d_M_enter_180 rfl (lv_at hl 2 rfl) ?_
                    refine lv_dup hx hb d_M_enter_181 rfl ?_
                    refine va_get (D := D) (ci := 8) (C := R_M) (T := T_M) (N := 39) hx hb hts (fun w h => kT w (i_M w h)) hown hK hP 0 rfl rfl 35 (by decide) (hts _ (kT _ wd_8f75c4b2)) (fun _ h9 => h9) rfl d_M_enter_182 ?_
                    refine lv_iconst (v := nI 1) hx hb d_M_enter_185 (by decide) ?_
                    refine lv_iadd hx hb d_M_enter_186 ?_
                    refine lv_eqi (nI_add _ _) ?_
                    refine va_put (D := D) (ci := 8) (ty := .int) (C := R_M) (T := T_M) (N := 39) hx hb hts (fun w h => kT w (i_M w h)) ty_M tyk_M nm_M hown hK hP hD hS 0 rfl rfl 35 (by decide) (hts _ (kT _ wd_8f75c4b2)) (fun _ h9 => h9) rfl (by decide +kernel) rfl rfl (Nat.le_of_ble_eq_true rfl) d_M_enter_187 (fun H locs hP hD hS => ?_)
                    have hP : va_P D vwCl (Wm am gm sLen sKind sExt sMust rTab rFil mNum rLen rItm made pItm held dByt dLen ver fAdr fTab adr tab lf mCode row mWr mWid mOv mPl mTh mSp mPile mNext mSh mShs mRea (if mWg < 0 then (nI ((vN dByt dLen x) + 2)) else mWg) (mEn + 1) (mDp + 1) (va_up mAt mDp x) (va_up mTb mDp t) (va_up mSt mDp 0)) H := hP
                    have hD : va_D A (Wm am gm sLen sKind sExt sMust rTab rFil mNum rLen rItm made pItm held dByt dLen ver fAdr fTab adr tab lf mCode row mWr mWid mOv mPl mTh mSp mPile mNext mSh mShs mRea (if mWg < 0 then (nI ((vN dByt dLen x) + 2)) else mWg) (mEn + 1) (mDp + 1) (va_up mAt mDp x) (va_up mTb mDp t) (va_up mSt mDp 0)) := hD
                    have hio : ioF dByt dLen x (vN dByt dLen x) = nI (vN dByt dLen x + 2) := by rw [ioF, if_neg (by omega), if_pos (by omega)]
                    have hv : enV dByt dLen (MV.mk mWg mEn mDp mAt mTb mSt) x t to = MV.mk (if mWg < 0 then (nI ((vN dByt dLen x) + 2)) else mWg) (mEn + 1) (mDp + 1) (va_up mAt mDp x) (va_up mTb mDp t) (va_up mSt mDp 0) := by rw [enV, if_neg (by show ¬ (_ ∨ _ ∨ mEn = 16 ∨ mDp = 6); omega), if_neg (by rw [c_55]; simp), hio, if_neg (nI_m1 (by omega))]
                    exact k_vret hx hb hr hlocks hK hP hD hS (trivial) (by rw [hv]; first | done | rfl) d_M_enter_190
                  · skip
                    have c_122 := mt (nI_ltI (by omega) (by omega)).mpr c_122
                    refine lv_iload_n hx hb d_M_enter_125 rfl (lv_at hl 3 rfl) ?_
                    refine lv_aload_n hx hb d_M_enter_126 rfl (lv_at hl 2 rfl) ?_
                    refine lv_iload hx hb d_M_enter_127 (lv_at hl 1 rfl) ?_
                    refine lv_iconst (v := nI 2) hx hb d_M_enter_129 (by decide) ?_
                    refine lv_iadd hx hb d_M_enter_130 ?_
                    refine lv_eqi (nI_add _ _) ?_
                    refine k_callV (m_two l D am gm tw sLen sKind sExt sMust rTab rFil mNum rLen rItm made pItm held dByt dLen ver fAdr fTab adr tab lf mCode row mWr mWid mOv mPl mTh mSp mPile mNext mSh mShs mRea mWg (mEn + 1) mDp mAt mTb mSt ((vN dByt dLen x) + 2)  (by omega) hB hd) m_M_two wd_f4633fa4 0 8 rfl rfl rfl kT hx hb hml hown hts ⟨Nat.le_of_ble_eq_true rfl, Nat.le_of_ble_eq_true rfl⟩ ⟨Nat.le_of_ble_eq_true rfl, Nat.le_of_ble_eq_true rfl⟩ hK hP hD hS hA hZ hl.1 rfl rfl (Nat.le_of_ble_eq_true rfl) d_M_enter_131 (fun H locs hP hD hS => ?_)
                    have hP : va_P D vwCl (Wm am gm sLen sKind sExt sMust rTab rFil mNum rLen rItm made pItm held dByt dLen ver fAdr fTab adr tab lf mCode row mWr mWid mOv mPl mTh mSp mPile mNext mSh mShs mRea mWg (mEn + 1) mDp mAt mTb mSt) H := hP
                    have hD : va_D A (Wm am gm sLen sKind sExt sMust rTab rFil mNum rLen rItm made pItm held dByt dLen ver fAdr fTab adr tab lf mCode row mWr mWid mOv mPl mTh mSp mPile mNext mSh mShs mRea mWg (mEn + 1) mDp mAt mTb mSt) := hD
                    refine W.eq (g2 := F0 m 134 ls [.int (nI (leN dByt dLen (nI ((vN dByt dLen x) + 2)) 2)), .int (nI x)]) rfl ?_
                    refine lv_iadd hx hb d_M_enter_134 ?_
                    refine lv_eqi (nI_add _ _) ?_
                    refine lv_aload_n hx hb d_M_enter_135 rfl (lv_at hl 2 rfl) ?_
                    refine va_get (D := D) (ci := 8) (C := R_M) (T := T_M) (N := 39) hx hb hts (fun w h => kT w (i_M w h)) hown hK hP 0 rfl rfl 26 (by decide) (hts _ (kT _ wd_3139de6a)) (fun _ h9 => h9) rfl d_M_enter_136 ?_
                    refine lv_icmp_le (tgt := 150) hx hb d_M_enter_139 (by decide) (fun c_139 => ?_) (fun c_139 => ?_)
                    · skip
                      have c_139 := (nI_leI (by omega) (by omega)).mp c_139
                      refine lv_aload_n hx hb d_M_enter_150 rfl (lv_at hl 2 rfl) ?_
                      refine va_get (D := D) (ci := 8) (C := R_M) (T := T_M) (N := 39) hx hb hts (fun w h => kT w (i_M w h)) hown hK hP 0 rfl rfl 36 (by decide) (hts _ (kT _ wd_4926ac37)) (fun _ h9 => h9) rfl d_M_enter_151 ?_
                      refine lv_aload_n hx hb d_M_enter_154 rfl (lv_at hl 2 rfl) ?_
                      refine va_get (D := D) (ci := 8) (C := R_M) (T := T_M) (N := 39) hx hb hts (fun w h => kT w (i_M w h)) hown hK hP 0 rfl rfl 35 (by decide) (hts _ (kT _ wd_8f75c4b2)) (fun _ h9 => h9) rfl d_M_enter_155 ?_
                      refine lv_iload_n hx hb d_M_enter_158 rfl (lv_at hl 3 rfl) ?_
                      refine n_iast hx hb hK hP hD hS 20 19 rfl rfl (i := mDp) (by omega) (by decide) d_M_enter_159 (fun H locs hP hD hS => ?_)
                      have hP : va_P D vwCl (Wm am gm sLen sKind sExt sMust rTab rFil mNum rLen rItm made pItm held dByt dLen ver fAdr fTab adr tab lf mCode row mWr mWid mOv mPl mTh mSp mPile mNext mSh mShs mRea mWg (mEn + 1) mDp (va_up mAt mDp x) mTb mSt) H := hP
                      have hD : va_D A (Wm am gm sLen sKind sExt sMust rTab rFil mNum rLen rItm made pItm held dByt dLen ver fAdr fTab adr tab lf mCode row mWr mWid mOv mPl mTh mSp mPile mNext mSh mShs mRea mWg (mEn + 1) mDp (va_up mAt mDp x) mTb mSt) := hD
                      refine lv_aload_n hx hb d_M_enter_160 rfl (lv_at hl 2 rfl) ?_
                      refine va_get (D := D) (ci := 8) (C := R_M) (T := T_M) (N := 39) hx hb hts (fun w h => kT w (i_M w h)) hown hK hP 0 rfl rfl 37 (by decide) (hts _ (kT _ wd_1951fc82)) (fun _ h9 => h9) rfl d_M_enter_161 ?_
                      refine lv_aload_n hx hb d_M_enter_164 rfl (lv_at hl 2 rfl) ?_
                      refine va_get (D := D) (ci := 8) (C := R_M) (T := T_M) (N := 39) hx hb hts (fun w h => kT w (i_M w h)) hown hK hP 0 rfl rfl 35 (by decide) (hts _ (kT _ wd_8f75c4b2)) (fun _ h9 => h9) rfl d_M_enter_165 ?_
                      refine lv_iload_n hx hb d_M_enter_168 rfl (lv_at hl 4 rfl) ?_
                      refine n_iast hx hb hK hP hD hS 21 20 rfl rfl (i := mDp) (by omega) (by decide) d_M_enter_169 (fun H locs hP hD hS => ?_)
                      have hP : va_P D vwCl (Wm am gm sLen sKind sExt sMust rTab rFil mNum rLen rItm made pItm held dByt dLen ver fAdr fTab adr tab lf mCode row mWr mWid mOv mPl mTh mSp mPile mNext mSh mShs mRea mWg (mEn + 1) mDp (va_up mAt mDp x) (va_up mTb mDp t) mSt) H := hP
                      have hD : va_D A (Wm am gm sLen sKind sExt sMust rTab rFil mNum rLen rItm made pItm held dByt dLen ver fAdr fTab adr tab lf mCode row mWr mWid mOv mPl mTh mSp mPile mNext mSh mShs mRea mWg (mEn + 1) mDp (va_up mAt mDp x) (va_up mTb mDp t) mSt) := hD
                      refine lv_aload_n hx hb d_M_enter_170 rfl (lv_at hl 2 rfl) ?_
                      refine va_get (D := D) (ci := 8) (C := R_M) (T := T_M) (N := 39) hx hb hts (fun w h => kT w (i_M w h)) hown hK hP 0 rfl rfl 38 (by decide) (hts _ (kT _ wd_1d293484)) (fun _ h9 => h9) rfl d_M_enter_171 ?_
                      refine lv_aload_n hx hb d_M_enter_174 rfl (lv_at hl 2 rfl) ?_
                      refine va_get (D := D) (ci := 8) (C := R_M) (T := T_M) (N := 39) hx hb hts (fun w h => kT w (i_M w h)) hown hK hP 0 rfl rfl 35 (by decide) (hts _ (kT _ wd_8f75c4b2)) (fun _ h9 => h9) rfl d_M_enter_175 ?_
                      refine lv_iconst (v := nI 0) hx hb d_M_enter_178 (by decide) ?_
                      refine n_iast hx hb hK hP hD hS 22 21 rfl rfl (i := mDp) (by omega) (by decide) d_M_enter_179 (fun H locs hP hD hS => ?_)
                      have hP : va_P D vwCl (Wm am gm sLen sKind sExt sMust rTab rFil mNum rLen rItm made pItm held dByt dLen ver fAdr fTab adr tab lf mCode row mWr mWid mOv mPl mTh mSp mPile mNext mSh mShs mRea mWg (mEn + 1) mDp (va_up mAt mDp x) (va_up mTb mDp t) (va_up mSt mDp 0)) H := hP
                      have hD : va_D A (Wm am gm sLen sKind sExt sMust rTab rFil mNum rLen rItm made pItm held dByt dLen ver fAdr fTab adr tab lf mCode row mWr mWid mOv mPl mTh mSp mPile mNext mSh mShs mRea mWg (mEn + 1) mDp (va_up mAt mDp x) (va_up mTb mDp t) (va_up mSt mDp 0)) := hD
                      refine lv_aload_n hx hb d_M_enter_180 rfl (lv_at hl 2 rfl) ?_
                      refine lv_dup hx hb d_M_enter_181 rfl ?_
                      refine va_get (D := D) (ci := 8) (C := R_M) (T := T_M) (N := 39) hx hb hts (fun w h => kT w (i_M w h)) hown hK hP 0 rfl rfl 35 (by decide) (hts _ (kT _ wd_8f75c4b2)) (fun _ h9 => h9) rfl d_M_enter_182 ?_
                      refine lv_iconst (v := nI 1) hx hb d_M_enter_185 (by decide) ?_
                      refine lv_iadd hx hb d_M_enter_186 ?_
                      refine lv_eqi (nI_add _ _) ?_
                      refine va_put (D := D) (ci := 8) (ty := .int) (C := R_M) (T := T_M) (N := 39) hx hb hts (fun w h => kT w (i_M w h)) ty_M tyk_M nm_M hown hK hP hD hS 0 rfl rfl 35 (by decide) (hts _ (kT _ wd_8f75c4b2)) (fun _ h9 => h9) rfl (by decide +kernel) rfl rfl (Nat.le_of_ble_eq_true rfl) d_M_enter_187 (fun H locs hP hD hS => ?_)
                      have hP : va_P D vwCl (Wm am gm sLen sKind sExt sMust rTab rFil mNum rLen rItm made pItm held dByt dLen ver fAdr fTab adr tab lf mCode row mWr mWid mOv mPl mTh mSp mPile mNext mSh mShs mRea mWg (mEn + 1) (mDp + 1) (va_up mAt mDp x) (va_up mTb mDp t) (va_up mSt mDp 0)) H := hP
                      have hD : va_D A (Wm am gm sLen sKind sExt sMust rTab rFil mNum rLen rItm made pItm held dByt dLen ver fAdr fTab adr tab lf mCode row mWr mWid mOv mPl mTh mSp mPile mNext mSh mShs mRea mWg (mEn + 1) (mDp + 1) (va_up mAt mDp x) (va_up mTb mDp t) (va_up mSt mDp 0)) := hD
                      have hio : ioF dByt dLen x (vN dByt dLen x) = -1 := by rw [ioF, if_neg (by omega), if_neg (by omega)]
                      have hv : enV dByt dLen (MV.mk mWg mEn mDp mAt mTb mSt) x t to = MV.mk (mWg) (mEn + 1) (mDp + 1) (va_up mAt mDp x) (va_up mTb mDp t) (va_up mSt mDp 0) := by rw [enV, if_neg (by show ¬ (_ ∨ _ ∨ mEn = 16 ∨ mDp = 6); omega), if_neg (by rw [c_55]; simp), hio, if_pos rfl]
                      exact k_vret hx hb hr hlocks hK hP hD hS (trivial) (by rw [hv]; first | done | rfl) d_M_enter_190
                    · skip
                      have c_139 := mt (nI_leI (by omega) (by omega)).mpr c_139
                      refine lv_aload_n hx hb d_M_enter_142 rfl (lv_at hl 2 rfl) ?_
                      refine lv_iload hx hb d_M_enter_143 (lv_at hl 1 rfl) ?_
                      refine lv_iconst (v := nI 2) hx hb d_M_enter_145 (by decide) ?_
                      refine lv_iadd hx hb d_M_enter_146 ?_
                      refine lv_eqi (nI_add _ _) ?_
                      refine k_callV (m_fail l D am gm tw sLen sKind sExt sMust rTab rFil mNum rLen rItm made pItm held dByt dLen ver fAdr fTab adr tab lf mCode row mWr mWid mOv mPl mTh mSp mPile mNext mSh mShs mRea mWg (mEn + 1) mDp mAt mTb mSt (nI ((vN dByt dLen x) + 2))  ) m_M_fail wd_38303c4f 0 8 rfl rfl rfl kT hx hb hml hown hts ⟨Nat.le_of_ble_eq_true rfl, Nat.le_of_ble_eq_true rfl⟩ ⟨Nat.le_of_ble_eq_true rfl, Nat.le_of_ble_eq_true rfl⟩ hK hP hD hS hA hZ hl.1 rfl rfl (Nat.le_of_ble_eq_true rfl) d_M_enter_147 (fun H locs hP hD hS => ?_)
                      have hP : va_P D vwCl (Wm am gm sLen sKind sExt sMust rTab rFil mNum rLen rItm made pItm held dByt dLen ver fAdr fTab adr tab lf mCode row mWr mWid mOv mPl mTh mSp mPile mNext mSh mShs mRea (if mWg < 0 then (nI ((vN dByt dLen x) + 2)) else mWg) (mEn + 1) mDp mAt mTb mSt) H := hP
                      have hD : va_D A (Wm am gm sLen sKind sExt sMust rTab rFil mNum rLen rItm made pItm held dByt dLen ver fAdr fTab adr tab lf mCode row mWr mWid mOv mPl mTh mSp mPile mNext mSh mShs mRea (if mWg < 0 then (nI ((vN dByt dLen x) + 2)) else mWg) (mEn + 1) mDp mAt mTb mSt) := hD
                      refine W.eq (g2 := F0 m 150 ls []) rfl ?_
                      refine lv_aload_n hx hb d_M_enter_150 rfl (lv_at hl 2 rfl) ?_
                      refine va_get (D := D) (ci := 8) (C := R_M) (T := T_M) (N := 39) hx hb hts (fun w h => kT w (i_M w h)) hown hK hP 0 rfl rfl 36 (by decide) (hts _ (kT _ wd_4926ac37)) (fun _ h9 => h9) rfl d_M_enter_151 ?_
                      refine lv_aload_n hx hb d_M_enter_154 rfl (lv_at hl 2 rfl) ?_
                      refine va_get (D := D) (ci := 8) (C := R_M) (T := T_M) (N := 39) hx hb hts (fun w h => kT w (i_M w h)) hown hK hP 0 rfl rfl 35 (by decide) (hts _ (kT _ wd_8f75c4b2)) (fun _ h9 => h9) rfl d_M_enter_155 ?_
                      refine lv_iload_n hx hb d_M_enter_158 rfl (lv_at hl 3 rfl) ?_
                      refine n_iast hx hb hK hP hD hS 20 19 rfl rfl (i := mDp) (by omega) (by decide) d_M_enter_159 (fun H locs hP hD hS => ?_)
                      have hP : va_P D vwCl (Wm am gm sLen sKind sExt sMust rTab rFil mNum rLen rItm made pItm held dByt dLen ver fAdr fTab adr tab lf mCode row mWr mWid mOv mPl mTh mSp mPile mNext mSh mShs mRea (if mWg < 0 then (nI ((vN dByt dLen x) + 2)) else mWg) (mEn + 1) mDp (va_up mAt mDp x) mTb mSt) H := hP
                      have hD : va_D A (Wm am gm sLen sKind sExt sMust rTab rFil mNum rLen rItm made pItm held dByt dLen ver fAdr fTab adr tab lf mCode row mWr mWid mOv mPl mTh mSp mPile mNext mSh mShs mRea (if mWg < 0 then (nI ((vN dByt dLen x) + 2)) else mWg) (mEn + 1) mDp (va_up mAt mDp x) mTb mSt) := hD
                      refine lv_aload_n hx hb d_M_enter_160 rfl (lv_at hl 2 rfl) ?_
                      refine va_get (D := D) (ci := 8) (C := R_M) (T := T_M) (N := 39) hx hb hts (fun w h => kT w (i_M w h)) hown hK hP 0 rfl rfl 37 (by decide) (hts _ (kT _ wd_1951fc82)) (fun _ h9 => h9) rfl d_M_enter_161 ?_
                      refine lv_aload_n hx hb d_M_enter_164 rfl (lv_at hl 2 rfl) ?_
                      refine va_get (D := D) (ci := 8) (C := R_M) (T := T_M) (N := 39) hx hb hts (fun w h => kT w (i_M w h)) hown hK hP 0 rfl rfl 35 (by decide) (hts _ (kT _ wd_8f75c4b2)) (fun _ h9 => h9) rfl d_M_enter_165 ?_
                      refine lv_iload_n hx hb d_M_enter_168 rfl (lv_at hl 4 rfl) ?_
                      refine n_iast hx hb hK hP hD hS 21 20 rfl rfl (i := mDp) (by omega) (by decide) d_M_enter_169 (fun H locs hP hD hS => ?_)
                      have hP : va_P D vwCl (Wm am gm sLen sKind sExt sMust rTab rFil mNum rLen rItm made pItm held dByt dLen ver fAdr fTab adr tab lf mCode row mWr mWid mOv mPl mTh mSp mPile mNext mSh mShs mRea (if mWg < 0 then (nI ((vN dByt dLen x) + 2)) else mWg) (mEn + 1) mDp (va_up mAt mDp x) (va_up mTb mDp t) mSt) H := hP
                      have hD : va_D A (Wm am gm sLen sKind sExt sMust rTab rFil mNum rLen rItm made pItm held dByt dLen ver fAdr fTab adr tab lf mCode row mWr mWid mOv mPl mTh mSp mPile mNext mSh mShs mRea (if mWg < 0 then (nI ((vN dByt dLen x) + 2)) else mWg) (mEn + 1) mDp (va_up mAt mDp x) (va_up mTb mDp t) mSt) := hD
                      refine lv_aload_n hx hb d_M_enter_170 rfl (lv_at hl 2 rfl) ?_
                      refine va_get (D := D) (ci := 8) (C := R_M) (T := T_M) (N := 39) hx hb hts (fun w h => kT w (i_M w h)) hown hK hP 0 rfl rfl 38 (by decide) (hts _ (kT _ wd_1d293484)) (fun _ h9 => h9) rfl d_M_enter_171 ?_
                      refine lv_aload_n hx hb d_M_enter_174 rfl (lv_at hl 2 rfl) ?_
                      refine va_get (D := D) (ci := 8) (C := R_M) (T := T_M) (N := 39) hx hb hts (fun w h => kT w (i_M w h)) hown hK hP 0 rfl rfl 35 (by decide) (hts _ (kT _ wd_8f75c4b2)) (fun _ h9 => h9) rfl d_M_enter_175 ?_
                      refine lv_iconst (v := nI 0) hx hb d_M_enter_178 (by decide) ?_
                      refine n_iast hx hb hK hP hD hS 22 21 rfl rfl (i := mDp) (by omega) (by decide) d_M_enter_179 (fun H locs hP hD hS => ?_)
                      have hP : va_P D vwCl (Wm am gm sLen sKind sExt sMust rTab rFil mNum rLen rItm made pItm held dByt dLen ver fAdr fTab adr tab lf mCode row mWr mWid mOv mPl mTh mSp mPile mNext mSh mShs mRea (if mWg < 0 then (nI ((vN dByt dLen x) + 2)) else mWg) (mEn + 1) mDp (va_up mAt mDp x) (va_up mTb mDp t) (va_up mSt mDp 0)) H := hP
                      have hD : va_D A (Wm am gm sLen sKind sExt sMust rTab rFil mNum rLen rItm made pItm held dByt dLen ver fAdr fTab adr tab lf mCode row mWr mWid mOv mPl mTh mSp mPile mNext mSh mShs mRea (if mWg < 0 then (nI ((vN dByt dLen x) + 2)) else mWg) (mEn + 1) mDp (va_up mAt mDp x) (va_up mTb mDp t) (va_up mSt mDp 0)) := hD
                      refine lv_aload_n hx hb d_M_enter_180 rfl (lv_at hl 2 rfl) ?_
                      refine lv_dup hx hb d_M_enter_181 rfl ?_
                      refine va_get (D := D) (ci := 8) (C := R_M) (T := T_M) (N := 39) hx hb hts (fun w h => kT w (i_M w h)) hown hK hP 0 rfl rfl 35 (by decide) (hts _ (kT _ wd_8f75c4b2)) (fun _ h9 => h9) rfl d_M_enter_182 ?_
                      refine lv_iconst (v := nI 1) hx hb d_M_enter_185 (by decide) ?_
                      refine lv_iadd hx hb d_M_enter_186 ?_
                      refine lv_eqi (nI_add _ _) ?_
                      refine va_put (D := D) (ci := 8) (ty := .int) (C := R_M) (T := T_M) (N := 39) hx hb hts (fun w h => kT w (i_M w h)) ty_M tyk_M nm_M hown hK hP hD hS 0 rfl rfl 35 (by decide) (hts _ (kT _ wd_8f75c4b2)) (fun _ h9 => h9) rfl (by decide +kernel) rfl rfl (Nat.le_of_ble_eq_true rfl) d_M_enter_187 (fun H locs hP hD hS => ?_)
                      have hP : va_P D vwCl (Wm am gm sLen sKind sExt sMust rTab rFil mNum rLen rItm made pItm held dByt dLen ver fAdr fTab adr tab lf mCode row mWr mWid mOv mPl mTh mSp mPile mNext mSh mShs mRea (if mWg < 0 then (nI ((vN dByt dLen x) + 2)) else mWg) (mEn + 1) (mDp + 1) (va_up mAt mDp x) (va_up mTb mDp t) (va_up mSt mDp 0)) H := hP
                      have hD : va_D A (Wm am gm sLen sKind sExt sMust rTab rFil mNum rLen rItm made pItm held dByt dLen ver fAdr fTab adr tab lf mCode row mWr mWid mOv mPl mTh mSp mPile mNext mSh mShs mRea (if mWg < 0 then (nI ((vN dByt dLen x) + 2)) else mWg) (mEn + 1) (mDp + 1) (va_up mAt mDp x) (va_up mTb mDp t) (va_up mSt mDp 0)) := hD
                      have hio : ioF dByt dLen x (vN dByt dLen x) = nI (vN dByt dLen x + 2) := by rw [ioF, if_neg (by omega), if_pos (by omega)]
                      have hv : enV dByt dLen (MV.mk mWg mEn mDp mAt mTb mSt) x t to = MV.mk (if mWg < 0 then (nI ((vN dByt dLen x) + 2)) else mWg) (mEn + 1) (mDp + 1) (va_up mAt mDp x) (va_up mTb mDp t) (va_up mSt mDp 0) := by rw [enV, if_neg (by show ¬ (_ ∨ _ ∨ mEn = 16 ∨ mDp = 6); omega), if_neg (by rw [c_55]; simp), hio, if_neg (nI_m1 (by omega))]
                      exact k_vret hx hb hr hlocks hK hP hD hS (trivial) (by rw [hv]; first | done | rfl) d_M_enter_190
                · skip
                  have c_101 := mt (nI_leI (by omega) (by omega)).mpr c_101
                  refine lv_aload_n hx hb d_M_enter_104 rfl (lv_at hl 2 rfl) ?_
                  refine lv_iload hx hb d_M_enter_105 (lv_at hl 1 rfl) ?_
                  refine k_callV (m_fail l D am gm tw sLen sKind sExt sMust rTab rFil mNum rLen rItm made pItm held dByt dLen ver fAdr fTab adr tab lf mCode row mWr mWid mOv mPl mTh mSp mPile mNext mSh mShs mRea mWg (mEn + 1) mDp mAt mTb mSt (nI (vN dByt dLen x))  ) m_M_fail wd_38303c4f 0 8 rfl rfl rfl kT hx hb hml hown hts ⟨Nat.le_of_ble_eq_true rfl, Nat.le_of_ble_eq_true rfl⟩ ⟨Nat.le_of_ble_eq_true rfl, Nat.le_of_ble_eq_true rfl⟩ hK hP hD hS hA hZ hl.1 rfl rfl (Nat.le_of_ble_eq_true rfl) d_M_enter_107 (fun H locs hP hD hS => ?_)
                  have hP : va_P D vwCl (Wm am gm sLen sKind sExt sMust rTab rFil mNum rLen rItm made pItm held dByt dLen ver fAdr fTab adr tab lf mCode row mWr mWid mOv mPl mTh mSp mPile mNext mSh mShs mRea (if mWg < 0 then (nI (vN dByt dLen x)) else mWg) (mEn + 1) mDp mAt mTb mSt) H := hP
                  have hD : va_D A (Wm am gm sLen sKind sExt sMust rTab rFil mNum rLen rItm made pItm held dByt dLen ver fAdr fTab adr tab lf mCode row mWr mWid mOv mPl mTh mSp mPile mNext mSh mShs mRea (if mWg < 0 then (nI (vN dByt dLen x)) else mWg) (mEn + 1) mDp mAt mTb mSt) := hD
                  refine W.eq (g2 := F0 m 110 ls []) rfl ?_
                  refine lv_goto (tgt := 150) hx hb d_M_enter_110 (by decide) ?_
                  refine lv_aload_n hx hb d_M_enter_150 rfl (lv_at hl 2 rfl) ?_
                  refine va_get (D := D) (ci := 8) (C := R_M) (T := T_M) (N := 39) hx hb hts (fun w h => kT w (i_M w h)) hown hK hP 0 rfl rfl 36 (by decide) (hts _ (kT _ wd_4926ac37)) (fun _ h9 => h9) rfl d_M_enter_151 ?_
                  refine lv_aload_n hx hb d_M_enter_154 rfl (lv_at hl 2 rfl) ?_
                  refine va_get (D := D) (ci := 8) (C := R_M) (T := T_M) (N := 39) hx hb hts (fun w h => kT w (i_M w h)) hown hK hP 0 rfl rfl 35 (by decide) (hts _ (kT _ wd_8f75c4b2)) (fun _ h9 => h9) rfl d_M_enter_155 ?_
                  refine lv_iload_n hx hb d_M_enter_158 rfl (lv_at hl 3 rfl) ?_
                  refine n_iast hx hb hK hP hD hS 20 19 rfl rfl (i := mDp) (by omega) (by decide) d_M_enter_159 (fun H locs hP hD hS => ?_)
                  have hP : va_P D vwCl (Wm am gm sLen sKind sExt sMust rTab rFil mNum rLen rItm made pItm held dByt dLen ver fAdr fTab adr tab lf mCode row mWr mWid mOv mPl mTh mSp mPile mNext mSh mShs mRea (if mWg < 0 then (nI (vN dByt dLen x)) else mWg) (mEn + 1) mDp (va_up mAt mDp x) mTb mSt) H := hP
                  have hD : va_D A (Wm am gm sLen sKind sExt sMust rTab rFil mNum rLen rItm made pItm held dByt dLen ver fAdr fTab adr tab lf mCode row mWr mWid mOv mPl mTh mSp mPile mNext mSh mShs mRea (if mWg < 0 then (nI (vN dByt dLen x)) else mWg) (mEn + 1) mDp (va_up mAt mDp x) mTb mSt) := hD
                  refine lv_aload_n hx hb d_M_enter_160 rfl (lv_at hl 2 rfl) ?_
                  refine va_get (D := D) (ci := 8) (C := R_M) (T := T_M) (N := 39) hx hb hts (fun w h => kT w (i_M w h)) hown hK hP 0 rfl rfl 37 (by decide) (hts _ (kT _ wd_1951fc82)) (fun _ h9 => h9) rfl d_M_enter_161 ?_
                  refine lv_aload_n hx hb d_M_enter_164 rfl (lv_at hl 2 rfl) ?_
                  refine va_get (D := D) (ci := 8) (C := R_M) (T := T_M) (N := 39) hx hb hts (fun w h => kT w (i_M w h)) hown hK hP 0 rfl rfl 35 (by decide) (hts _ (kT _ wd_8f75c4b2)) (fun _ h9 => h9) rfl d_M_enter_165 ?_
                  refine lv_iload_n hx hb d_M_enter_168 rfl (lv_at hl 4 rfl) ?_
                  refine n_iast hx hb hK hP hD hS 21 20 rfl rfl (i := mDp) (by omega) (by decide) d_M_enter_169 (fun H locs hP hD hS => ?_)
                  have hP : va_P D vwCl (Wm am gm sLen sKind sExt sMust rTab rFil mNum rLen rItm made pItm held dByt dLen ver fAdr fTab adr tab lf mCode row mWr mWid mOv mPl mTh mSp mPile mNext mSh mShs mRea (if mWg < 0 then (nI (vN dByt dLen x)) else mWg) (mEn + 1) mDp (va_up mAt mDp x) (va_up mTb mDp t) mSt) H := hP
                  have hD : va_D A (Wm am gm sLen sKind sExt sMust rTab rFil mNum rLen rItm made pItm held dByt dLen ver fAdr fTab adr tab lf mCode row mWr mWid mOv mPl mTh mSp mPile mNext mSh mShs mRea (if mWg < 0 then (nI (vN dByt dLen x)) else mWg) (mEn + 1) mDp (va_up mAt mDp x) (va_up mTb mDp t) mSt) := hD
                  refine lv_aload_n hx hb d_M_enter_170 rfl (lv_at hl 2 rfl) ?_
                  refine va_get (D := D) (ci := 8) (C := R_M) (T := T_M) (N := 39) hx hb hts (fun w h => kT w (i_M w h)) hown hK hP 0 rfl rfl 38 (by decide) (hts _ (kT _ wd_1d293484)) (fun _ h9 => h9) rfl d_M_enter_171 ?_
                  refine lv_aload_n hx hb d_M_enter_174 rfl (lv_at hl 2 rfl) ?_
                  refine va_get (D := D) (ci := 8) (C := R_M) (T := T_M) (N := 39) hx hb hts (fun w h => kT w (i_M w h)) hown hK hP 0 rfl rfl 35 (by decide) (hts _ (kT _ wd_8f75c4b2)) (fun _ h9 => h9) rfl d_M_enter_175 ?_
                  refine lv_iconst (v := nI 0) hx hb d_M_enter_178 (by decide) ?_
                  refine n_iast hx hb hK hP hD hS 22 21 rfl rfl (i := mDp) (by omega) (by decide) d_M_enter_179 (fun H locs hP hD hS => ?_)
                  have hP : va_P D vwCl (Wm am gm sLen sKind sExt sMust rTab rFil mNum rLen rItm made pItm held dByt dLen ver fAdr fTab adr tab lf mCode row mWr mWid mOv mPl mTh mSp mPile mNext mSh mShs mRea (if mWg < 0 then (nI (vN dByt dLen x)) else mWg) (mEn + 1) mDp (va_up mAt mDp x) (va_up mTb mDp t) (va_up mSt mDp 0)) H := hP
                  have hD : va_D A (Wm am gm sLen sKind sExt sMust rTab rFil mNum rLen rItm made pItm held dByt dLen ver fAdr fTab adr tab lf mCode row mWr mWid mOv mPl mTh mSp mPile mNext mSh mShs mRea (if mWg < 0 then (nI (vN dByt dLen x)) else mWg) (mEn + 1) mDp (va_up mAt mDp x) (va_up mTb mDp t) (va_up mSt mDp 0)) := hD
                  refine lv_aload_n hx hb d_M_enter_180 rfl (lv_at hl 2 rfl) ?_
                  refine lv_dup hx hb d_M_enter_181 rfl ?_
                  refine va_get (D := D) (ci := 8) (C := R_M) (T := T_M) (N := 39) hx hb hts (fun w h => kT w (i_M w h)) hown hK hP 0 rfl rfl 35 (by decide) (hts _ (kT _ wd_8f75c4b2)) (fun _ h9 => h9) rfl d_M_enter_182 ?_
                  refine lv_iconst (v := nI 1) hx hb d_M_enter_185 (by decide) ?_
                  refine lv_iadd hx hb d_M_enter_186 ?_
                  refine lv_eqi (nI_add _ _) ?_
                  refine va_put (D := D) (ci := 8) (ty := .int) (C := R_M) (T := T_M) (N := 39) hx hb hts (fun w h => kT w (i_M w h)) ty_M tyk_M nm_M hown hK hP hD hS 0 rfl rfl 35 (by decide) (hts _ (kT _ wd_8f75c4b2)) (fun _ h9 => h9) rfl (by decide +kernel) rfl rfl (Nat.le_of_ble_eq_true rfl) d_M_enter_187 (fun H locs hP hD hS => ?_)
                  have hP : va_P D vwCl (Wm am gm sLen sKind sExt sMust rTab rFil mNum rLen rItm made pItm held dByt dLen ver fAdr fTab adr tab lf mCode row mWr mWid mOv mPl mTh mSp mPile mNext mSh mShs mRea (if mWg < 0 then (nI (vN dByt dLen x)) else mWg) (mEn + 1) (mDp + 1) (va_up mAt mDp x) (va_up mTb mDp t) (va_up mSt mDp 0)) H := hP
                  have hD : va_D A (Wm am gm sLen sKind sExt sMust rTab rFil mNum rLen rItm made pItm held dByt dLen ver fAdr fTab adr tab lf mCode row mWr mWid mOv mPl mTh mSp mPile mNext mSh mShs mRea (if mWg < 0 then (nI (vN dByt dLen x)) else mWg) (mEn + 1) (mDp + 1) (va_up mAt mDp x) (va_up mTb mDp t) (va_up mSt mDp 0)) := hD
                  have hio : ioF dByt dLen x (vN dByt dLen x) = nI (vN dByt dLen x) := by rw [ioF, if_pos (by omega)]
                  have hv : enV dByt dLen (MV.mk mWg mEn mDp mAt mTb mSt) x t to = MV.mk (if mWg < 0 then (nI (vN dByt dLen x)) else mWg) (mEn + 1) (mDp + 1) (va_up mAt mDp x) (va_up mTb mDp t) (va_up mSt mDp 0) := by rw [enV, if_neg (by show ¬ (_ ∨ _ ∨ mEn = 16 ∨ mDp = 6); omega), if_neg (by rw [c_55]; simp), hio, if_neg (nI_m1 (by omega))]
                  exact k_vret hx hb hr hlocks hK hP hD hS (trivial) (by rw [hv]; first | done | rfl) d_M_enter_190
          · skip
            have c_55 := mt (bI_0).mpr c_55
            have c_55 := eq_true_of_ne_false c_55
            refine lv_aload_n hx hb d_M_enter_58 rfl (lv_at hl 0 rfl) ?_
            refine lv_iload_n hx hb d_M_enter_59 rfl (lv_at hl 1 rfl) ?_
            refine k_callV (m_fail l D am gm tw sLen sKind sExt sMust rTab rFil mNum rLen rItm made pItm held dByt dLen ver fAdr fTab adr tab lf mCode row mWr mWid mOv mPl mTh mSp mPile mNext mSh mShs mRea mWg (mEn + 1) mDp mAt mTb mSt (nI x)  ) m_M_fail wd_38303c4f 0 8 rfl rfl rfl kT hx hb hml hown hts ⟨Nat.le_of_ble_eq_true rfl, Nat.le_of_ble_eq_true rfl⟩ ⟨Nat.le_of_ble_eq_true rfl, Nat.le_of_ble_eq_true rfl⟩ hK hP hD hS hA hZ hl.1 rfl rfl (Nat.le_of_ble_eq_true rfl) d_M_enter_60 (fun H locs hP hD hS => ?_)
            have hP : va_P D vwCl (Wm am gm sLen sKind sExt sMust rTab rFil mNum rLen rItm made pItm held dByt dLen ver fAdr fTab adr tab lf mCode row mWr mWid mOv mPl mTh mSp mPile mNext mSh mShs mRea (if mWg < 0 then (nI x) else mWg) (mEn + 1) mDp mAt mTb mSt) H := hP
            have hD : va_D A (Wm am gm sLen sKind sExt sMust rTab rFil mNum rLen rItm made pItm held dByt dLen ver fAdr fTab adr tab lf mCode row mWr mWid mOv mPl mTh mSp mPile mNext mSh mShs mRea (if mWg < 0 then (nI x) else mWg) (mEn + 1) mDp mAt mTb mSt) := hD
            refine W.eq (g2 := F0 m 63 ls []) rfl ?_
            have hv : enV dByt dLen (MV.mk mWg mEn mDp mAt mTb mSt) x t to = (MV.mk mWg (mEn + 1) mDp mAt mTb mSt).fl (nI x) := by rw [enV, if_neg (by show ¬ (_ ∨ _ ∨ mEn = 16 ∨ mDp = 6); omega), if_pos c_55]
            exact k_vret hx hb hr hlocks hK hP hD hS (trivial) (by rw [hv]; first | done | rfl) d_M_enter_63
        · skip
          have c_31 := (nI_eq (by omega) (by omega)).mp c_31
          refine lv_aload_n hx hb d_M_enter_34 rfl (lv_at hl 0 rfl) ?_
          refine lv_iload_n hx hb d_M_enter_35 rfl (lv_at hl 3 rfl) ?_
          refine k_callV (m_fail l D am gm tw sLen sKind sExt sMust rTab rFil mNum rLen rItm made pItm held dByt dLen ver fAdr fTab adr tab lf mCode row mWr mWid mOv mPl mTh mSp mPile mNext mSh mShs mRea mWg mEn mDp mAt mTb mSt (nI to)  ) m_M_fail wd_38303c4f 0 8 rfl rfl rfl kT hx hb hml hown hts ⟨Nat.le_of_ble_eq_true rfl, Nat.le_of_ble_eq_true rfl⟩ ⟨Nat.le_of_ble_eq_true rfl, Nat.le_of_ble_eq_true rfl⟩ hK hP hD hS hA hZ hl.1 rfl rfl (Nat.le_of_ble_eq_true rfl) d_M_enter_36 (fun H locs hP hD hS => ?_)
          have hP : va_P D vwCl (Wm am gm sLen sKind sExt sMust rTab rFil mNum rLen rItm made pItm held dByt dLen ver fAdr fTab adr tab lf mCode row mWr mWid mOv mPl mTh mSp mPile mNext mSh mShs mRea (if mWg < 0 then (nI to) else mWg) mEn mDp mAt mTb mSt) H := hP
          have hD : va_D A (Wm am gm sLen sKind sExt sMust rTab rFil mNum rLen rItm made pItm held dByt dLen ver fAdr fTab adr tab lf mCode row mWr mWid mOv mPl mTh mSp mPile mNext mSh mShs mRea (if mWg < 0 then (nI to) else mWg) mEn mDp mAt mTb mSt) := hD
          refine W.eq (g2 := F0 m 39 ls []) rfl ?_
          have hv : enV dByt dLen (MV.mk mWg mEn mDp mAt mTb mSt) x t to = (MV.mk mWg mEn mDp mAt mTb mSt).fl (nI to) := by rw [enV, if_pos (by show _ ∨ _ ∨ mEn = 16 ∨ mDp = 6; omega)]
          exact k_vret hx hb hr hlocks hK hP hD hS (trivial) (by rw [hv]; first | done | rfl) d_M_enter_39
set_option maxHeartbeats 4000000 in
set_option maxRecDepth 100000 in
theorem m_elements (l : Launch) (D : va_G) (am : Nat → Nat) (gm : Nat → ClassId) (tw : Nat) (sLen sKind : Nat → Nat) (sExt : Nat → Int32) (sMust : Nat → Bool) (rTab : Nat → Nat) (rFil : Nat → Bool) (mNum : Nat → Int64) (rLen : Nat → Nat) (rItm : Nat → Int32) (made : Nat) (pItm : Nat → Int32) (held : Nat) (dByt : Nat → Nat) (dLen : Nat) (ver : Bool) (fAdr fTab adr tab : Nat) (lf : Int32) (mCode : Nat) (row : Nat → Nat) (mWr mWid : Nat) (mOv : Bool) (mPl mTh mSp mPile mNext mSh : Nat → Nat) (mShs : Nat) (mRea : Nat → Bool) (mWg : Int32) (mEn mDp : Nat) (mAt mTb mSt : Nat → Nat) (p0 : Nat) (x : Nat) (tx : Bool) (kd : Nat) (hx0 : x < 1000000) (htx : tx = decide (kd = 4)) (hkd : kd = 4 ∨ kd = 5) (hB : ∀ k, dByt k < 256) (hd : dLen ≤ 240) : kM l y_M_elements b_M_elements 5 none ({ frames := 3, cells := 0, slots := 0, locals := 63 }) D vwCl (WmT gm) tw [.ref (am 0), .int (nI p0), .int (nI x), .int (bI tx)] (Wm am gm sLen sKind sExt sMust rTab rFil mNum rLen rItm made pItm held dByt dLen ver fAdr fTab adr tab lf mCode row mWr mWid mOv mPl mTh mSp mPile mNext mSh mShs mRea mWg mEn mDp mAt mTb mSt) none (Wm am gm sLen sKind sExt sMust rTab rFil mNum rLen rItm made pItm held dByt dLen ver fAdr fTab adr tab lf mCode row mWr mWid mOv mPl mTh mSp mPile mNext mSh mShs mRea (if sdF dByt dLen kd x = true then mWg else if mWg < 0 then nI p0 else mWg) mEn mDp mAt mTb mSt) := by
  refine k_of (by decide) (Nat.le_of_ble_eq_true rfl) ?_
  intro p e s m below meth c A ls hx hb hr hlocks hml hts hown hin0 hA hP hK hD hS hZ hl
  have hl : lv_has ls 5 [(0, .ref (am 0)), (1, .int (nI p0)), (2, .int (nI x)), (3, .int (bI tx))] := hl
  refine lv_iload_n hx hb d_M_elements_0 rfl (lv_at hl 2 rfl) ?_
  refine lv_iconst (v := nI 4) hx hb d_M_elements_1 (by decide) ?_
  refine lv_irem hx hb d_M_elements_2 (nI_ne0 (by omega) (by omega)) ?_
  refine lv_eqi (pk_rem (by omega) (by omega) (by omega)) ?_
  refine lv_if_ne (tgt := 16) hx hb d_M_elements_3 (by decide) (fun c_3 => ?_) (fun c_3 => ?_)
  · skip
    have c_3 := mt (z_eq (by omega)).mpr c_3
    refine lv_aload_n hx hb d_M_elements_16 rfl (lv_at hl 0 rfl) ?_
    refine lv_iload_n hx hb d_M_elements_17 rfl (lv_at hl 1 rfl) ?_
    refine k_callV (m_fail l D am gm tw sLen sKind sExt sMust rTab rFil mNum rLen rItm made pItm held dByt dLen ver fAdr fTab adr tab lf mCode row mWr mWid mOv mPl mTh mSp mPile mNext mSh mShs mRea mWg mEn mDp mAt mTb mSt (nI p0)  ) m_M_fail wd_38303c4f 0 8 rfl rfl rfl kT hx hb hml hown hts ⟨Nat.le_of_ble_eq_true rfl, Nat.le_of_ble_eq_true rfl⟩ ⟨Nat.le_of_ble_eq_true rfl, Nat.le_of_ble_eq_true rfl⟩ hK hP hD hS hA hZ hl.1 rfl rfl (Nat.le_of_ble_eq_true rfl) d_M_elements_18 (fun H locs hP hD hS => ?_)
    have hP : va_P D vwCl (Wm am gm sLen sKind sExt sMust rTab rFil mNum rLen rItm made pItm held dByt dLen ver fAdr fTab adr tab lf mCode row mWr mWid mOv mPl mTh mSp mPile mNext mSh mShs mRea (if mWg < 0 then (nI p0) else mWg) mEn mDp mAt mTb mSt) H := hP
    have hD : va_D A (Wm am gm sLen sKind sExt sMust rTab rFil mNum rLen rItm made pItm held dByt dLen ver fAdr fTab adr tab lf mCode row mWr mWid mOv mPl mTh mSp mPile mNext mSh mShs mRea (if mWg < 0 then (nI p0) else mWg) mEn mDp mAt mTb mSt) := hD
    refine W.eq (g2 := F0 m 21 ls []) rfl ?_
    have hs : sdF dByt dLen kd x = false := decide_eq_false (by omega)
    exact k_vret hx hb hr hlocks hK hP hD hS (trivial) (by rw [if_neg (show ¬ sdF dByt dLen kd x = true by rw [hs]; simp)]) d_M_elements_21
  · skip
    have c_3 := (z_eq (by omega)).mp c_3
    refine lv_iload_n hx hb d_M_elements_6 rfl (lv_at hl 2 rfl) ?_
    refine lv_iconst (v := nI 4) hx hb d_M_elements_7 (by decide) ?_
    refine lv_iadd hx hb d_M_elements_8 ?_
    refine lv_eqi (nI_add _ _) ?_
    refine lv_aload_n hx hb d_M_elements_9 rfl (lv_at hl 0 rfl) ?_
    refine va_get (D := D) (ci := 8) (C := R_M) (T := T_M) (N := 39) hx hb hts (fun w h => kT w (i_M w h)) hown hK hP 0 rfl rfl 26 (by decide) (hts _ (kT _ wd_3139de6a)) (fun _ h9 => h9) rfl d_M_elements_10 ?_
    refine lv_icmp_le (tgt := 22) hx hb d_M_elements_13 (by decide) (fun c_13 => ?_) (fun c_13 => ?_)
    · skip
      have c_13 := (nI_leI (by omega) (by omega)).mp c_13
      refine lv_aload_n hx hb d_M_elements_22 rfl (lv_at hl 0 rfl) ?_
      refine lv_iload_n hx hb d_M_elements_23 rfl (lv_at hl 2 rfl) ?_
      refine k_callV (m_offset4 l D am gm tw sLen sKind sExt sMust rTab rFil mNum rLen rItm made pItm held dByt dLen ver fAdr fTab adr tab lf mCode row mWr mWid mOv mPl mTh mSp mPile mNext mSh mShs mRea mWg mEn mDp mAt mTb mSt x  (by omega) hB hd) m_M_offset4 wd_fe38dba4 0 8 rfl rfl rfl kT hx hb hml hown hts ⟨Nat.le_of_ble_eq_true rfl, Nat.le_of_ble_eq_true rfl⟩ ⟨Nat.le_of_ble_eq_true rfl, Nat.le_of_ble_eq_true rfl⟩ hK hP hD hS hA hZ hl.1 rfl rfl (Nat.le_of_ble_eq_true rfl) d_M_elements_24 (fun H locs hP hD hS => ?_)
      have hP : va_P D vwCl (Wm am gm sLen sKind sExt sMust rTab rFil mNum rLen rItm made pItm held dByt dLen ver fAdr fTab adr tab lf mCode row mWr mWid mOv mPl mTh mSp mPile mNext mSh mShs mRea mWg mEn mDp mAt mTb mSt) H := hP
      have hD : va_D A (Wm am gm sLen sKind sExt sMust rTab rFil mNum rLen rItm made pItm held dByt dLen ver fAdr fTab adr tab lf mCode row mWr mWid mOv mPl mTh mSp mPile mNext mSh mShs mRea mWg mEn mDp mAt mTb mSt) := hD
      refine W.eq (g2 := F0 m 27 ls [.int (nI (min (leN dByt dLen (nI x) 4) 100000))]) rfl ?_
      generalize hcn : min (leN dByt dLen (nI x) 4) 100000 = cn
      have hcm : cn ≤ 100000 := by rw [← hcn]; exact Nat.min_le_right _ _
      refine lv_istore (lv' := [(4, .int (nI cn)), (0, .ref (am 0)), (1, .int (nI p0)), (2, .int (nI x)), (3, .int (bI tx))]) hx hb d_M_elements_27 hl (by decide) rfl (fun ls hl => ?_)
      refine lv_iload hx hb d_M_elements_29 (lv_at hl 0 rfl) ?_
      refine lv_sipush (v := nI 200) hx hb d_M_elements_31 (by decide) ?_
      refine lv_icmp_gt (tgt := 63) hx hb d_M_elements_34 (by decide) (fun c_34 => ?_) (fun c_34 => ?_)
      · skip
        have c_34 := (nI_ltI (by omega) (by omega)).mp c_34
        refine lv_aload_n hx hb d_M_elements_63 rfl (lv_at hl 1 rfl) ?_
        refine lv_iload_n hx hb d_M_elements_64 rfl (lv_at hl 2 rfl) ?_
        refine k_callV (m_fail l D am gm tw sLen sKind sExt sMust rTab rFil mNum rLen rItm made pItm held dByt dLen ver fAdr fTab adr tab lf mCode row mWr mWid mOv mPl mTh mSp mPile mNext mSh mShs mRea mWg mEn mDp mAt mTb mSt (nI p0)  ) m_M_fail wd_38303c4f 0 8 rfl rfl rfl kT hx hb hml hown hts ⟨Nat.le_of_ble_eq_true rfl, Nat.le_of_ble_eq_true rfl⟩ ⟨Nat.le_of_ble_eq_true rfl, Nat.le_of_ble_eq_true rfl⟩ hK hP hD hS hA hZ hl.1 rfl rfl (Nat.le_of_ble_eq_true rfl) d_M_elements_65 (fun H locs hP hD hS => ?_)
        have hP : va_P D vwCl (Wm am gm sLen sKind sExt sMust rTab rFil mNum rLen rItm made pItm held dByt dLen ver fAdr fTab adr tab lf mCode row mWr mWid mOv mPl mTh mSp mPile mNext mSh mShs mRea (if mWg < 0 then (nI p0) else mWg) mEn mDp mAt mTb mSt) H := hP
        have hD : va_D A (Wm am gm sLen sKind sExt sMust rTab rFil mNum rLen rItm made pItm held dByt dLen ver fAdr fTab adr tab lf mCode row mWr mWid mOv mPl mTh mSp mPile mNext mSh mShs mRea (if mWg < 0 then (nI p0) else mWg) mEn mDp mAt mTb mSt) := hD
        refine W.eq (g2 := F0 m 68 ls []) rfl ?_
        refine lv_goto (tgt := 94) hx hb d_M_elements_68 (by decide) ?_
        have hs : sdF dByt dLen kd x = false := decide_eq_false (by rw [hcn]; omega)
        exact k_vret hx hb hr hlocks hK hP hD hS (trivial) (by rw [if_neg (show ¬ sdF dByt dLen kd x = true by rw [hs]; simp)]) d_M_elements_94
      · skip
        have c_34 := mt (nI_ltI (by omega) (by omega)).mpr c_34
        refine lv_iload_n hx hb d_M_elements_37 rfl (lv_at hl 3 rfl) ?_
        refine lv_iconst (v := nI 4) hx hb d_M_elements_38 (by decide) ?_
        refine lv_iadd hx hb d_M_elements_39 ?_
        refine lv_eqi (nI_add _ _) ?_
        refine lv_iload_n hx hb d_M_elements_40 rfl (lv_at hl 4 rfl) ?_
        refine lv_if_eq (tgt := 51) hx hb d_M_elements_41 (by decide) (fun c_41 => ?_) (fun c_41 => ?_)
        · skip
          have c_41 := (bI_0).mp c_41
          have hk4 : ¬ kd = 4 := of_decide_eq_false (htx.symm.trans c_41)
          refine lv_iconst (v := nI 2) hx hb d_M_elements_51 (by decide) ?_
          refine lv_iload hx hb d_M_elements_52 (lv_at hl 0 rfl) ?_
          refine lv_imul hx hb d_M_elements_54 ?_
          refine lv_eqi (pk_mul _ _) ?_
          refine lv_iadd hx hb d_M_elements_55 ?_
          refine lv_eqi (nI_add _ _) ?_
          refine lv_aload_n hx hb d_M_elements_56 rfl (lv_at hl 1 rfl) ?_
          refine va_get (D := D) (ci := 8) (C := R_M) (T := T_M) (N := 39) hx hb hts (fun w h => kT w (i_M w h)) hown hK hP 0 rfl rfl 26 (by decide) (hts _ (kT _ wd_3139de6a)) (fun _ h9 => h9) rfl d_M_elements_57 ?_
          refine lv_icmp_le (tgt := 71) hx hb d_M_elements_60 (by decide) (fun c_60 => ?_) (fun c_60 => ?_)
          · skip
            have c_60 := (nI_leI (by omega) (by omega)).mp c_60
            refine lv_iload_n hx hb d_M_elements_71 rfl (lv_at hl 4 rfl) ?_
            refine lv_if_eq (tgt := 94) hx hb d_M_elements_72 (by decide) (fun c_72 => ?_) (fun c_72 => ?_)
            · skip
              have c_72 := (bI_0).mp c_72
              have hk4e : ¬ kd = 4 := of_decide_eq_false (htx.symm.trans c_72)
              have hs : sdF dByt dLen kd x = true := decide_eq_true (by rw [hcn]; omega)
              exact k_vret hx hb hr hlocks hK hP hD hS (trivial) (by rw [if_pos hs]) d_M_elements_94
            · skip
              have c_72 := mt (bI_0).mpr c_72
              have c_72 := eq_true_of_ne_false c_72
              have hk4b : kd = 4 := of_decide_eq_true (htx.symm.trans c_72)
              refine lv_aload_n hx hb d_M_elements_75 rfl (lv_at hl 1 rfl) ?_
              refine va_get (D := D) (ci := 8) (C := R_M) (T := T_M) (N := 39) hx hb hts (fun w h => kT w (i_M w h)) hown hK hP 0 rfl rfl 25 (by decide) (hts _ (kT _ wd_2dbf250b)) (fun _ h9 => h9) rfl d_M_elements_76 ?_
              refine lv_iload_n hx hb d_M_elements_79 rfl (lv_at hl 3 rfl) ?_
              refine lv_iconst (v := nI 4) hx hb d_M_elements_80 (by decide) ?_
              refine lv_iadd hx hb d_M_elements_81 ?_
              refine lv_eqi (nI_add _ _) ?_
              refine lv_iload hx hb d_M_elements_82 (lv_at hl 0 rfl) ?_
              refine lv_iadd hx hb d_M_elements_84 ?_
              refine lv_eqi (nI_add _ _) ?_
              refine n_iald hx hb hK hP 19 18 rfl rfl (i := ((x + 4) + cn)) (by omega) (by decide) d_M_elements_85 ?_
              have hbb := hB (x + 4 + cn)
              refine lv_if_eq (tgt := 94) hx hb d_M_elements_86 (by decide) (fun c_86 => ?_) (fun c_86 => ?_)
              · skip
                have c_86 := (z_eq (by omega)).mp c_86
                have hb1 : leN dByt dLen (nI (x + 4 + cn)) 1 = dByt (x + 4 + cn) := by rw [le1 (hasF_in (by omega) (by omega)), cN_nI (by omega)]
                have hs : sdF dByt dLen kd x = true := decide_eq_true (by rw [hcn]; omega)
                exact k_vret hx hb hr hlocks hK hP hD hS (trivial) (by rw [if_pos hs]) d_M_elements_94
              · skip
                have c_86 := mt (z_eq (by omega)).mpr c_86
                refine lv_aload_n hx hb d_M_elements_89 rfl (lv_at hl 1 rfl) ?_
                refine lv_iload_n hx hb d_M_elements_90 rfl (lv_at hl 2 rfl) ?_
                refine k_callV (m_fail l D am gm tw sLen sKind sExt sMust rTab rFil mNum rLen rItm made pItm held dByt dLen ver fAdr fTab adr tab lf mCode row mWr mWid mOv mPl mTh mSp mPile mNext mSh mShs mRea mWg mEn mDp mAt mTb mSt (nI p0)  ) m_M_fail wd_38303c4f 0 8 rfl rfl rfl kT hx hb hml hown hts ⟨Nat.le_of_ble_eq_true rfl, Nat.le_of_ble_eq_true rfl⟩ ⟨Nat.le_of_ble_eq_true rfl, Nat.le_of_ble_eq_true rfl⟩ hK hP hD hS hA hZ hl.1 rfl rfl (Nat.le_of_ble_eq_true rfl) d_M_elements_91 (fun H locs hP hD hS => ?_)
                have hP : va_P D vwCl (Wm am gm sLen sKind sExt sMust rTab rFil mNum rLen rItm made pItm held dByt dLen ver fAdr fTab adr tab lf mCode row mWr mWid mOv mPl mTh mSp mPile mNext mSh mShs mRea (if mWg < 0 then (nI p0) else mWg) mEn mDp mAt mTb mSt) H := hP
                have hD : va_D A (Wm am gm sLen sKind sExt sMust rTab rFil mNum rLen rItm made pItm held dByt dLen ver fAdr fTab adr tab lf mCode row mWr mWid mOv mPl mTh mSp mPile mNext mSh mShs mRea (if mWg < 0 then (nI p0) else mWg) mEn mDp mAt mTb mSt) := hD
                refine W.eq (g2 := F0 m 94 ls []) rfl ?_
                have hb1 : leN dByt dLen (nI (x + 4 + cn)) 1 = dByt (x + 4 + cn) := by rw [le1 (hasF_in (by omega) (by omega)), cN_nI (by omega)]
                have hs : sdF dByt dLen kd x = false := decide_eq_false (by rw [hcn]; omega)
                exact k_vret hx hb hr hlocks hK hP hD hS (trivial) (by rw [if_neg (show ¬ sdF dByt dLen kd x = true by rw [hs]; simp)]) d_M_elements_94
          · skip
            have c_60 := mt (nI_leI (by omega) (by omega)).mpr c_60
            refine lv_aload_n hx hb d_M_elements_63 rfl (lv_at hl 1 rfl) ?_
            refine lv_iload_n hx hb d_M_elements_64 rfl (lv_at hl 2 rfl) ?_
            refine k_callV (m_fail l D am gm tw sLen sKind sExt sMust rTab rFil mNum rLen rItm made pItm held dByt dLen ver fAdr fTab adr tab lf mCode row mWr mWid mOv mPl mTh mSp mPile mNext mSh mShs mRea mWg mEn mDp mAt mTb mSt (nI p0)  ) m_M_fail wd_38303c4f 0 8 rfl rfl rfl kT hx hb hml hown hts ⟨Nat.le_of_ble_eq_true rfl, Nat.le_of_ble_eq_true rfl⟩ ⟨Nat.le_of_ble_eq_true rfl, Nat.le_of_ble_eq_true rfl⟩ hK hP hD hS hA hZ hl.1 rfl rfl (Nat.le_of_ble_eq_true rfl) d_M_elements_65 (fun H locs hP hD hS => ?_)
            have hP : va_P D vwCl (Wm am gm sLen sKind sExt sMust rTab rFil mNum rLen rItm made pItm held dByt dLen ver fAdr fTab adr tab lf mCode row mWr mWid mOv mPl mTh mSp mPile mNext mSh mShs mRea (if mWg < 0 then (nI p0) else mWg) mEn mDp mAt mTb mSt) H := hP
            have hD : va_D A (Wm am gm sLen sKind sExt sMust rTab rFil mNum rLen rItm made pItm held dByt dLen ver fAdr fTab adr tab lf mCode row mWr mWid mOv mPl mTh mSp mPile mNext mSh mShs mRea (if mWg < 0 then (nI p0) else mWg) mEn mDp mAt mTb mSt) := hD
            refine W.eq (g2 := F0 m 68 ls []) rfl ?_
            refine lv_goto (tgt := 94) hx hb d_M_elements_68 (by decide) ?_
            have hs : sdF dByt dLen kd x = false := decide_eq_false (by rw [hcn]; omega)
            exact k_vret hx hb hr hlocks hK hP hD hS (trivial) (by rw [if_neg (show ¬ sdF dByt dLen kd x = true by rw [hs]; simp)]) d_M_elements_94
        · skip
          have c_41 := mt (bI_0).mpr c_41
          have c_41 := eq_true_of_ne_false c_41
          have hk4 : kd = 4 := of_decide_eq_true (htx.symm.trans c_41)
          refine lv_iload hx hb d_M_elements_44 (lv_at hl 0 rfl) ?_
          refine lv_iconst (v := nI 1) hx hb d_M_elements_46 (by decide) ?_
          refine lv_iadd hx hb d_M_elements_47 ?_
          refine lv_eqi (nI_add _ _) ?_
          refine lv_goto (tgt := 55) hx hb d_M_elements_48 (by decide) ?_
          refine lv_iadd hx hb d_M_elements_55 ?_
          refine lv_eqi (nI_add _ _) ?_
          refine lv_aload_n hx hb d_M_elements_56 rfl (lv_at hl 1 rfl) ?_
          refine va_get (D := D) (ci := 8) (C := R_M) (T := T_M) (N := 39) hx hb hts (fun w h => kT w (i_M w h)) hown hK hP 0 rfl rfl 26 (by decide) (hts _ (kT _ wd_3139de6a)) (fun _ h9 => h9) rfl d_M_elements_57 ?_
          refine lv_icmp_le (tgt := 71) hx hb d_M_elements_60 (by decide) (fun c_60 => ?_) (fun c_60 => ?_)
          · skip
            have c_60 := (nI_leI (by omega) (by omega)).mp c_60
            refine lv_iload_n hx hb d_M_elements_71 rfl (lv_at hl 4 rfl) ?_
            refine lv_if_eq (tgt := 94) hx hb d_M_elements_72 (by decide) (fun c_72 => ?_) (fun c_72 => ?_)
            · skip
              have c_72 := (bI_0).mp c_72
              have hk4e : ¬ kd = 4 := of_decide_eq_false (htx.symm.trans c_72)
              have hs : sdF dByt dLen kd x = true := decide_eq_true (by rw [hcn]; omega)
              exact k_vret hx hb hr hlocks hK hP hD hS (trivial) (by rw [if_pos hs]) d_M_elements_94
            · skip
              have c_72 := mt (bI_0).mpr c_72
              have c_72 := eq_true_of_ne_false c_72
              have hk4b : kd = 4 := of_decide_eq_true (htx.symm.trans c_72)
              refine lv_aload_n hx hb d_M_elements_75 rfl (lv_at hl 1 rfl) ?_
              refine va_get (D := D) (ci := 8) (C := R_M) (T := T_M) (N := 39) hx hb hts (fun w h => kT w (i_M w h)) hown hK hP 0 rfl rfl 25 (by decide) (hts _ (kT _ wd_2dbf250b)) (fun _ h9 => h9) rfl d_M_elements_76 ?_
              refine lv_iload_n hx hb d_M_elements_79 rfl (lv_at hl 3 rfl) ?_
              refine lv_iconst (v := nI 4) hx hb d_M_elements_80 (by decide) ?_
              refine lv_iadd hx hb d_M_elements_81 ?_
              refine lv_eqi (nI_add _ _) ?_
              refine lv_iload hx hb d_M_elements_82 (lv_at hl 0 rfl) ?_
              refine lv_iadd hx hb d_M_elements_84 ?_
              refine lv_eqi (nI_add _ _) ?_
              refine n_iald hx hb hK hP 19 18 rfl rfl (i := ((x + 4) + cn)) (by omega) (by decide) d_M_elements_85 ?_
              have hbb := hB (x + 4 + cn)
              refine lv_if_eq (tgt := 94) hx hb d_M_elements_86 (by decide) (fun c_86 => ?_) (fun c_86 => ?_)
              · skip
                have c_86 := (z_eq (by omega)).mp c_86
                have hb1 : leN dByt dLen (nI (x + 4 + cn)) 1 = dByt (x + 4 + cn) := by rw [le1 (hasF_in (by omega) (by omega)), cN_nI (by omega)]
                have hs : sdF dByt dLen kd x = true := decide_eq_true (by rw [hcn]; omega)
                exact k_vret hx hb hr hlocks hK hP hD hS (trivial) (by rw [if_pos hs]) d_M_elements_94
              · skip
                have c_86 := mt (z_eq (by omega)).mpr c_86
                refine lv_aload_n hx hb d_M_elements_89 rfl (lv_at hl 1 rfl) ?_
                refine lv_iload_n hx hb d_M_elements_90 rfl (lv_at hl 2 rfl) ?_
                refine k_callV (m_fail l D am gm tw sLen sKind sExt sMust rTab rFil mNum rLen rItm made pItm held dByt dLen ver fAdr fTab adr tab lf mCode row mWr mWid mOv mPl mTh mSp mPile mNext mSh mShs mRea mWg mEn mDp mAt mTb mSt (nI p0)  ) m_M_fail wd_38303c4f 0 8 rfl rfl rfl kT hx hb hml hown hts ⟨Nat.le_of_ble_eq_true rfl, Nat.le_of_ble_eq_true rfl⟩ ⟨Nat.le_of_ble_eq_true rfl, Nat.le_of_ble_eq_true rfl⟩ hK hP hD hS hA hZ hl.1 rfl rfl (Nat.le_of_ble_eq_true rfl) d_M_elements_91 (fun H locs hP hD hS => ?_)
                have hP : va_P D vwCl (Wm am gm sLen sKind sExt sMust rTab rFil mNum rLen rItm made pItm held dByt dLen ver fAdr fTab adr tab lf mCode row mWr mWid mOv mPl mTh mSp mPile mNext mSh mShs mRea (if mWg < 0 then (nI p0) else mWg) mEn mDp mAt mTb mSt) H := hP
                have hD : va_D A (Wm am gm sLen sKind sExt sMust rTab rFil mNum rLen rItm made pItm held dByt dLen ver fAdr fTab adr tab lf mCode row mWr mWid mOv mPl mTh mSp mPile mNext mSh mShs mRea (if mWg < 0 then (nI p0) else mWg) mEn mDp mAt mTb mSt) := hD
                refine W.eq (g2 := F0 m 94 ls []) rfl ?_
                have hb1 : leN dByt dLen (nI (x + 4 + cn)) 1 = dByt (x + 4 + cn) := by rw [le1 (hasF_in (by omega) (by omega)), cN_nI (by omega)]
                have hs : sdF dByt dLen kd x = false := decide_eq_false (by rw [hcn]; omega)
                exact k_vret hx hb hr hlocks hK hP hD hS (trivial) (by rw [if_neg (show ¬ sdF dByt dLen kd x = true by rw [hs]; simp)]) d_M_elements_94
          · skip
            have c_60 := mt (nI_leI (by omega) (by omega)).mpr c_60
            refine lv_aload_n hx hb d_M_elements_63 rfl (lv_at hl 1 rfl) ?_
            refine lv_iload_n hx hb d_M_elements_64 rfl (lv_at hl 2 rfl) ?_
            refine k_callV (m_fail l D am gm tw sLen sKind sExt sMust rTab rFil mNum rLen rItm made pItm held dByt dLen ver fAdr fTab adr tab lf mCode row mWr mWid mOv mPl mTh mSp mPile mNext mSh mShs mRea mWg mEn mDp mAt mTb mSt (nI p0)  ) m_M_fail wd_38303c4f 0 8 rfl rfl rfl kT hx hb hml hown hts ⟨Nat.le_of_ble_eq_true rfl, Nat.le_of_ble_eq_true rfl⟩ ⟨Nat.le_of_ble_eq_true rfl, Nat.le_of_ble_eq_true rfl⟩ hK hP hD hS hA hZ hl.1 rfl rfl (Nat.le_of_ble_eq_true rfl) d_M_elements_65 (fun H locs hP hD hS => ?_)
            have hP : va_P D vwCl (Wm am gm sLen sKind sExt sMust rTab rFil mNum rLen rItm made pItm held dByt dLen ver fAdr fTab adr tab lf mCode row mWr mWid mOv mPl mTh mSp mPile mNext mSh mShs mRea (if mWg < 0 then (nI p0) else mWg) mEn mDp mAt mTb mSt) H := hP
            have hD : va_D A (Wm am gm sLen sKind sExt sMust rTab rFil mNum rLen rItm made pItm held dByt dLen ver fAdr fTab adr tab lf mCode row mWr mWid mOv mPl mTh mSp mPile mNext mSh mShs mRea (if mWg < 0 then (nI p0) else mWg) mEn mDp mAt mTb mSt) := hD
            refine W.eq (g2 := F0 m 68 ls []) rfl ?_
            refine lv_goto (tgt := 94) hx hb d_M_elements_68 (by decide) ?_
            have hs : sdF dByt dLen kd x = false := decide_eq_false (by rw [hcn]; omega)
            exact k_vret hx hb hr hlocks hK hP hD hS (trivial) (by rw [if_neg (show ¬ sdF dByt dLen kd x = true by rw [hs]; simp)]) d_M_elements_94
    · skip
      have c_13 := mt (nI_leI (by omega) (by omega)).mpr c_13
      refine lv_aload_n hx hb d_M_elements_16 rfl (lv_at hl 0 rfl) ?_
      refine lv_iload_n hx hb d_M_elements_17 rfl (lv_at hl 1 rfl) ?_
      refine k_callV (m_fail l D am gm tw sLen sKind sExt sMust rTab rFil mNum rLen rItm made pItm held dByt dLen ver fAdr fTab adr tab lf mCode row mWr mWid mOv mPl mTh mSp mPile mNext mSh mShs mRea mWg mEn mDp mAt mTb mSt (nI p0)  ) m_M_fail wd_38303c4f 0 8 rfl rfl rfl kT hx hb hml hown hts ⟨Nat.le_of_ble_eq_true rfl, Nat.le_of_ble_eq_true rfl⟩ ⟨Nat.le_of_ble_eq_true rfl, Nat.le_of_ble_eq_true rfl⟩ hK hP hD hS hA hZ hl.1 rfl rfl (Nat.le_of_ble_eq_true rfl) d_M_elements_18 (fun H locs hP hD hS => ?_)
      have hP : va_P D vwCl (Wm am gm sLen sKind sExt sMust rTab rFil mNum rLen rItm made pItm held dByt dLen ver fAdr fTab adr tab lf mCode row mWr mWid mOv mPl mTh mSp mPile mNext mSh mShs mRea (if mWg < 0 then (nI p0) else mWg) mEn mDp mAt mTb mSt) H := hP
      have hD : va_D A (Wm am gm sLen sKind sExt sMust rTab rFil mNum rLen rItm made pItm held dByt dLen ver fAdr fTab adr tab lf mCode row mWr mWid mOv mPl mTh mSp mPile mNext mSh mShs mRea (if mWg < 0 then (nI p0) else mWg) mEn mDp mAt mTb mSt) := hD
      refine W.eq (g2 := F0 m 21 ls []) rfl ?_
      have hs : sdF dByt dLen kd x = false := decide_eq_false (by omega)
      exact k_vret hx hb hr hlocks hK hP hD hS (trivial) (by rw [if_neg (show ¬ sdF dByt dLen kd x = true by rw [hs]; simp)]) d_M_elements_21
set_option maxHeartbeats 4000000 in
set_option maxRecDepth 100000 in
theorem m_inspect (l : Launch) (D : va_G) (am : Nat → Nat) (gm : Nat → ClassId) (tw : Nat) (sLen sKind : Nat → Nat) (sExt : Nat → Int32) (sMust : Nat → Bool) (rTab : Nat → Nat) (rFil : Nat → Bool) (mNum : Nat → Int64) (rLen : Nat → Nat) (rItm : Nat → Int32) (made : Nat) (pItm : Nat → Int32) (held : Nat) (dByt : Nat → Nat) (dLen : Nat) (ver : Bool) (fAdr fTab adr tab : Nat) (lf : Int32) (mCode : Nat) (row : Nat → Nat) (mWr mWid : Nat) (mOv : Bool) (mPl mTh mSp mPile mNext mSh : Nat → Nat) (mShs : Nat) (mRea : Nat → Bool) (mWg : Int32) (mEn mDp : Nat) (mAt mTb mSt : Nat → Nat) (x : Nat) (t : Nat) (f : Nat) (rNum : Nat → Int64) (rLnk : Nat → Nat) (hfr : FR dByt dLen x) (ht : t < 4) (hf : f < 6) (hk : ∀ j, sKind j < 7) (hX : ∀ j, sKind j = 6 → okT (sExt j) = true) (hen : mEn ≤ 16) (hdp : mDp ≤ 6) (hB : ∀ k, dByt k < 256) (hd : dLen ≤ 240) : kM l y_M_inspect b_M_inspect 8 none ({ frames := 5, cells := 0, slots := 0, locals := 109 }) D vwCl (WmT gm) tw [.ref (am 0), .int (nI x), .int (nI t), .int (nI f)] (Wm am gm sLen sKind sExt sMust rTab rFil mNum rLen rItm made pItm held dByt dLen ver fAdr fTab adr tab lf mCode row mWr mWid mOv mPl mTh mSp mPile mNext mSh mShs mRea mWg mEn mDp mAt mTb mSt) none (Wm am gm sLen sKind sExt sMust rTab rFil mNum rLen rItm made pItm held dByt dLen ver fAdr fTab adr tab lf mCode row mWr mWid mOv mPl mTh mSp mPile mNext mSh mShs mRea ((inV (SR.mk sLen sKind sExt sMust rTab rFil rNum rLnk rLen rItm) dByt dLen (MV.mk mWg mEn mDp mAt mTb mSt) x t f).wg) ((inV (SR.mk sLen sKind sExt sMust rTab rFil rNum rLnk rLen rItm) dByt dLen (MV.mk mWg mEn mDp mAt mTb mSt) x t f).en) ((inV (SR.mk sLen sKind sExt sMust rTab rFil rNum rLnk rLen rItm) dByt dLen (MV.mk mWg mEn mDp mAt mTb mSt) x t f).dp) ((inV (SR.mk sLen sKind sExt sMust rTab rFil rNum rLnk rLen rItm) dByt dLen (MV.mk mWg mEn mDp mAt mTb mSt) x t f).fa) ((inV (SR.mk sLen sKind sExt sMust rTab rFil rNum rLnk rLen rItm) dByt dLen (MV.mk mWg mEn mDp mAt mTb mSt) x t f).ft) ((inV (SR.mk sLen sKind sExt sMust rTab rFil rNum rLnk rLen rItm) dByt dLen (MV.mk mWg mEn mDp mAt mTb mSt) x t f).fs)) := by
  refine k_of (by decide) (Nat.le_of_ble_eq_true rfl) ?_
  intro p e s m below meth c A ls hx hb hr hlocks hml hts hown hin0 hA hP hK hD hS hZ hl
  have hl : lv_has ls 8 [(0, .ref (am 0)), (1, .int (nI x)), (2, .int (nI t)), (3, .int (nI f))] := hl
  have hfr2 := hfr
  obtain ⟨r1, r2, r3, r4, r5, r6⟩ := hfr2
  have hk1 : sKind (t * 6 + f) < 7 := hk _
  have hkw := kWd_8 _ hk1
  have hof : ofF dByt dLen x f < 65536 := offF_lt hB
  have hl3 : leN dByt dLen (nI (vN dByt dLen x + 2)) 2 < 65536 := leN_lt hB 2
  refine lv_aload_n hx hb d_M_inspect_0 rfl (lv_at hl 0 rfl) ?_
  refine lv_iload_n hx hb d_M_inspect_1 rfl (lv_at hl 1 rfl) ?_
  refine k_callV (m_tableAt l D am gm tw sLen sKind sExt sMust rTab rFil mNum rLen rItm made pItm held dByt dLen ver fAdr fTab adr tab lf mCode row mWr mWid mOv mPl mTh mSp mPile mNext mSh mShs mRea mWg mEn mDp mAt mTb mSt x  r1 hB hd) m_M_tableAt wd_4533cc18 0 8 rfl rfl rfl kT hx hb hml hown hts ⟨Nat.le_of_ble_eq_true rfl, Nat.le_of_ble_eq_true rfl⟩ ⟨Nat.le_of_ble_eq_true rfl, Nat.le_of_ble_eq_true rfl⟩ hK hP hD hS hA hZ hl.1 rfl rfl (Nat.le_of_ble_eq_true rfl) d_M_inspect_2 (fun H locs hP hD hS => ?_)
  have hP : va_P D vwCl (Wm am gm sLen sKind sExt sMust rTab rFil mNum rLen rItm made pItm held dByt dLen ver fAdr fTab adr tab lf mCode row mWr mWid mOv mPl mTh mSp mPile mNext mSh mShs mRea mWg mEn mDp mAt mTb mSt) H := hP
  have hD : va_D A (Wm am gm sLen sKind sExt sMust rTab rFil mNum rLen rItm made pItm held dByt dLen ver fAdr fTab adr tab lf mCode row mWr mWid mOv mPl mTh mSp mPile mNext mSh mShs mRea mWg mEn mDp mAt mTb mSt) := hD
  refine W.eq (g2 := F0 m 5 ls [.int (vOf dByt dLen x)]) rfl ?_
  refine lv_eqi r2 ?_
  refine lv_istore (lv' := [(4, .int (nI (vN dByt dLen x))), (0, .ref (am 0)), (1, .int (nI x)), (2, .int (nI t)), (3, .int (nI f))]) hx hb d_M_inspect_5 hl (by decide) rfl (fun ls hl => ?_)
  refine lv_aload_n hx hb d_M_inspect_7 rfl (lv_at hl 1 rfl) ?_
  refine lv_iload_n hx hb d_M_inspect_8 rfl (lv_at hl 2 rfl) ?_
  refine lv_iload_n hx hb d_M_inspect_9 rfl (lv_at hl 4 rfl) ?_
  refine k_callV (m_offset l D am gm tw sLen sKind sExt sMust rTab rFil mNum rLen rItm made pItm held dByt dLen ver fAdr fTab adr tab lf mCode row mWr mWid mOv mPl mTh mSp mPile mNext mSh mShs mRea mWg mEn mDp mAt mTb mSt x f  hfr hf hB hd) m_M_offset wd_35e10521 0 8 rfl rfl rfl kT hx hb hml hown hts ⟨Nat.le_of_ble_eq_true rfl, Nat.le_of_ble_eq_true rfl⟩ ⟨Nat.le_of_ble_eq_true rfl, Nat.le_of_ble_eq_true rfl⟩ hK hP hD hS hA hZ hl.1 rfl rfl (Nat.le_of_ble_eq_true rfl) d_M_inspect_10 (fun H locs hP hD hS => ?_)
  have hP : va_P D vwCl (Wm am gm sLen sKind sExt sMust rTab rFil mNum rLen rItm made pItm held dByt dLen ver fAdr fTab adr tab lf mCode row mWr mWid mOv mPl mTh mSp mPile mNext mSh mShs mRea mWg mEn mDp mAt mTb mSt) H := hP
  have hD : va_D A (Wm am gm sLen sKind sExt sMust rTab rFil mNum rLen rItm made pItm held dByt dLen ver fAdr fTab adr tab lf mCode row mWr mWid mOv mPl mTh mSp mPile mNext mSh mShs mRea mWg mEn mDp mAt mTb mSt) := hD
  refine W.eq (g2 := F0 m 13 ls [.int (nI (ofF dByt dLen x f))]) rfl ?_
  refine lv_istore (lv' := [(5, .int (nI (ofF dByt dLen x f))), (4, .int (nI (vN dByt dLen x))), (0, .ref (am 0)), (1, .int (nI x)), (2, .int (nI t)), (3, .int (nI f))]) hx hb d_M_inspect_13 hl (by decide) rfl (fun ls hl => ?_)
  refine lv_aload_n hx hb d_M_inspect_15 rfl (lv_at hl 2 rfl) ?_
  refine va_get (D := D) (ci := 8) (C := R_M) (T := T_M) (N := 39) hx hb hts (fun w h => kT w (i_M w h)) hown hK hP 0 rfl rfl 2 (by decide) (hts _ (kT _ wd_91f4763a)) (fun _ h9 => h9) rfl d_M_inspect_16 ?_
  refine lv_bipush (v := nI 6) hx hb d_M_inspect_19 (by decide) ?_
  refine lv_iload_n hx hb d_M_inspect_21 rfl (lv_at hl 4 rfl) ?_
  refine lv_imul hx hb d_M_inspect_22 ?_
  refine lv_eqi ((pk_mul _ _).trans (nI_congr (Nat.mul_comm _ _))) ?_
  refine lv_iload_n hx hb d_M_inspect_23 rfl (lv_at hl 5 rfl) ?_
  refine lv_iadd hx hb d_M_inspect_24 ?_
  refine lv_eqi (nI_add _ _) ?_
  refine n_iald hx hb hK hP 2 1 rfl rfl (i := ((t * 6) + f)) (by omega) (by decide) d_M_inspect_25 ?_
  refine lv_istore (lv' := [(6, .int (nI (sKind ((t * 6) + f)))), (5, .int (nI (ofF dByt dLen x f))), (4, .int (nI (vN dByt dLen x))), (0, .ref (am 0)), (1, .int (nI x)), (2, .int (nI t)), (3, .int (nI f))]) hx hb d_M_inspect_26 hl (by decide) rfl (fun ls hl => ?_)
  refine lv_iload hx hb d_M_inspect_28 (lv_at hl 0 rfl) ?_
  refine k_callS (m_wide l D am gm tw sLen sKind sExt sMust rTab rFil mNum rLen rItm made pItm held dByt dLen ver fAdr fTab adr tab lf mCode row mWr mWid mOv mPl mTh mSp mPile mNext mSh mShs mRea mWg mEn mDp mAt mTb mSt (sKind ((t * 6) + f))  hk1) m_M_wide wd_be33e586 kT hx hb hml hown hts ⟨Nat.le_of_ble_eq_true rfl, Nat.le_of_ble_eq_true rfl⟩ ⟨Nat.le_of_ble_eq_true rfl, Nat.le_of_ble_eq_true rfl⟩ hK hP hD hS hA hZ hl.1 rfl rfl (Nat.le_of_ble_eq_true rfl) d_M_inspect_30 (fun H locs hP hD hS => ?_)
  have hP : va_P D vwCl (Wm am gm sLen sKind sExt sMust rTab rFil mNum rLen rItm made pItm held dByt dLen ver fAdr fTab adr tab lf mCode row mWr mWid mOv mPl mTh mSp mPile mNext mSh mShs mRea mWg mEn mDp mAt mTb mSt) H := hP
  have hD : va_D A (Wm am gm sLen sKind sExt sMust rTab rFil mNum rLen rItm made pItm held dByt dLen ver fAdr fTab adr tab lf mCode row mWr mWid mOv mPl mTh mSp mPile mNext mSh mShs mRea mWg mEn mDp mAt mTb mSt) := hD
  refine W.eq (g2 := F0 m 33 ls [.int (nI (kWd (sKind ((t * 6) + f))))]) rfl ?_
  refine lv_istore (lv' := [(7, .int (nI (kWd (sKind ((t * 6) + f))))), (6, .int (nI (sKind ((t * 6) + f)))), (5, .int (nI (ofF dByt dLen x f))), (4, .int (nI (vN dByt dLen x))), (0, .ref (am 0)), (1, .int (nI x)), (2, .int (nI t)), (3, .int (nI f))]) hx hb d_M_inspect_33 hl (by decide) rfl (fun ls hl => ?_)
  refine lv_iload hx hb d_M_inspect_35 (lv_at hl 2 rfl) ?_
  refine lv_if_ne (tgt := 60) hx hb d_M_inspect_37 (by decide) (fun c_37 => ?_) (fun c_37 => ?_)
  · skip
    have c_37 := mt (z_eq (by omega)).mpr c_37
    refine lv_iload hx hb d_M_inspect_60 (lv_at hl 2 rfl) ?_
    refine lv_iconst (v := nI 4) hx hb d_M_inspect_62 (by decide) ?_
    refine lv_icmp_lt (tgt := 92) hx hb d_M_inspect_63 (by decide) (fun c_63 => ?_) (fun c_63 => ?_)
    · skip
      have c_63 := (nI_ltI (by omega) (by omega)).mp c_63
      refine lv_aload_n hx hb d_M_inspect_92 rfl (lv_at hl 4 rfl) ?_
      refine lv_iload hx hb d_M_inspect_93 (lv_at hl 3 rfl) ?_
      refine lv_iconst (v := nI 4) hx hb d_M_inspect_95 (by decide) ?_
      refine lv_iadd hx hb d_M_inspect_96 ?_
      refine lv_eqi (nI_add _ _) ?_
      refine lv_iconst (v := nI 2) hx hb d_M_inspect_97 (by decide) ?_
      refine lv_iload_n hx hb d_M_inspect_98 rfl (lv_at hl 7 rfl) ?_
      refine lv_imul hx hb d_M_inspect_99 ?_
      refine lv_eqi (pk_mul _ _) ?_
      refine lv_iadd hx hb d_M_inspect_100 ?_
      refine lv_eqi (nI_add _ _) ?_
      refine k_callV (m_fail l D am gm tw sLen sKind sExt sMust rTab rFil mNum rLen rItm made pItm held dByt dLen ver fAdr fTab adr tab lf mCode row mWr mWid mOv mPl mTh mSp mPile mNext mSh mShs mRea mWg mEn mDp mAt mTb mSt (nI (((vN dByt dLen x) + 4) + (2 * f)))  ) m_M_fail wd_38303c4f 0 8 rfl rfl rfl kT hx hb hml hown hts ⟨Nat.le_of_ble_eq_true rfl, Nat.le_of_ble_eq_true rfl⟩ ⟨Nat.le_of_ble_eq_true rfl, Nat.le_of_ble_eq_true rfl⟩ hK hP hD hS hA hZ hl.1 rfl rfl (Nat.le_of_ble_eq_true rfl) d_M_inspect_101 (fun H locs hP hD hS => ?_)
      have hP : va_P D vwCl (Wm am gm sLen sKind sExt sMust rTab rFil mNum rLen rItm made pItm held dByt dLen ver fAdr fTab adr tab lf mCode row mWr mWid mOv mPl mTh mSp mPile mNext mSh mShs mRea (if mWg < 0 then (nI (((vN dByt dLen x) + 4) + (2 * f))) else mWg) mEn mDp mAt mTb mSt) H := hP
      have hD : va_D A (Wm am gm sLen sKind sExt sMust rTab rFil mNum rLen rItm made pItm held dByt dLen ver fAdr fTab adr tab lf mCode row mWr mWid mOv mPl mTh mSp mPile mNext mSh mShs mRea (if mWg < 0 then (nI (((vN dByt dLen x) + 4) + (2 * f))) else mWg) mEn mDp mAt mTb mSt) := hD
      refine W.eq (g2 := F0 m 104 ls []) rfl ?_
      have hv : inV (SR.mk sLen sKind sExt sMust rTab rFil rNum rLnk rLen rItm) dByt dLen (MV.mk mWg mEn mDp mAt mTb mSt) x t f = (MV.mk mWg mEn mDp mAt mTb mSt).fl (nI (vN dByt dLen x + 4 + 2 * f)) := by rw [inV, if_neg c_37, if_pos (Or.inl c_63)]
      exact k_vret hx hb hr hlocks hK hP hD hS (trivial) (by rw [hv]; first | done | rfl) d_M_inspect_104
    · skip
      have c_63 := mt (nI_ltI (by omega) (by omega)).mpr c_63
      refine lv_iload hx hb d_M_inspect_66 (lv_at hl 2 rfl) ?_
      refine lv_iload hx hb d_M_inspect_68 (lv_at hl 0 rfl) ?_
      refine lv_iadd hx hb d_M_inspect_70 ?_
      refine lv_eqi (nI_add _ _) ?_
      refine lv_aload_n hx hb d_M_inspect_71 rfl (lv_at hl 4 rfl) ?_
      refine lv_iload hx hb d_M_inspect_72 (lv_at hl 3 rfl) ?_
      refine lv_iconst (v := nI 2) hx hb d_M_inspect_74 (by decide) ?_
      refine lv_iadd hx hb d_M_inspect_75 ?_
      refine lv_eqi (nI_add _ _) ?_
      refine k_callV (m_two l D am gm tw sLen sKind sExt sMust rTab rFil mNum rLen rItm made pItm held dByt dLen ver fAdr fTab adr tab lf mCode row mWr mWid mOv mPl mTh mSp mPile mNext mSh mShs mRea mWg mEn mDp mAt mTb mSt ((vN dByt dLen x) + 2)  (by omega) hB hd) m_M_two wd_f4633fa4 0 8 rfl rfl rfl kT hx hb hml hown hts ⟨Nat.le_of_ble_eq_true rfl, Nat.le_of_ble_eq_true rfl⟩ ⟨Nat.le_of_ble_eq_true rfl, Nat.le_of_ble_eq_true rfl⟩ hK hP hD hS hA hZ hl.1 rfl rfl (Nat.le_of_ble_eq_true rfl) d_M_inspect_76 (fun H locs hP hD hS => ?_)
      have hP : va_P D vwCl (Wm am gm sLen sKind sExt sMust rTab rFil mNum rLen rItm made pItm held dByt dLen ver fAdr fTab adr tab lf mCode row mWr mWid mOv mPl mTh mSp mPile mNext mSh mShs mRea mWg mEn mDp mAt mTb mSt) H := hP
      have hD : va_D A (Wm am gm sLen sKind sExt sMust rTab rFil mNum rLen rItm made pItm held dByt dLen ver fAdr fTab adr tab lf mCode row mWr mWid mOv mPl mTh mSp mPile mNext mSh mShs mRea mWg mEn mDp mAt mTb mSt) := hD
      refine W.eq (g2 := F0 m 79 ls [.int (nI (leN dByt dLen (nI ((vN dByt dLen x) + 2)) 2)), .int (nI ((ofF dByt dLen x f) + (kWd (sKind ((t * 6) + f)))))]) rfl ?_
      refine lv_icmp_gt (tgt := 92) hx hb d_M_inspect_79 (by decide) (fun c_79 => ?_) (fun c_79 => ?_)
      · skip
        have c_79 := (nI_ltI (by omega) (by omega)).mp c_79
        refine lv_aload_n hx hb d_M_inspect_92 rfl (lv_at hl 4 rfl) ?_
        refine lv_iload hx hb d_M_inspect_93 (lv_at hl 3 rfl) ?_
        refine lv_iconst (v := nI 4) hx hb d_M_inspect_95 (by decide) ?_
        refine lv_iadd hx hb d_M_inspect_96 ?_
        refine lv_eqi (nI_add _ _) ?_
        refine lv_iconst (v := nI 2) hx hb d_M_inspect_97 (by decide) ?_
        refine lv_iload_n hx hb d_M_inspect_98 rfl (lv_at hl 7 rfl) ?_
        refine lv_imul hx hb d_M_inspect_99 ?_
        refine lv_eqi (pk_mul _ _) ?_
        refine lv_iadd hx hb d_M_inspect_100 ?_
        refine lv_eqi (nI_add _ _) ?_
        refine k_callV (m_fail l D am gm tw sLen sKind sExt sMust rTab rFil mNum rLen rItm made pItm held dByt dLen ver fAdr fTab adr tab lf mCode row mWr mWid mOv mPl mTh mSp mPile mNext mSh mShs mRea mWg mEn mDp mAt mTb mSt (nI (((vN dByt dLen x) + 4) + (2 * f)))  ) m_M_fail wd_38303c4f 0 8 rfl rfl rfl kT hx hb hml hown hts ⟨Nat.le_of_ble_eq_true rfl, Nat.le_of_ble_eq_true rfl⟩ ⟨Nat.le_of_ble_eq_true rfl, Nat.le_of_ble_eq_true rfl⟩ hK hP hD hS hA hZ hl.1 rfl rfl (Nat.le_of_ble_eq_true rfl) d_M_inspect_101 (fun H locs hP hD hS => ?_)
        have hP : va_P D vwCl (Wm am gm sLen sKind sExt sMust rTab rFil mNum rLen rItm made pItm held dByt dLen ver fAdr fTab adr tab lf mCode row mWr mWid mOv mPl mTh mSp mPile mNext mSh mShs mRea (if mWg < 0 then (nI (((vN dByt dLen x) + 4) + (2 * f))) else mWg) mEn mDp mAt mTb mSt) H := hP
        have hD : va_D A (Wm am gm sLen sKind sExt sMust rTab rFil mNum rLen rItm made pItm held dByt dLen ver fAdr fTab adr tab lf mCode row mWr mWid mOv mPl mTh mSp mPile mNext mSh mShs mRea (if mWg < 0 then (nI (((vN dByt dLen x) + 4) + (2 * f))) else mWg) mEn mDp mAt mTb mSt) := hD
        refine W.eq (g2 := F0 m 104 ls []) rfl ?_
        have hv : inV (SR.mk sLen sKind sExt sMust rTab rFil rNum rLnk rLen rItm) dByt dLen (MV.mk mWg mEn mDp mAt mTb mSt) x t f = (MV.mk mWg mEn mDp mAt mTb mSt).fl (nI (vN dByt dLen x + 4 + 2 * f)) := by rw [inV, if_neg c_37, if_pos (Or.inr (Or.inl c_79))]
        exact k_vret hx hb hr hlocks hK hP hD hS (trivial) (by rw [hv]; first | done | rfl) d_M_inspect_104
      · skip
        have c_79 := mt (nI_ltI (by omega) (by omega)).mpr c_79
        refine lv_iload_n hx hb d_M_inspect_82 rfl (lv_at hl 5 rfl) ?_
        refine lv_iload hx hb d_M_inspect_83 (lv_at hl 2 rfl) ?_
        refine lv_iadd hx hb d_M_inspect_85 ?_
        refine lv_eqi (nI_add _ _) ?_
        refine lv_iload hx hb d_M_inspect_86 (lv_at hl 0 rfl) ?_
        refine lv_irem hx hb d_M_inspect_88 (nI_ne0 (by omega) (by omega)) ?_
        refine lv_eqi (pk_rem (by omega) (by omega) (by omega)) ?_
        have hmd := Nat.mod_lt (x + ofF dByt dLen x f) (show 0 < kWd (sKind (t * 6 + f)) by omega)
        refine lv_if_eq (tgt := 105) hx hb d_M_inspect_89 (by decide) (fun c_89 => ?_) (fun c_89 => ?_)
        · skip
          have c_89 := (z_eq (by omega)).mp c_89
          have hnb : ¬ (ofF dByt dLen x f < 4 ∨ leN dByt dLen (nI (vN dByt dLen x + 2)) 2 < ofF dByt dLen x f + kWd (sKind (t * 6 + f)) ∨ ¬ (x + ofF dByt dLen x f) % kWd (sKind (t * 6 + f)) = 0) := fun z => z.elim c_63 (fun z => z.elim c_79 (fun z => z c_89))
          have htg := tg_le (d := dByt) (n := dLen) (x := x + ofF dByt dLen x f)
          refine lv_iload hx hb d_M_inspect_105 (lv_at hl 1 rfl) ?_
          refine lv_bipush (v := nI 6) hx hb d_M_inspect_107 (by decide) ?_
          refine lv_icmp_ne (tgt := 140) hx hb d_M_inspect_109 (by decide) (fun c_109 => ?_) (fun c_109 => ?_)
          · skip
            have c_109 := mt (nI_eq (by omega) (by omega)).mpr c_109
            refine lv_iload hx hb d_M_inspect_140 (lv_at hl 1 rfl) ?_
            refine lv_iconst (v := nI 4) hx hb d_M_inspect_142 (by decide) ?_
            refine lv_icmp_lt (tgt := 171) hx hb d_M_inspect_143 (by decide) (fun c_143 => ?_) (fun c_143 => ?_)
            · skip
              have c_143 := (nI_ltI (by omega) (by omega)).mp c_143
              have hv : inV (SR.mk sLen sKind sExt sMust rTab rFil rNum rLnk rLen rItm) dByt dLen (MV.mk mWg mEn mDp mAt mTb mSt) x t f = MV.mk mWg mEn mDp mAt mTb mSt := by rw [inV, if_neg c_37, if_neg hnb, if_neg c_109, if_pos (Or.inl c_143)]
              exact k_vret hx hb hr hlocks hK hP hD hS (trivial) (by rw [hv]; first | done | rfl) d_M_inspect_171
            · skip
              have c_143 := mt (nI_ltI (by omega) (by omega)).mpr c_143
              have hw4 : kWd (sKind (t * 6 + f)) = 4 := kWd_4 hk1 (by omega) (by omega) (by omega)
              refine lv_aload_n hx hb d_M_inspect_146 rfl (lv_at hl 4 rfl) ?_
              refine lv_iload_n hx hb d_M_inspect_147 rfl (lv_at hl 5 rfl) ?_
              refine lv_iload hx hb d_M_inspect_148 (lv_at hl 2 rfl) ?_
              refine lv_iadd hx hb d_M_inspect_150 ?_
              refine lv_eqi (nI_add _ _) ?_
              refine lv_aload_n hx hb d_M_inspect_151 rfl (lv_at hl 4 rfl) ?_
              refine lv_iload_n hx hb d_M_inspect_152 rfl (lv_at hl 5 rfl) ?_
              refine lv_iload_n hx hb d_M_inspect_153 rfl (lv_at hl 7 rfl) ?_
              refine k_callV (m_target l D am gm tw sLen sKind sExt sMust rTab rFil mNum rLen rItm made pItm held dByt dLen ver fAdr fTab adr tab lf mCode row mWr mWid mOv mPl mTh mSp mPile mNext mSh mShs mRea mWg mEn mDp mAt mTb mSt x f  hfr hf (by omega) hB hd) m_M_target wd_e90247da 0 8 rfl rfl rfl kT hx hb hml hown hts ⟨Nat.le_of_ble_eq_true rfl, Nat.le_of_ble_eq_true rfl⟩ ⟨Nat.le_of_ble_eq_true rfl, Nat.le_of_ble_eq_true rfl⟩ hK hP hD hS hA hZ hl.1 rfl rfl (Nat.le_of_ble_eq_true rfl) d_M_inspect_154 (fun H locs hP hD hS => ?_)
              have hP : va_P D vwCl (Wm am gm sLen sKind sExt sMust rTab rFil mNum rLen rItm made pItm held dByt dLen ver fAdr fTab adr tab lf mCode row mWr mWid mOv mPl mTh mSp mPile mNext mSh mShs mRea mWg mEn mDp mAt mTb mSt) H := hP
              have hD : va_D A (Wm am gm sLen sKind sExt sMust rTab rFil mNum rLen rItm made pItm held dByt dLen ver fAdr fTab adr tab lf mCode row mWr mWid mOv mPl mTh mSp mPile mNext mSh mShs mRea mWg mEn mDp mAt mTb mSt) := hD
              refine W.eq (g2 := F0 m 157 ls [.int (nI (tgF dByt dLen (x + ofF dByt dLen x f))), .int (nI (x + (ofF dByt dLen x f))), .ref (am 0)]) rfl ?_
              refine lv_iload hx hb d_M_inspect_157 (lv_at hl 1 rfl) ?_
              refine lv_iconst (v := nI 4) hx hb d_M_inspect_159 (by decide) ?_
              refine lv_icmp_ne (tgt := 167) hx hb d_M_inspect_160 (by decide) (fun c_160 => ?_) (fun c_160 => ?_)
              · skip
                have c_160 := mt (nI_eq (by omega) (by omega)).mpr c_160
                refine lv_iconst (v := nI 0) hx hb d_M_inspect_167 (by decide) ?_
                refine lv_eqi nI_bI0 ?_
                refine k_callV (m_elements l D am gm tw sLen sKind sExt sMust rTab rFil mNum rLen rItm made pItm held dByt dLen ver fAdr fTab adr tab lf mCode row mWr mWid mOv mPl mTh mSp mPile mNext mSh mShs mRea mWg mEn mDp mAt mTb mSt (x + (ofF dByt dLen x f)) (tgF dByt dLen (x + ofF dByt dLen x f)) false (sKind (t * 6 + f)) (by omega) (by first | exact (decide_eq_true c_160).symm | exact (decide_eq_false c_160).symm) (by omega) hB hd) m_M_elements wd_b1107d52 0 8 rfl rfl rfl kT hx hb hml hown hts ⟨Nat.le_of_ble_eq_true rfl, Nat.le_of_ble_eq_true rfl⟩ ⟨Nat.le_of_ble_eq_true rfl, Nat.le_of_ble_eq_true rfl⟩ hK hP hD hS hA hZ hl.1 rfl rfl (Nat.le_of_ble_eq_true rfl) d_M_inspect_168 (fun H locs hP hD hS => ?_)
                have hP : va_P D vwCl (Wm am gm sLen sKind sExt sMust rTab rFil mNum rLen rItm made pItm held dByt dLen ver fAdr fTab adr tab lf mCode row mWr mWid mOv mPl mTh mSp mPile mNext mSh mShs mRea (if sdF dByt dLen (sKind (t * 6 + f)) (tgF dByt dLen (x + ofF dByt dLen x f)) = true then mWg else if mWg < 0 then nI (x + (ofF dByt dLen x f)) else mWg) mEn mDp mAt mTb mSt) H := hP
                have hD : va_D A (Wm am gm sLen sKind sExt sMust rTab rFil mNum rLen rItm made pItm held dByt dLen ver fAdr fTab adr tab lf mCode row mWr mWid mOv mPl mTh mSp mPile mNext mSh mShs mRea (if sdF dByt dLen (sKind (t * 6 + f)) (tgF dByt dLen (x + ofF dByt dLen x f)) = true then mWg else if mWg < 0 then nI (x + (ofF dByt dLen x f)) else mWg) mEn mDp mAt mTb mSt) := hD
                refine W.eq (g2 := F0 m 171 ls []) rfl ?_
                have hv : inV (SR.mk sLen sKind sExt sMust rTab rFil rNum rLnk rLen rItm) dByt dLen (MV.mk mWg mEn mDp mAt mTb mSt) x t f = MV.mk (if sdF dByt dLen (sKind (t * 6 + f)) (tgF dByt dLen (x + ofF dByt dLen x f)) = true then mWg else if mWg < 0 then nI (x + ofF dByt dLen x f) else mWg) mEn mDp mAt mTb mSt := by
                  rw [inV, if_neg c_37, if_neg hnb, if_neg c_109]
                  by_cases hs : sdF dByt dLen (sKind (t * 6 + f)) (tgF dByt dLen (x + ofF dByt dLen x f)) = true
                  · rw [if_pos (Or.inr hs), if_pos hs]
                  · rw [if_neg (fun z => z.elim c_143 hs), if_neg hs]; rfl
                exact k_vret hx hb hr hlocks hK hP hD hS (trivial) (by rw [hv]; first | done | rfl) d_M_inspect_171
              · skip
                have c_160 := (nI_eq (by omega) (by omega)).mp c_160
                refine lv_iconst (v := nI 1) hx hb d_M_inspect_163 (by decide) ?_
                refine lv_goto (tgt := 168) hx hb d_M_inspect_164 (by decide) ?_
                refine lv_eqi nI_bI1 ?_
                refine k_callV (m_elements l D am gm tw sLen sKind sExt sMust rTab rFil mNum rLen rItm made pItm held dByt dLen ver fAdr fTab adr tab lf mCode row mWr mWid mOv mPl mTh mSp mPile mNext mSh mShs mRea mWg mEn mDp mAt mTb mSt (x + (ofF dByt dLen x f)) (tgF dByt dLen (x + ofF dByt dLen x f)) true (sKind (t * 6 + f)) (by omega) (by first | exact (decide_eq_true c_160).symm | exact (decide_eq_false c_160).symm) (by omega) hB hd) m_M_elements wd_b1107d52 0 8 rfl rfl rfl kT hx hb hml hown hts ⟨Nat.le_of_ble_eq_true rfl, Nat.le_of_ble_eq_true rfl⟩ ⟨Nat.le_of_ble_eq_true rfl, Nat.le_of_ble_eq_true rfl⟩ hK hP hD hS hA hZ hl.1 rfl rfl (Nat.le_of_ble_eq_true rfl) d_M_inspect_168 (fun H locs hP hD hS => ?_)
                have hP : va_P D vwCl (Wm am gm sLen sKind sExt sMust rTab rFil mNum rLen rItm made pItm held dByt dLen ver fAdr fTab adr tab lf mCode row mWr mWid mOv mPl mTh mSp mPile mNext mSh mShs mRea (if sdF dByt dLen (sKind (t * 6 + f)) (tgF dByt dLen (x + ofF dByt dLen x f)) = true then mWg else if mWg < 0 then nI (x + (ofF dByt dLen x f)) else mWg) mEn mDp mAt mTb mSt) H := hP
                have hD : va_D A (Wm am gm sLen sKind sExt sMust rTab rFil mNum rLen rItm made pItm held dByt dLen ver fAdr fTab adr tab lf mCode row mWr mWid mOv mPl mTh mSp mPile mNext mSh mShs mRea (if sdF dByt dLen (sKind (t * 6 + f)) (tgF dByt dLen (x + ofF dByt dLen x f)) = true then mWg else if mWg < 0 then nI (x + (ofF dByt dLen x f)) else mWg) mEn mDp mAt mTb mSt) := hD
                refine W.eq (g2 := F0 m 171 ls []) rfl ?_
                have hv : inV (SR.mk sLen sKind sExt sMust rTab rFil rNum rLnk rLen rItm) dByt dLen (MV.mk mWg mEn mDp mAt mTb mSt) x t f = MV.mk (if sdF dByt dLen (sKind (t * 6 + f)) (tgF dByt dLen (x + ofF dByt dLen x f)) = true then mWg else if mWg < 0 then nI (x + ofF dByt dLen x f) else mWg) mEn mDp mAt mTb mSt := by
                  rw [inV, if_neg c_37, if_neg hnb, if_neg c_109]
                  by_cases hs : sdF dByt dLen (sKind (t * 6 + f)) (tgF dByt dLen (x + ofF dByt dLen x f)) = true
                  · rw [if_pos (Or.inr hs), if_pos hs]
                  · rw [if_neg (fun z => z.elim c_143 hs), if_neg hs]; rfl
                exact k_vret hx hb hr hlocks hK hP hD hS (trivial) (by rw [hv]; first | done | rfl) d_M_inspect_171
          · skip
            have c_109 := (nI_eq (by omega) (by omega)).mp c_109
            have hw4 : kWd (sKind (t * 6 + f)) = 4 := by rw [c_109]; rfl
            refine lv_aload_n hx hb d_M_inspect_112 rfl (lv_at hl 4 rfl) ?_
            refine lv_aload_n hx hb d_M_inspect_113 rfl (lv_at hl 4 rfl) ?_
            refine lv_iload_n hx hb d_M_inspect_114 rfl (lv_at hl 5 rfl) ?_
            refine lv_iload_n hx hb d_M_inspect_115 rfl (lv_at hl 7 rfl) ?_
            refine k_callV (m_target l D am gm tw sLen sKind sExt sMust rTab rFil mNum rLen rItm made pItm held dByt dLen ver fAdr fTab adr tab lf mCode row mWr mWid mOv mPl mTh mSp mPile mNext mSh mShs mRea mWg mEn mDp mAt mTb mSt x f  hfr hf (by omega) hB hd) m_M_target wd_e90247da 0 8 rfl rfl rfl kT hx hb hml hown hts ⟨Nat.le_of_ble_eq_true rfl, Nat.le_of_ble_eq_true rfl⟩ ⟨Nat.le_of_ble_eq_true rfl, Nat.le_of_ble_eq_true rfl⟩ hK hP hD hS hA hZ hl.1 rfl rfl (Nat.le_of_ble_eq_true rfl) d_M_inspect_116 (fun H locs hP hD hS => ?_)
            have hP : va_P D vwCl (Wm am gm sLen sKind sExt sMust rTab rFil mNum rLen rItm made pItm held dByt dLen ver fAdr fTab adr tab lf mCode row mWr mWid mOv mPl mTh mSp mPile mNext mSh mShs mRea mWg mEn mDp mAt mTb mSt) H := hP
            have hD : va_D A (Wm am gm sLen sKind sExt sMust rTab rFil mNum rLen rItm made pItm held dByt dLen ver fAdr fTab adr tab lf mCode row mWr mWid mOv mPl mTh mSp mPile mNext mSh mShs mRea mWg mEn mDp mAt mTb mSt) := hD
            refine W.eq (g2 := F0 m 119 ls [.int (nI (tgF dByt dLen (x + ofF dByt dLen x f))), .ref (am 0)]) rfl ?_
            refine lv_aload_n hx hb d_M_inspect_119 rfl (lv_at hl 4 rfl) ?_
            refine va_get (D := D) (ci := 8) (C := R_M) (T := T_M) (N := 39) hx hb hts (fun w h => kT w (i_M w h)) hown hK hP 0 rfl rfl 3 (by decide) (hts _ (kT _ wd_74a62eb0)) (fun _ h9 => h9) rfl d_M_inspect_120 ?_
            refine lv_bipush (v := nI 6) hx hb d_M_inspect_123 (by decide) ?_
            refine lv_iload_n hx hb d_M_inspect_125 rfl (lv_at hl 6 rfl) ?_
            refine lv_imul hx hb d_M_inspect_126 ?_
            refine lv_eqi ((pk_mul _ _).trans (nI_congr (Nat.mul_comm _ _))) ?_
            refine lv_iload_n hx hb d_M_inspect_127 rfl (lv_at hl 7 rfl) ?_
            refine lv_iadd hx hb d_M_inspect_128 ?_
            refine lv_eqi (nI_add _ _) ?_
            refine r_iald hx hb hK hP 3 2 rfl rfl (i := ((t * 6) + f)) (by omega) (by decide) d_M_inspect_129 ?_
            obtain ⟨n_e, b_e⟩ := okT_spec (hX (t * 6 + f) c_109)
            refine lv_eqi n_e ?_
            refine lv_iload_n hx hb d_M_inspect_130 rfl (lv_at hl 5 rfl) ?_
            refine lv_iload hx hb d_M_inspect_131 (lv_at hl 2 rfl) ?_
            refine lv_iadd hx hb d_M_inspect_133 ?_
            refine lv_eqi (nI_add _ _) ?_
            refine k_callV (m_enter l D am gm tw sLen sKind sExt sMust rTab rFil mNum rLen rItm made pItm held dByt dLen ver fAdr fTab adr tab lf mCode row mWr mWid mOv mPl mTh mSp mPile mNext mSh mShs mRea mWg mEn mDp mAt mTb mSt (tgF dByt dLen (x + ofF dByt dLen x f)) (cN (sExt (t * 6 + f))) (x + (ofF dByt dLen x f))  (by omega) b_e (by omega) hen hdp hB hd) m_M_enter wd_d0b75dba 0 8 rfl rfl rfl kT hx hb hml hown hts ⟨Nat.le_of_ble_eq_true rfl, Nat.le_of_ble_eq_true rfl⟩ ⟨Nat.le_of_ble_eq_true rfl, Nat.le_of_ble_eq_true rfl⟩ hK hP hD hS hA hZ hl.1 rfl rfl (Nat.le_of_ble_eq_true rfl) d_M_inspect_134 (fun H locs hP hD hS => ?_)
            have hP : va_P D vwCl (Wm am gm sLen sKind sExt sMust rTab rFil mNum rLen rItm made pItm held dByt dLen ver fAdr fTab adr tab lf mCode row mWr mWid mOv mPl mTh mSp mPile mNext mSh mShs mRea ((enV dByt dLen (MV.mk mWg mEn mDp mAt mTb mSt) (tgF dByt dLen (x + ofF dByt dLen x f)) (cN (sExt (t * 6 + f))) (x + (ofF dByt dLen x f))).wg) ((enV dByt dLen (MV.mk mWg mEn mDp mAt mTb mSt) (tgF dByt dLen (x + ofF dByt dLen x f)) (cN (sExt (t * 6 + f))) (x + (ofF dByt dLen x f))).en) ((enV dByt dLen (MV.mk mWg mEn mDp mAt mTb mSt) (tgF dByt dLen (x + ofF dByt dLen x f)) (cN (sExt (t * 6 + f))) (x + (ofF dByt dLen x f))).dp) ((enV dByt dLen (MV.mk mWg mEn mDp mAt mTb mSt) (tgF dByt dLen (x + ofF dByt dLen x f)) (cN (sExt (t * 6 + f))) (x + (ofF dByt dLen x f))).fa) ((enV dByt dLen (MV.mk mWg mEn mDp mAt mTb mSt) (tgF dByt dLen (x + ofF dByt dLen x f)) (cN (sExt (t * 6 + f))) (x + (ofF dByt dLen x f))).ft) ((enV dByt dLen (MV.mk mWg mEn mDp mAt mTb mSt) (tgF dByt dLen (x + ofF dByt dLen x f)) (cN (sExt (t * 6 + f))) (x + (ofF dByt dLen x f))).fs)) H := hP
            have hD : va_D A (Wm am gm sLen sKind sExt sMust rTab rFil mNum rLen rItm made pItm held dByt dLen ver fAdr fTab adr tab lf mCode row mWr mWid mOv mPl mTh mSp mPile mNext mSh mShs mRea ((enV dByt dLen (MV.mk mWg mEn mDp mAt mTb mSt) (tgF dByt dLen (x + ofF dByt dLen x f)) (cN (sExt (t * 6 + f))) (x + (ofF dByt dLen x f))).wg) ((enV dByt dLen (MV.mk mWg mEn mDp mAt mTb mSt) (tgF dByt dLen (x + ofF dByt dLen x f)) (cN (sExt (t * 6 + f))) (x + (ofF dByt dLen x f))).en) ((enV dByt dLen (MV.mk mWg mEn mDp mAt mTb mSt) (tgF dByt dLen (x + ofF dByt dLen x f)) (cN (sExt (t * 6 + f))) (x + (ofF dByt dLen x f))).dp) ((enV dByt dLen (MV.mk mWg mEn mDp mAt mTb mSt) (tgF dByt dLen (x + ofF dByt dLen x f)) (cN (sExt (t * 6 + f))) (x + (ofF dByt dLen x f))).fa) ((enV dByt dLen (MV.mk mWg mEn mDp mAt mTb mSt) (tgF dByt dLen (x + ofF dByt dLen x f)) (cN (sExt (t * 6 + f))) (x + (ofF dByt dLen x f))).ft) ((enV dByt dLen (MV.mk mWg mEn mDp mAt mTb mSt) (tgF dByt dLen (x + ofF dByt dLen x f)) (cN (sExt (t * 6 + f))) (x + (ofF dByt dLen x f))).fs)) := hD
            refine W.eq (g2 := F0 m 137 ls []) rfl ?_
            refine lv_goto (tgt := 171) hx hb d_M_inspect_137 (by decide) ?_
            have hv : inV (SR.mk sLen sKind sExt sMust rTab rFil rNum rLnk rLen rItm) dByt dLen (MV.mk mWg mEn mDp mAt mTb mSt) x t f = enV dByt dLen (MV.mk mWg mEn mDp mAt mTb mSt) (tgF dByt dLen (x + ofF dByt dLen x f)) (cN (sExt (t * 6 + f))) (x + ofF dByt dLen x f) := by rw [inV, if_neg c_37, if_neg hnb, if_pos c_109]
            exact k_vret hx hb hr hlocks hK hP hD hS (trivial) (by rw [hv]; first | done | rfl) d_M_inspect_171
        · skip
          have c_89 := mt (z_eq (by omega)).mpr c_89
          refine lv_aload_n hx hb d_M_inspect_92 rfl (lv_at hl 4 rfl) ?_
          refine lv_iload hx hb d_M_inspect_93 (lv_at hl 3 rfl) ?_
          refine lv_iconst (v := nI 4) hx hb d_M_inspect_95 (by decide) ?_
          refine lv_iadd hx hb d_M_inspect_96 ?_
          refine lv_eqi (nI_add _ _) ?_
          refine lv_iconst (v := nI 2) hx hb d_M_inspect_97 (by decide) ?_
          refine lv_iload_n hx hb d_M_inspect_98 rfl (lv_at hl 7 rfl) ?_
          refine lv_imul hx hb d_M_inspect_99 ?_
          refine lv_eqi (pk_mul _ _) ?_
          refine lv_iadd hx hb d_M_inspect_100 ?_
          refine lv_eqi (nI_add _ _) ?_
          refine k_callV (m_fail l D am gm tw sLen sKind sExt sMust rTab rFil mNum rLen rItm made pItm held dByt dLen ver fAdr fTab adr tab lf mCode row mWr mWid mOv mPl mTh mSp mPile mNext mSh mShs mRea mWg mEn mDp mAt mTb mSt (nI (((vN dByt dLen x) + 4) + (2 * f)))  ) m_M_fail wd_38303c4f 0 8 rfl rfl rfl kT hx hb hml hown hts ⟨Nat.le_of_ble_eq_true rfl, Nat.le_of_ble_eq_true rfl⟩ ⟨Nat.le_of_ble_eq_true rfl, Nat.le_of_ble_eq_true rfl⟩ hK hP hD hS hA hZ hl.1 rfl rfl (Nat.le_of_ble_eq_true rfl) d_M_inspect_101 (fun H locs hP hD hS => ?_)
          have hP : va_P D vwCl (Wm am gm sLen sKind sExt sMust rTab rFil mNum rLen rItm made pItm held dByt dLen ver fAdr fTab adr tab lf mCode row mWr mWid mOv mPl mTh mSp mPile mNext mSh mShs mRea (if mWg < 0 then (nI (((vN dByt dLen x) + 4) + (2 * f))) else mWg) mEn mDp mAt mTb mSt) H := hP
          have hD : va_D A (Wm am gm sLen sKind sExt sMust rTab rFil mNum rLen rItm made pItm held dByt dLen ver fAdr fTab adr tab lf mCode row mWr mWid mOv mPl mTh mSp mPile mNext mSh mShs mRea (if mWg < 0 then (nI (((vN dByt dLen x) + 4) + (2 * f))) else mWg) mEn mDp mAt mTb mSt) := hD
          refine W.eq (g2 := F0 m 104 ls []) rfl ?_
          have hv : inV (SR.mk sLen sKind sExt sMust rTab rFil rNum rLnk rLen rItm) dByt dLen (MV.mk mWg mEn mDp mAt mTb mSt) x t f = (MV.mk mWg mEn mDp mAt mTb mSt).fl (nI (vN dByt dLen x + 4 + 2 * f)) := by rw [inV, if_neg c_37, if_pos (Or.inr (Or.inr c_89))]
          exact k_vret hx hb hr hlocks hK hP hD hS (trivial) (by rw [hv]; first | done | rfl) d_M_inspect_104
  · skip
    have c_37 := (z_eq (by omega)).mp c_37
    refine lv_aload_n hx hb d_M_inspect_40 rfl (lv_at hl 4 rfl) ?_
    refine va_get (D := D) (ci := 8) (C := R_M) (T := T_M) (N := 39) hx hb hts (fun w h => kT w (i_M w h)) hown hK hP 0 rfl rfl 4 (by decide) (hts _ (kT _ wd_de26f6e3)) (fun _ h9 => h9) rfl d_M_inspect_41 ?_
    refine lv_bipush (v := nI 6) hx hb d_M_inspect_44 (by decide) ?_
    refine lv_iload_n hx hb d_M_inspect_46 rfl (lv_at hl 6 rfl) ?_
    refine lv_imul hx hb d_M_inspect_47 ?_
    refine lv_eqi ((pk_mul _ _).trans (nI_congr (Nat.mul_comm _ _))) ?_
    refine lv_iload_n hx hb d_M_inspect_48 rfl (lv_at hl 7 rfl) ?_
    refine lv_iadd hx hb d_M_inspect_49 ?_
    refine lv_eqi (nI_add _ _) ?_
    refine z_zald hx hb hK hP 4 3 rfl rfl (i := ((t * 6) + f)) (by omega) (by decide) d_M_inspect_50 ?_
    refine lv_if_eq (tgt := 59) hx hb d_M_inspect_51 (by decide) (fun c_51 => ?_) (fun c_51 => ?_)
    · skip
      have c_51 := (bI_0).mp c_51
      have hv : inV (SR.mk sLen sKind sExt sMust rTab rFil rNum rLnk rLen rItm) dByt dLen (MV.mk mWg mEn mDp mAt mTb mSt) x t f = MV.mk mWg mEn mDp mAt mTb mSt := by rw [inV, if_pos c_37, if_neg (show ¬ sMust (t * 6 + f) = true by rw [c_51]; simp)]
      exact k_vret hx hb hr hlocks hK hP hD hS (trivial) (by rw [hv]; first | done | rfl) d_M_inspect_59
    · skip
      have c_51 := mt (bI_0).mpr c_51
      have c_51 := eq_true_of_ne_false c_51
      refine lv_aload_n hx hb d_M_inspect_54 rfl (lv_at hl 4 rfl) ?_
      refine lv_iload_n hx hb d_M_inspect_55 rfl (lv_at hl 5 rfl) ?_
      refine k_callV (m_fail l D am gm tw sLen sKind sExt sMust rTab rFil mNum rLen rItm made pItm held dByt dLen ver fAdr fTab adr tab lf mCode row mWr mWid mOv mPl mTh mSp mPile mNext mSh mShs mRea mWg mEn mDp mAt mTb mSt (nI x)  ) m_M_fail wd_38303c4f 0 8 rfl rfl rfl kT hx hb hml hown hts ⟨Nat.le_of_ble_eq_true rfl, Nat.le_of_ble_eq_true rfl⟩ ⟨Nat.le_of_ble_eq_true rfl, Nat.le_of_ble_eq_true rfl⟩ hK hP hD hS hA hZ hl.1 rfl rfl (Nat.le_of_ble_eq_true rfl) d_M_inspect_56 (fun H locs hP hD hS => ?_)
      have hP : va_P D vwCl (Wm am gm sLen sKind sExt sMust rTab rFil mNum rLen rItm made pItm held dByt dLen ver fAdr fTab adr tab lf mCode row mWr mWid mOv mPl mTh mSp mPile mNext mSh mShs mRea (if mWg < 0 then (nI x) else mWg) mEn mDp mAt mTb mSt) H := hP
      have hD : va_D A (Wm am gm sLen sKind sExt sMust rTab rFil mNum rLen rItm made pItm held dByt dLen ver fAdr fTab adr tab lf mCode row mWr mWid mOv mPl mTh mSp mPile mNext mSh mShs mRea (if mWg < 0 then (nI x) else mWg) mEn mDp mAt mTb mSt) := hD
      refine W.eq (g2 := F0 m 59 ls []) rfl ?_
      have hv : inV (SR.mk sLen sKind sExt sMust rTab rFil rNum rLnk rLen rItm) dByt dLen (MV.mk mWg mEn mDp mAt mTb mSt) x t f = (MV.mk mWg mEn mDp mAt mTb mSt).fl (nI x) := by rw [inV, if_pos c_37, if_pos c_51]
      exact k_vret hx hb hr hlocks hK hP hD hS (trivial) (by rw [hv]; first | done | rfl) d_M_inspect_59
set_option maxHeartbeats 4000000 in
set_option maxRecDepth 100000 in
theorem m_verify (l : Launch) (D : va_G) (am : Nat → Nat) (gm : Nat → ClassId) (tw : Nat) (sLen sKind : Nat → Nat) (sExt : Nat → Int32) (sMust : Nat → Bool) (rTab : Nat → Nat) (rFil : Nat → Bool) (mNum : Nat → Int64) (rLen : Nat → Nat) (rItm : Nat → Int32) (made : Nat) (pItm : Nat → Int32) (held : Nat) (dByt : Nat → Nat) (dLen : Nat) (ver : Bool) (fAdr fTab adr tab : Nat) (lf : Int32) (mCode : Nat) (row : Nat → Nat) (mWr mWid : Nat) (mOv : Bool) (mPl mTh mSp mPile mNext mSh : Nat → Nat) (mShs : Nat) (mRea : Nat → Bool) (mWg : Int32) (mEn mDp : Nat) (mAt mTb mSt : Nat → Nat) (x : Int32) (rNum : Nat → Int64) (rLnk : Nat → Nat) (kv : Nat) (hL : ∀ t, sLen t ≤ 6) (hk : ∀ j, sKind j < 7) (hX : ∀ j, sKind j = 6 → okT (sExt j) = true) (hB : ∀ k, dByt k < 256) (hd : dLen ≤ 240) (hdn : dnV (itV (SR.mk sLen sKind sExt sMust rTab rFil rNum rLnk rLen rItm) dByt dLen kv (v0V dByt dLen (cN x) mAt mTb mSt))) (hw : (itV (SR.mk sLen sKind sExt sMust rTab rFil rNum rLnk rLen rItm) dByt dLen kv (v0V dByt dLen (cN x) mAt mTb mSt)).wg = (vIn (SR.mk sLen sKind sExt sMust rTab rFil rNum rLnk rLen rItm) dByt dLen (cN x)).1) (he : (itV (SR.mk sLen sKind sExt sMust rTab rFil rNum rLnk rLen rItm) dByt dLen kv (v0V dByt dLen (cN x) mAt mTb mSt)).en = (vIn (SR.mk sLen sKind sExt sMust rTab rFil rNum rLnk rLen rItm) dByt dLen (cN x)).2) : kM l y_M_verify b_M_verify 3 (some .int) ({ frames := 6, cells := 0, slots := 0, locals := 136 }) D vwCl (WmT gm) tw [.ref (am 0), .int x] (Wm am gm sLen sKind sExt sMust rTab rFil mNum rLen rItm made pItm held dByt dLen ver fAdr fTab adr tab lf mCode row mWr mWid mOv mPl mTh mSp mPile mNext mSh mShs mRea mWg mEn mDp mAt mTb mSt) (some (.int (nI (if cdVer (SR.mk sLen sKind sExt sMust rTab rFil rNum rLnk rLen rItm) dByt dLen x = 0 then (vIn (SR.mk sLen sKind sExt sMust rTab rFil rNum rLnk rLen rItm) dByt dLen (cN x)).2 else 0)))) (Wm am gm sLen sKind sExt sMust rTab rFil mNum rLen rItm made pItm held dByt dLen (if cdVer (SR.mk sLen sKind sExt sMust rTab rFil rNum rLnk rLen rItm) dByt dLen x = 0 then true else if okT x = true then false else ver) (if cdVer (SR.mk sLen sKind sExt sMust rTab rFil rNum rLnk rLen rItm) dByt dLen x = 0 then min (leN dByt dLen (nI 0) 4) 100000 else fAdr) (if cdVer (SR.mk sLen sKind sExt sMust rTab rFil rNum rLnk rLen rItm) dByt dLen x = 0 then cN x else fTab) (if cdVer (SR.mk sLen sKind sExt sMust rTab rFil rNum rLnk rLen rItm) dByt dLen x = 0 then min (leN dByt dLen (nI 0) 4) 100000 else adr) (if cdVer (SR.mk sLen sKind sExt sMust rTab rFil rNum rLnk rLen rItm) dByt dLen x = 0 then cN x else tab) (if okT x = true then (vIn (SR.mk sLen sKind sExt sMust rTab rFil rNum rLnk rLen rItm) dByt dLen (cN x)).1 else lf) (cdVer (SR.mk sLen sKind sExt sMust rTab rFil rNum rLnk rLen rItm) dByt dLen x) row mWr mWid mOv mPl mTh mSp mPile mNext mSh mShs mRea ((if okT x = true then itV (SR.mk sLen sKind sExt sMust rTab rFil rNum rLnk rLen rItm) dByt dLen kv (v0V dByt dLen (cN x) mAt mTb mSt) else MV.mk mWg mEn mDp mAt mTb mSt).wg) ((if okT x = true then itV (SR.mk sLen sKind sExt sMust rTab rFil rNum rLnk rLen rItm) dByt dLen kv (v0V dByt dLen (cN x) mAt mTb mSt) else MV.mk mWg mEn mDp mAt mTb mSt).en) ((if okT x = true then itV (SR.mk sLen sKind sExt sMust rTab rFil rNum rLnk rLen rItm) dByt dLen kv (v0V dByt dLen (cN x) mAt mTb mSt) else MV.mk mWg mEn mDp mAt mTb mSt).dp) ((if okT x = true then itV (SR.mk sLen sKind sExt sMust rTab rFil rNum rLnk rLen rItm) dByt dLen kv (v0V dByt dLen (cN x) mAt mTb mSt) else MV.mk mWg mEn mDp mAt mTb mSt).fa) ((if okT x = true then itV (SR.mk sLen sKind sExt sMust rTab rFil rNum rLnk rLen rItm) dByt dLen kv (v0V dByt dLen (cN x) mAt mTb mSt) else MV.mk mWg mEn mDp mAt mTb mSt).ft) ((if okT x = true then itV (SR.mk sLen sKind sExt sMust rTab rFil rNum rLnk rLen rItm) dByt dLen kv (v0V dByt dLen (cN x) mAt mTb mSt) else MV.mk mWg mEn mDp mAt mTb mSt).fs)) := by
  refine k_of (by decide) (Nat.le_of_ble_eq_true rfl) ?_
  intro p e s m below meth c A ls hx hb hr hlocks hml hts hown hin0 hA hP hK hD hS hZ hl
  have hl : lv_has ls 3 [(0, .ref (am 0)), (1, .int x)] := hl
  refine lv_aload_n hx hb d_M_verify_0 rfl (lv_at hl 0 rfl) ?_
  refine lv_iconst (v := nI 0) hx hb d_M_verify_1 (by decide) ?_
  refine va_put (D := D) (ci := 8) (ty := .int) (C := R_M) (T := T_M) (N := 39) hx hb hts (fun w h => kT w (i_M w h)) ty_M tyk_M nm_M hown hK hP hD hS 0 rfl rfl 0 (by decide) (hts _ (kT _ wd_8b8ffda9)) (fun _ h9 => h9) rfl (by decide +kernel) rfl rfl (Nat.le_of_ble_eq_true rfl) d_M_verify_2 (fun H locs hP hD hS => ?_)
  have hP : va_P D vwCl (Wm am gm sLen sKind sExt sMust rTab rFil mNum rLen rItm made pItm held dByt dLen ver fAdr fTab adr tab lf 0 row mWr mWid mOv mPl mTh mSp mPile mNext mSh mShs mRea mWg mEn mDp mAt mTb mSt) H := hP
  have hD : va_D A (Wm am gm sLen sKind sExt sMust rTab rFil mNum rLen rItm made pItm held dByt dLen ver fAdr fTab adr tab lf 0 row mWr mWid mOv mPl mTh mSp mPile mNext mSh mShs mRea mWg mEn mDp mAt mTb mSt) := hD
  refine lv_iload_n hx hb d_M_verify_5 rfl (lv_at hl 1 rfl) ?_
  refine lv_iconst (v := nI 3) hx hb d_M_verify_6 (by decide) ?_
  refine k_callS (m_out l D am gm tw sLen sKind sExt sMust rTab rFil mNum rLen rItm made pItm held dByt dLen ver fAdr fTab adr tab lf 0 row mWr mWid mOv mPl mTh mSp mPile mNext mSh mShs mRea mWg mEn mDp mAt mTb mSt x (nI 3)  ) m_M_out wd_0c68f9ea kT hx hb hml hown hts ⟨Nat.le_of_ble_eq_true rfl, Nat.le_of_ble_eq_true rfl⟩ ⟨Nat.le_of_ble_eq_true rfl, Nat.le_of_ble_eq_true rfl⟩ hK hP hD hS hA hZ hl.1 rfl rfl (Nat.le_of_ble_eq_true rfl) d_M_verify_7 (fun H locs hP hD hS => ?_)
  have hP : va_P D vwCl (Wm am gm sLen sKind sExt sMust rTab rFil mNum rLen rItm made pItm held dByt dLen ver fAdr fTab adr tab lf 0 row mWr mWid mOv mPl mTh mSp mPile mNext mSh mShs mRea mWg mEn mDp mAt mTb mSt) H := hP
  have hD : va_D A (Wm am gm sLen sKind sExt sMust rTab rFil mNum rLen rItm made pItm held dByt dLen ver fAdr fTab adr tab lf 0 row mWr mWid mOv mPl mTh mSp mPile mNext mSh mShs mRea mWg mEn mDp mAt mTb mSt) := hD
  refine W.eq (g2 := F0 m 10 ls [.int (bI (outB x (nI 3)))]) rfl ?_
  refine lv_if_eq (tgt := 19) hx hb d_M_verify_10 (by decide) (fun c_10 => ?_) (fun c_10 => ?_)
  · skip
    have c_10 := (bI_0).mp c_10
    obtain ⟨n_x, b_x⟩ := okT_spec (t_y c_10)
    have hl : lv_has ls 3 [(0, .ref (am 0)), (1, .int (nI (cN x)))] := by rw [← n_x]; exact hl
    refine lv_aload_n hx hb d_M_verify_19 rfl (lv_at hl 0 rfl) ?_
    refine lv_iconst (v := -1) hx hb d_M_verify_20 (by decide) ?_
    refine va_put (D := D) (ci := 8) (ty := .int) (C := R_M) (T := T_M) (N := 39) hx hb hts (fun w h => kT w (i_M w h)) ty_M tyk_M nm_M hown hK hP hD hS 0 rfl rfl 33 (by decide) (hts _ (kT _ wd_de5033cc)) (fun _ h9 => h9) rfl (by decide +kernel) rfl rfl (Nat.le_of_ble_eq_true rfl) d_M_verify_21 (fun H locs hP hD hS => ?_)
    have hP : va_P D vwCl (Wm am gm sLen sKind sExt sMust rTab rFil mNum rLen rItm made pItm held dByt dLen ver fAdr fTab adr tab lf 0 row mWr mWid mOv mPl mTh mSp mPile mNext mSh mShs mRea (-1) mEn mDp mAt mTb mSt) H := hP
    have hD : va_D A (Wm am gm sLen sKind sExt sMust rTab rFil mNum rLen rItm made pItm held dByt dLen ver fAdr fTab adr tab lf 0 row mWr mWid mOv mPl mTh mSp mPile mNext mSh mShs mRea (-1) mEn mDp mAt mTb mSt) := hD
    refine lv_aload_n hx hb d_M_verify_24 rfl (lv_at hl 0 rfl) ?_
    refine lv_iconst (v := nI 0) hx hb d_M_verify_25 (by decide) ?_
    refine va_put (D := D) (ci := 8) (ty := .int) (C := R_M) (T := T_M) (N := 39) hx hb hts (fun w h => kT w (i_M w h)) ty_M tyk_M nm_M hown hK hP hD hS 0 rfl rfl 34 (by decide) (hts _ (kT _ wd_1759d07d)) (fun _ h9 => h9) rfl (by decide +kernel) rfl rfl (Nat.le_of_ble_eq_true rfl) d_M_verify_26 (fun H locs hP hD hS => ?_)
    have hP : va_P D vwCl (Wm am gm sLen sKind sExt sMust rTab rFil mNum rLen rItm made pItm held dByt dLen ver fAdr fTab adr tab lf 0 row mWr mWid mOv mPl mTh mSp mPile mNext mSh mShs mRea (-1) 0 mDp mAt mTb mSt) H := hP
    have hD : va_D A (Wm am gm sLen sKind sExt sMust rTab rFil mNum rLen rItm made pItm held dByt dLen ver fAdr fTab adr tab lf 0 row mWr mWid mOv mPl mTh mSp mPile mNext mSh mShs mRea (-1) 0 mDp mAt mTb mSt) := hD
    refine lv_aload_n hx hb d_M_verify_29 rfl (lv_at hl 0 rfl) ?_
    refine lv_iconst (v := nI 0) hx hb d_M_verify_30 (by decide) ?_
    refine va_put (D := D) (ci := 8) (ty := .int) (C := R_M) (T := T_M) (N := 39) hx hb hts (fun w h => kT w (i_M w h)) ty_M tyk_M nm_M hown hK hP hD hS 0 rfl rfl 35 (by decide) (hts _ (kT _ wd_8f75c4b2)) (fun _ h9 => h9) rfl (by decide +kernel) rfl rfl (Nat.le_of_ble_eq_true rfl) d_M_verify_31 (fun H locs hP hD hS => ?_)
    have hP : va_P D vwCl (Wm am gm sLen sKind sExt sMust rTab rFil mNum rLen rItm made pItm held dByt dLen ver fAdr fTab adr tab lf 0 row mWr mWid mOv mPl mTh mSp mPile mNext mSh mShs mRea (-1) 0 0 mAt mTb mSt) H := hP
    have hD : va_D A (Wm am gm sLen sKind sExt sMust rTab rFil mNum rLen rItm made pItm held dByt dLen ver fAdr fTab adr tab lf 0 row mWr mWid mOv mPl mTh mSp mPile mNext mSh mShs mRea (-1) 0 0 mAt mTb mSt) := hD
    refine lv_aload_n hx hb d_M_verify_34 rfl (lv_at hl 0 rfl) ?_
    refine lv_iconst (v := nI 0) hx hb d_M_verify_35 (by decide) ?_
    refine lv_eqi (show nI 0 = bI false by decide) ?_
    refine va_put (D := D) (ci := 8) (ty := .boolean) (C := R_M) (T := T_M) (N := 39) hx hb hts (fun w h => kT w (i_M w h)) ty_M tyk_M nm_M hown hK hP hD hS 0 rfl rfl 27 (by decide) (hts _ (kT _ wd_a47358da)) (fun _ h9 => h9) rfl (by decide +kernel) (bI_nar _) (bI_fits _) (Nat.le_of_ble_eq_true rfl) d_M_verify_36 (fun H locs hP hD hS => ?_)
    have hP : va_P D vwCl (Wm am gm sLen sKind sExt sMust rTab rFil mNum rLen rItm made pItm held dByt dLen false fAdr fTab adr tab lf 0 row mWr mWid mOv mPl mTh mSp mPile mNext mSh mShs mRea (-1) 0 0 mAt mTb mSt) H := hP
    have hD : va_D A (Wm am gm sLen sKind sExt sMust rTab rFil mNum rLen rItm made pItm held dByt dLen false fAdr fTab adr tab lf 0 row mWr mWid mOv mPl mTh mSp mPile mNext mSh mShs mRea (-1) 0 0 mAt mTb mSt) := hD
    refine lv_aload_n hx hb d_M_verify_39 rfl (lv_at hl 0 rfl) ?_
    refine va_get (D := D) (ci := 8) (C := R_M) (T := T_M) (N := 39) hx hb hts (fun w h => kT w (i_M w h)) hown hK hP 0 rfl rfl 26 (by decide) (hts _ (kT _ wd_3139de6a)) (fun _ h9 => h9) rfl d_M_verify_40 ?_
    refine lv_iconst (v := nI 4) hx hb d_M_verify_43 (by decide) ?_
    refine lv_icmp_ge (tgt := 55) hx hb d_M_verify_44 (by decide) (fun c_44 => ?_) (fun c_44 => ?_)
    · skip
      have c_44 := (nI_leI (by omega) (by omega)).mp c_44
      refine lv_aload_n hx hb d_M_verify_55 rfl (lv_at hl 0 rfl) ?_
      refine lv_aload_n hx hb d_M_verify_56 rfl (lv_at hl 0 rfl) ?_
      refine lv_iconst (v := nI 0) hx hb d_M_verify_57 (by decide) ?_
      refine k_callV (m_offset4 l D am gm tw sLen sKind sExt sMust rTab rFil mNum rLen rItm made pItm held dByt dLen false fAdr fTab adr tab lf 0 row mWr mWid mOv mPl mTh mSp mPile mNext mSh mShs mRea (-1) 0 0 mAt mTb mSt 0  (by omega) hB hd) m_M_offset4 wd_fe38dba4 0 8 rfl rfl rfl kT hx hb hml hown hts ⟨Nat.le_of_ble_eq_true rfl, Nat.le_of_ble_eq_true rfl⟩ ⟨Nat.le_of_ble_eq_true rfl, Nat.le_of_ble_eq_true rfl⟩ hK hP hD hS hA hZ hl.1 rfl rfl (Nat.le_of_ble_eq_true rfl) d_M_verify_58 (fun H locs hP hD hS => ?_)
      have hP : va_P D vwCl (Wm am gm sLen sKind sExt sMust rTab rFil mNum rLen rItm made pItm held dByt dLen false fAdr fTab adr tab lf 0 row mWr mWid mOv mPl mTh mSp mPile mNext mSh mShs mRea (-1) 0 0 mAt mTb mSt) H := hP
      have hD : va_D A (Wm am gm sLen sKind sExt sMust rTab rFil mNum rLen rItm made pItm held dByt dLen false fAdr fTab adr tab lf 0 row mWr mWid mOv mPl mTh mSp mPile mNext mSh mShs mRea (-1) 0 0 mAt mTb mSt) := hD
      refine W.eq (g2 := F0 m 61 ls [.int (nI (min (leN dByt dLen (nI 0) 4) 100000)), .ref (am 0)]) rfl ?_
      refine lv_iload_n hx hb d_M_verify_61 rfl (lv_at hl 1 rfl) ?_
      refine lv_iconst (v := nI 0) hx hb d_M_verify_62 (by decide) ?_
      refine k_callV (m_enter l D am gm tw sLen sKind sExt sMust rTab rFil mNum rLen rItm made pItm held dByt dLen false fAdr fTab adr tab lf 0 row mWr mWid mOv mPl mTh mSp mPile mNext mSh mShs mRea (-1) 0 0 mAt mTb mSt (min (leN dByt dLen (nI 0) 4) 100000) (cN x) 0  (Nat.lt_of_le_of_lt (Nat.min_le_right _ _) (by decide)) b_x (by decide) (by decide) (by decide) hB hd) m_M_enter wd_d0b75dba 0 8 rfl rfl rfl kT hx hb hml hown hts ⟨Nat.le_of_ble_eq_true rfl, Nat.le_of_ble_eq_true rfl⟩ ⟨Nat.le_of_ble_eq_true rfl, Nat.le_of_ble_eq_true rfl⟩ hK hP hD hS hA hZ hl.1 rfl rfl (Nat.le_of_ble_eq_true rfl) d_M_verify_63 (fun H locs hP hD hS => ?_)
      have hP : va_P D vwCl (Wm am gm sLen sKind sExt sMust rTab rFil mNum rLen rItm made pItm held dByt dLen false fAdr fTab adr tab lf 0 row mWr mWid mOv mPl mTh mSp mPile mNext mSh mShs mRea ((enV dByt dLen (MV.mk (-1) 0 0 mAt mTb mSt) (min (leN dByt dLen (nI 0) 4) 100000) (cN x) 0).wg) ((enV dByt dLen (MV.mk (-1) 0 0 mAt mTb mSt) (min (leN dByt dLen (nI 0) 4) 100000) (cN x) 0).en) ((enV dByt dLen (MV.mk (-1) 0 0 mAt mTb mSt) (min (leN dByt dLen (nI 0) 4) 100000) (cN x) 0).dp) ((enV dByt dLen (MV.mk (-1) 0 0 mAt mTb mSt) (min (leN dByt dLen (nI 0) 4) 100000) (cN x) 0).fa) ((enV dByt dLen (MV.mk (-1) 0 0 mAt mTb mSt) (min (leN dByt dLen (nI 0) 4) 100000) (cN x) 0).ft) ((enV dByt dLen (MV.mk (-1) 0 0 mAt mTb mSt) (min (leN dByt dLen (nI 0) 4) 100000) (cN x) 0).fs)) H := hP
      have hD : va_D A (Wm am gm sLen sKind sExt sMust rTab rFil mNum rLen rItm made pItm held dByt dLen false fAdr fTab adr tab lf 0 row mWr mWid mOv mPl mTh mSp mPile mNext mSh mShs mRea ((enV dByt dLen (MV.mk (-1) 0 0 mAt mTb mSt) (min (leN dByt dLen (nI 0) 4) 100000) (cN x) 0).wg) ((enV dByt dLen (MV.mk (-1) 0 0 mAt mTb mSt) (min (leN dByt dLen (nI 0) 4) 100000) (cN x) 0).en) ((enV dByt dLen (MV.mk (-1) 0 0 mAt mTb mSt) (min (leN dByt dLen (nI 0) 4) 100000) (cN x) 0).dp) ((enV dByt dLen (MV.mk (-1) 0 0 mAt mTb mSt) (min (leN dByt dLen (nI 0) 4) 100000) (cN x) 0).fa) ((enV dByt dLen (MV.mk (-1) 0 0 mAt mTb mSt) (min (leN dByt dLen (nI 0) 4) 100000) (cN x) 0).ft) ((enV dByt dLen (MV.mk (-1) 0 0 mAt mTb mSt) (min (leN dByt dLen (nI 0) 4) 100000) (cN x) 0).fs)) := hD
      refine W.eq (g2 := F0 m 66 ls []) rfl ?_
      have L_66 : ∀ (n : Nat) (wg1 : Int32) (en1 : Nat) (dp1 : Nat) (at1 : Nat → Nat) (tb1 : Nat → Nat) (st1 : Nat → Nat) (kk : Nat), (itV (SR.mk sLen sKind sExt sMust rTab rFil rNum rLnk rLen rItm) dByt dLen kk (MV.mk wg1 en1 dp1 at1 tb1 st1) = itV (SR.mk sLen sKind sExt sMust rTab rFil rNum rLnk rLen rItm) dByt dLen kv (v0V dByt dLen (cN x) mAt mTb mSt)) → (VI (SR.mk sLen sKind sExt sMust rTab rFil rNum rLnk rLen rItm) dByt dLen (MV.mk wg1 en1 dp1 at1 tb1 st1)) → kk < n → ∀ (H : Heap) (locs : List Loc) (ls : Array Slot), va_P D vwCl (Wm am gm sLen sKind sExt sMust rTab rFil mNum rLen rItm made pItm held dByt dLen false fAdr fTab adr tab lf 0 row mWr mWid mOv mPl mTh mSp mPile mNext mSh mShs mRea wg1 en1 dp1 at1 tb1 st1) H → va_D A (Wm am gm sLen sKind sExt sMust rTab rFil mNum rLen rItm made pItm held dByt dLen false fAdr fTab adr tab lf 0 row mWr mWid mOv mPl mTh mSp mPile mNext mSh mShs mRea wg1 en1 dp1 at1 tb1 st1) → va_S A s.heap H locs → lv_has ls 3 [(0, .ref (am 0)), (1, .int (nI (cN x)))] → W p l e ({ frames := 6, cells := 0, slots := 0, locals := 136 }) s m ([.ref (am 0), .int x] : List Value).toArray below meth c H locs 0 0 (MQ below (kQ D vwCl (WmT gm) A True (some (.int (nI (if cdVer (SR.mk sLen sKind sExt sMust rTab rFil rNum rLnk rLen rItm) dByt dLen x = 0 then (vIn (SR.mk sLen sKind sExt sMust rTab rFil rNum rLnk rLen rItm) dByt dLen (cN x)).2 else 0)))) (Wm am gm sLen sKind sExt sMust rTab rFil mNum rLen rItm made pItm held dByt dLen (if cdVer (SR.mk sLen sKind sExt sMust rTab rFil rNum rLnk rLen rItm) dByt dLen x = 0 then true else if okT x = true then false else ver) (if cdVer (SR.mk sLen sKind sExt sMust rTab rFil rNum rLnk rLen rItm) dByt dLen x = 0 then min (leN dByt dLen (nI 0) 4) 100000 else fAdr) (if cdVer (SR.mk sLen sKind sExt sMust rTab rFil rNum rLnk rLen rItm) dByt dLen x = 0 then cN x else fTab) (if cdVer (SR.mk sLen sKind sExt sMust rTab rFil rNum rLnk rLen rItm) dByt dLen x = 0 then min (leN dByt dLen (nI 0) 4) 100000 else adr) (if cdVer (SR.mk sLen sKind sExt sMust rTab rFil rNum rLnk rLen rItm) dByt dLen x = 0 then cN x else tab) (if okT x = true then (vIn (SR.mk sLen sKind sExt sMust rTab rFil rNum rLnk rLen rItm) dByt dLen (cN x)).1 else lf) (cdVer (SR.mk sLen sKind sExt sMust rTab rFil rNum rLnk rLen rItm) dByt dLen x) row mWr mWid mOv mPl mTh mSp mPile mNext mSh mShs mRea ((if okT x = true then itV (SR.mk sLen sKind sExt sMust rTab rFil rNum rLnk rLen rItm) dByt dLen kv (v0V dByt dLen (cN x) mAt mTb mSt) else MV.mk mWg mEn mDp mAt mTb mSt).wg) ((if okT x = true then itV (SR.mk sLen sKind sExt sMust rTab rFil rNum rLnk rLen rItm) dByt dLen kv (v0V dByt dLen (cN x) mAt mTb mSt) else MV.mk mWg mEn mDp mAt mTb mSt).en) ((if okT x = true then itV (SR.mk sLen sKind sExt sMust rTab rFil rNum rLnk rLen rItm) dByt dLen kv (v0V dByt dLen (cN x) mAt mTb mSt) else MV.mk mWg mEn mDp mAt mTb mSt).dp) ((if okT x = true then itV (SR.mk sLen sKind sExt sMust rTab rFil rNum rLnk rLen rItm) dByt dLen kv (v0V dByt dLen (cN x) mAt mTb mSt) else MV.mk mWg mEn mDp mAt mTb mSt).fa) ((if okT x = true then itV (SR.mk sLen sKind sExt sMust rTab rFil rNum rLnk rLen rItm) dByt dLen kv (v0V dByt dLen (cN x) mAt mTb mSt) else MV.mk mWg mEn mDp mAt mTb mSt).ft) ((if okT x = true then itV (SR.mk sLen sKind sExt sMust rTab rFil rNum rLnk rLen rItm) dByt dLen kv (v0V dByt dLen (cN x) mAt mTb mSt) else MV.mk mWg mEn mDp mAt mTb mSt).fs))) ([.ref (am 0), .int x] : List Value).toArray s 0 0 A) (F0 m 66 ls []) := by
        intro n
        induction n with
        | zero => intro wg1 en1 dp1 at1 tb1 st1 kk hf hvi hm; exact absurd hm (Nat.not_lt_zero _)
        | succ n ih_66 =>
          intro wg1 en1 dp1 at1 tb1 st1 kk hf hvi hm_66 H locs ls hP hD hS hl
          have hd6 : dp1 ≤ 6 := hvi.1
          have he6 : en1 ≤ 16 := hvi.2.1
          refine lv_aload_n hx hb d_M_verify_66 rfl (lv_at hl 0 rfl) ?_
          refine va_get (D := D) (ci := 8) (C := R_M) (T := T_M) (N := 39) hx hb hts (fun w h => kT w (i_M w h)) hown hK hP 0 rfl rfl 35 (by decide) (hts _ (kT _ wd_8f75c4b2)) (fun _ h9 => h9) rfl d_M_verify_67 ?_
          refine lv_if_le (tgt := 157) hx hb d_M_verify_70 (by decide) (fun c_70 => ?_) (fun c_70 => ?_)
          · skip
            have c_70 := (z_le (by omega)).mp c_70
            have hdo : dnV (MV.mk wg1 en1 dp1 at1 tb1 st1) := Or.inl (show dp1 = 0 by omega)
            have hf3 : MV.mk wg1 en1 dp1 at1 tb1 st1 = itV (SR.mk sLen sKind sExt sMust rTab rFil rNum rLnk rLen rItm) dByt dLen kv (v0V dByt dLen (cN x) mAt mTb mSt) := (itV_dn hdo kk).symm.trans hf
            have hwg : wg1 = (vIn (SR.mk sLen sKind sExt sMust rTab rFil rNum rLnk rLen rItm) dByt dLen (cN x)).1 := (congrArg (fun z => z.1) hf3).trans hw
            have hee : en1 = (vIn (SR.mk sLen sKind sExt sMust rTab rFil rNum rLnk rLen rItm) dByt dLen (cN x)).2 := (congrArg (fun z => z.2.1) hf3).trans he
            have hok : okT x = true := t_y c_10
            have hfi : (if okT x = true then itV (SR.mk sLen sKind sExt sMust rTab rFil rNum rLnk rLen rItm) dByt dLen kv (v0V dByt dLen (cN x) mAt mTb mSt) else MV.mk mWg mEn mDp mAt mTb mSt) = MV.mk wg1 en1 dp1 at1 tb1 st1 := by rw [if_pos hok]; exact hf3.symm
            refine lv_aload_n hx hb d_M_verify_157 rfl (lv_at hl 0 rfl) ?_
            refine lv_aload_n hx hb d_M_verify_158 rfl (lv_at hl 0 rfl) ?_
            refine va_get (D := D) (ci := 8) (C := R_M) (T := T_M) (N := 39) hx hb hts (fun w h => kT w (i_M w h)) hown hK hP 0 rfl rfl 33 (by decide) (hts _ (kT _ wd_de5033cc)) (fun _ h9 => h9) rfl d_M_verify_159 ?_
            refine va_put (D := D) (ci := 8) (ty := .int) (C := R_M) (T := T_M) (N := 39) hx hb hts (fun w h => kT w (i_M w h)) ty_M tyk_M nm_M hown hK hP hD hS 0 rfl rfl 32 (by decide) (hts _ (kT _ wd_85573464)) (fun _ h9 => h9) rfl (by decide +kernel) rfl rfl (Nat.le_of_ble_eq_true rfl) d_M_verify_162 (fun H locs hP hD hS => ?_)
            have hP : va_P D vwCl (Wm am gm sLen sKind sExt sMust rTab rFil mNum rLen rItm made pItm held dByt dLen false fAdr fTab adr tab wg1 0 row mWr mWid mOv mPl mTh mSp mPile mNext mSh mShs mRea wg1 en1 dp1 at1 tb1 st1) H := hP
            have hD : va_D A (Wm am gm sLen sKind sExt sMust rTab rFil mNum rLen rItm made pItm held dByt dLen false fAdr fTab adr tab wg1 0 row mWr mWid mOv mPl mTh mSp mPile mNext mSh mShs mRea wg1 en1 dp1 at1 tb1 st1) := hD
            refine lv_aload_n hx hb d_M_verify_165 rfl (lv_at hl 0 rfl) ?_
            refine va_get (D := D) (ci := 8) (C := R_M) (T := T_M) (N := 39) hx hb hts (fun w h => kT w (i_M w h)) hown hK hP 0 rfl rfl 33 (by decide) (hts _ (kT _ wd_de5033cc)) (fun _ h9 => h9) rfl d_M_verify_166 ?_
            refine lv_if_lt (tgt := 178) hx hb d_M_verify_169 (by decide) (fun c_169 => ?_) (fun c_169 => ?_)
            · skip
              have hm1 : (vIn (SR.mk sLen sKind sExt sMust rTab rFil rNum rLnk rLen rItm) dByt dLen (cN x)).1 = -1 := vIn_neg hB hd hL (by rw [← hwg]; exact c_169)
              have h4 := vIn_4 hm1
              have hcd : cdVer (SR.mk sLen sKind sExt sMust rTab rFil rNum rLnk rLen rItm) dByt dLen x = 0 := by rw [cdVer, if_pos hok, if_pos hm1]
              refine lv_aload_n hx hb d_M_verify_178 rfl (lv_at hl 0 rfl) ?_
              refine lv_iconst (v := nI 1) hx hb d_M_verify_179 (by decide) ?_
              refine lv_eqi (show nI 1 = bI true by decide) ?_
              refine va_put (D := D) (ci := 8) (ty := .boolean) (C := R_M) (T := T_M) (N := 39) hx hb hts (fun w h => kT w (i_M w h)) ty_M tyk_M nm_M hown hK hP hD hS 0 rfl rfl 27 (by decide) (hts _ (kT _ wd_a47358da)) (fun _ h9 => h9) rfl (by decide +kernel) (bI_nar _) (bI_fits _) (Nat.le_of_ble_eq_true rfl) d_M_verify_180 (fun H locs hP hD hS => ?_)
              have hP : va_P D vwCl (Wm am gm sLen sKind sExt sMust rTab rFil mNum rLen rItm made pItm held dByt dLen true fAdr fTab adr tab wg1 0 row mWr mWid mOv mPl mTh mSp mPile mNext mSh mShs mRea wg1 en1 dp1 at1 tb1 st1) H := hP
              have hD : va_D A (Wm am gm sLen sKind sExt sMust rTab rFil mNum rLen rItm made pItm held dByt dLen true fAdr fTab adr tab wg1 0 row mWr mWid mOv mPl mTh mSp mPile mNext mSh mShs mRea wg1 en1 dp1 at1 tb1 st1) := hD
              refine lv_aload_n hx hb d_M_verify_183 rfl (lv_at hl 0 rfl) ?_
              refine lv_aload_n hx hb d_M_verify_184 rfl (lv_at hl 0 rfl) ?_
              refine lv_iconst (v := nI 0) hx hb d_M_verify_185 (by decide) ?_
              refine k_callV (m_offset4 l D am gm tw sLen sKind sExt sMust rTab rFil mNum rLen rItm made pItm held dByt dLen true fAdr fTab adr tab wg1 0 row mWr mWid mOv mPl mTh mSp mPile mNext mSh mShs mRea wg1 en1 dp1 at1 tb1 st1 0  (by omega) hB hd) m_M_offset4 wd_fe38dba4 0 8 rfl rfl rfl kT hx hb hml hown hts ⟨Nat.le_of_ble_eq_true rfl, Nat.le_of_ble_eq_true rfl⟩ ⟨Nat.le_of_ble_eq_true rfl, Nat.le_of_ble_eq_true rfl⟩ hK hP hD hS hA hZ hl.1 rfl rfl (Nat.le_of_ble_eq_true rfl) d_M_verify_186 (fun H locs hP hD hS => ?_)
              have hP : va_P D vwCl (Wm am gm sLen sKind sExt sMust rTab rFil mNum rLen rItm made pItm held dByt dLen true fAdr fTab adr tab wg1 0 row mWr mWid mOv mPl mTh mSp mPile mNext mSh mShs mRea wg1 en1 dp1 at1 tb1 st1) H := hP
              have hD : va_D A (Wm am gm sLen sKind sExt sMust rTab rFil mNum rLen rItm made pItm held dByt dLen true fAdr fTab adr tab wg1 0 row mWr mWid mOv mPl mTh mSp mPile mNext mSh mShs mRea wg1 en1 dp1 at1 tb1 st1) := hD
              refine W.eq (g2 := F0 m 189 ls [.int (nI (min (leN dByt dLen (nI 0) 4) 100000)), .ref (am 0)]) rfl ?_
              refine va_put (D := D) (ci := 8) (ty := .int) (C := R_M) (T := T_M) (N := 39) hx hb hts (fun w h => kT w (i_M w h)) ty_M tyk_M nm_M hown hK hP hD hS 0 rfl rfl 28 (by decide) (hts _ (kT _ wd_dbe346e2)) (fun _ h9 => h9) rfl (by decide +kernel) rfl rfl (Nat.le_of_ble_eq_true rfl) d_M_verify_189 (fun H locs hP hD hS => ?_)
              have hP : va_P D vwCl (Wm am gm sLen sKind sExt sMust rTab rFil mNum rLen rItm made pItm held dByt dLen true (min (leN dByt dLen (nI 0) 4) 100000) fTab adr tab wg1 0 row mWr mWid mOv mPl mTh mSp mPile mNext mSh mShs mRea wg1 en1 dp1 at1 tb1 st1) H := hP
              have hD : va_D A (Wm am gm sLen sKind sExt sMust rTab rFil mNum rLen rItm made pItm held dByt dLen true (min (leN dByt dLen (nI 0) 4) 100000) fTab adr tab wg1 0 row mWr mWid mOv mPl mTh mSp mPile mNext mSh mShs mRea wg1 en1 dp1 at1 tb1 st1) := hD
              refine lv_aload_n hx hb d_M_verify_192 rfl (lv_at hl 0 rfl) ?_
              refine lv_iload_n hx hb d_M_verify_193 rfl (lv_at hl 1 rfl) ?_
              refine va_put (D := D) (ci := 8) (ty := .int) (C := R_M) (T := T_M) (N := 39) hx hb hts (fun w h => kT w (i_M w h)) ty_M tyk_M nm_M hown hK hP hD hS 0 rfl rfl 29 (by decide) (hts _ (kT _ wd_258176f0)) (fun _ h9 => h9) rfl (by decide +kernel) rfl rfl (Nat.le_of_ble_eq_true rfl) d_M_verify_194 (fun H locs hP hD hS => ?_)
              have hP : va_P D vwCl (Wm am gm sLen sKind sExt sMust rTab rFil mNum rLen rItm made pItm held dByt dLen true (min (leN dByt dLen (nI 0) 4) 100000) (cN x) adr tab wg1 0 row mWr mWid mOv mPl mTh mSp mPile mNext mSh mShs mRea wg1 en1 dp1 at1 tb1 st1) H := hP
              have hD : va_D A (Wm am gm sLen sKind sExt sMust rTab rFil mNum rLen rItm made pItm held dByt dLen true (min (leN dByt dLen (nI 0) 4) 100000) (cN x) adr tab wg1 0 row mWr mWid mOv mPl mTh mSp mPile mNext mSh mShs mRea wg1 en1 dp1 at1 tb1 st1) := hD
              refine lv_aload_n hx hb d_M_verify_197 rfl (lv_at hl 0 rfl) ?_
              refine lv_aload_n hx hb d_M_verify_198 rfl (lv_at hl 0 rfl) ?_
              refine va_get (D := D) (ci := 8) (C := R_M) (T := T_M) (N := 39) hx hb hts (fun w h => kT w (i_M w h)) hown hK hP 0 rfl rfl 28 (by decide) (hts _ (kT _ wd_dbe346e2)) (fun _ h9 => h9) rfl d_M_verify_199 ?_
              refine va_put (D := D) (ci := 8) (ty := .int) (C := R_M) (T := T_M) (N := 39) hx hb hts (fun w h => kT w (i_M w h)) ty_M tyk_M nm_M hown hK hP hD hS 0 rfl rfl 30 (by decide) (hts _ (kT _ wd_cd6c8e1d)) (fun _ h9 => h9) rfl (by decide +kernel) rfl rfl (Nat.le_of_ble_eq_true rfl) d_M_verify_202 (fun H locs hP hD hS => ?_)
              have hP : va_P D vwCl (Wm am gm sLen sKind sExt sMust rTab rFil mNum rLen rItm made pItm held dByt dLen true (min (leN dByt dLen (nI 0) 4) 100000) (cN x) (min (leN dByt dLen (nI 0) 4) 100000) tab wg1 0 row mWr mWid mOv mPl mTh mSp mPile mNext mSh mShs mRea wg1 en1 dp1 at1 tb1 st1) H := hP
              have hD : va_D A (Wm am gm sLen sKind sExt sMust rTab rFil mNum rLen rItm made pItm held dByt dLen true (min (leN dByt dLen (nI 0) 4) 100000) (cN x) (min (leN dByt dLen (nI 0) 4) 100000) tab wg1 0 row mWr mWid mOv mPl mTh mSp mPile mNext mSh mShs mRea wg1 en1 dp1 at1 tb1 st1) := hD
              refine lv_aload_n hx hb d_M_verify_205 rfl (lv_at hl 0 rfl) ?_
              refine lv_iload_n hx hb d_M_verify_206 rfl (lv_at hl 1 rfl) ?_
              refine va_put (D := D) (ci := 8) (ty := .int) (C := R_M) (T := T_M) (N := 39) hx hb hts (fun w h => kT w (i_M w h)) ty_M tyk_M nm_M hown hK hP hD hS 0 rfl rfl 31 (by decide) (hts _ (kT _ wd_e5a19dfd)) (fun _ h9 => h9) rfl (by decide +kernel) rfl rfl (Nat.le_of_ble_eq_true rfl) d_M_verify_207 (fun H locs hP hD hS => ?_)
              have hP : va_P D vwCl (Wm am gm sLen sKind sExt sMust rTab rFil mNum rLen rItm made pItm held dByt dLen true (min (leN dByt dLen (nI 0) 4) 100000) (cN x) (min (leN dByt dLen (nI 0) 4) 100000) (cN x) wg1 0 row mWr mWid mOv mPl mTh mSp mPile mNext mSh mShs mRea wg1 en1 dp1 at1 tb1 st1) H := hP
              have hD : va_D A (Wm am gm sLen sKind sExt sMust rTab rFil mNum rLen rItm made pItm held dByt dLen true (min (leN dByt dLen (nI 0) 4) 100000) (cN x) (min (leN dByt dLen (nI 0) 4) 100000) (cN x) wg1 0 row mWr mWid mOv mPl mTh mSp mPile mNext mSh mShs mRea wg1 en1 dp1 at1 tb1 st1) := hD
              refine lv_aload_n hx hb d_M_verify_210 rfl (lv_at hl 0 rfl) ?_
              refine va_get (D := D) (ci := 8) (C := R_M) (T := T_M) (N := 39) hx hb hts (fun w h => kT w (i_M w h)) hown hK hP 0 rfl rfl 34 (by decide) (hts _ (kT _ wd_1759d07d)) (fun _ h9 => h9) rfl d_M_verify_211 ?_
              exact k_iret hx hb hr hlocks hK hP hD hS (trivial) (by rw [if_pos hcd, hee]) (by rw [hfi, if_pos hcd, if_pos hcd, if_pos hcd, if_pos hcd, if_pos hcd, if_pos hok, ← hwg, hcd]) d_M_verify_214
            · skip
              refine lv_aload_n hx hb d_M_verify_172 rfl (lv_at hl 0 rfl) ?_
              refine lv_iconst (v := nI 1) hx hb d_M_verify_173 (by decide) ?_
              refine k_callV (m_raise l D am gm tw sLen sKind sExt sMust rTab rFil mNum rLen rItm made pItm held dByt dLen false fAdr fTab adr tab wg1 0 row mWr mWid mOv mPl mTh mSp mPile mNext mSh mShs mRea wg1 en1 dp1 at1 tb1 st1 1  ) m_M_raise wd_4b1468e4 0 8 rfl rfl rfl kT hx hb hml hown hts ⟨Nat.le_of_ble_eq_true rfl, Nat.le_of_ble_eq_true rfl⟩ ⟨Nat.le_of_ble_eq_true rfl, Nat.le_of_ble_eq_true rfl⟩ hK hP hD hS hA hZ hl.1 rfl rfl (Nat.le_of_ble_eq_true rfl) d_M_verify_174 (fun H locs hP hD hS => ?_)
              have hP : va_P D vwCl (Wm am gm sLen sKind sExt sMust rTab rFil mNum rLen rItm made pItm held dByt dLen false fAdr fTab adr tab wg1 1 row mWr mWid mOv mPl mTh mSp mPile mNext mSh mShs mRea wg1 en1 dp1 at1 tb1 st1) H := hP
              have hD : va_D A (Wm am gm sLen sKind sExt sMust rTab rFil mNum rLen rItm made pItm held dByt dLen false fAdr fTab adr tab wg1 1 row mWr mWid mOv mPl mTh mSp mPile mNext mSh mShs mRea wg1 en1 dp1 at1 tb1 st1) := hD
              refine W.eq (g2 := F0 m 177 ls [.int (nI 0)]) rfl ?_
              have hcd : cdVer (SR.mk sLen sKind sExt sMust rTab rFil rNum rLnk rLen rItm) dByt dLen x = 1 := by rw [cdVer, if_pos hok, if_neg (fun z => c_169 (by rw [show wg1 = -1 from hwg.trans z]; decide))]
              have hc1 : ¬ cdVer (SR.mk sLen sKind sExt sMust rTab rFil rNum rLnk rLen rItm) dByt dLen x = 0 := by rw [hcd]; decide
              exact k_iret hx hb hr hlocks hK hP hD hS (trivial) (by rw [if_neg hc1]) (by rw [hfi, if_neg hc1, if_neg hc1, if_neg hc1, if_neg hc1, if_neg hc1, if_pos hok, if_pos hok, ← hwg, hcd]) d_M_verify_177
          · skip
            have c_70 := mt (z_le (by omega)).mpr c_70
            refine lv_aload_n hx hb d_M_verify_73 rfl (lv_at hl 0 rfl) ?_
            refine va_get (D := D) (ci := 8) (C := R_M) (T := T_M) (N := 39) hx hb hts (fun w h => kT w (i_M w h)) hown hK hP 0 rfl rfl 33 (by decide) (hts _ (kT _ wd_de5033cc)) (fun _ h9 => h9) rfl d_M_verify_74 ?_
            refine lv_if_ge (tgt := 157) hx hb d_M_verify_77 (by decide) (fun c_77 => ?_) (fun c_77 => ?_)
            · skip
              have hdo : dnV (MV.mk wg1 en1 dp1 at1 tb1 st1) := Or.inr (i_nlt c_77)
              have hf3 : MV.mk wg1 en1 dp1 at1 tb1 st1 = itV (SR.mk sLen sKind sExt sMust rTab rFil rNum rLnk rLen rItm) dByt dLen kv (v0V dByt dLen (cN x) mAt mTb mSt) := (itV_dn hdo kk).symm.trans hf
              have hwg : wg1 = (vIn (SR.mk sLen sKind sExt sMust rTab rFil rNum rLnk rLen rItm) dByt dLen (cN x)).1 := (congrArg (fun z => z.1) hf3).trans hw
              have hee : en1 = (vIn (SR.mk sLen sKind sExt sMust rTab rFil rNum rLnk rLen rItm) dByt dLen (cN x)).2 := (congrArg (fun z => z.2.1) hf3).trans he
              have hok : okT x = true := t_y c_10
              have hfi : (if okT x = true then itV (SR.mk sLen sKind sExt sMust rTab rFil rNum rLnk rLen rItm) dByt dLen kv (v0V dByt dLen (cN x) mAt mTb mSt) else MV.mk mWg mEn mDp mAt mTb mSt) = MV.mk wg1 en1 dp1 at1 tb1 st1 := by rw [if_pos hok]; exact hf3.symm
              refine lv_aload_n hx hb d_M_verify_157 rfl (lv_at hl 0 rfl) ?_
              refine lv_aload_n hx hb d_M_verify_158 rfl (lv_at hl 0 rfl) ?_
              refine va_get (D := D) (ci := 8) (C := R_M) (T := T_M) (N := 39) hx hb hts (fun w h => kT w (i_M w h)) hown hK hP 0 rfl rfl 33 (by decide) (hts _ (kT _ wd_de5033cc)) (fun _ h9 => h9) rfl d_M_verify_159 ?_
              refine va_put (D := D) (ci := 8) (ty := .int) (C := R_M) (T := T_M) (N := 39) hx hb hts (fun w h => kT w (i_M w h)) ty_M tyk_M nm_M hown hK hP hD hS 0 rfl rfl 32 (by decide) (hts _ (kT _ wd_85573464)) (fun _ h9 => h9) rfl (by decide +kernel) rfl rfl (Nat.le_of_ble_eq_true rfl) d_M_verify_162 (fun H locs hP hD hS => ?_)
              have hP : va_P D vwCl (Wm am gm sLen sKind sExt sMust rTab rFil mNum rLen rItm made pItm held dByt dLen false fAdr fTab adr tab wg1 0 row mWr mWid mOv mPl mTh mSp mPile mNext mSh mShs mRea wg1 en1 dp1 at1 tb1 st1) H := hP
              have hD : va_D A (Wm am gm sLen sKind sExt sMust rTab rFil mNum rLen rItm made pItm held dByt dLen false fAdr fTab adr tab wg1 0 row mWr mWid mOv mPl mTh mSp mPile mNext mSh mShs mRea wg1 en1 dp1 at1 tb1 st1) := hD
              refine lv_aload_n hx hb d_M_verify_165 rfl (lv_at hl 0 rfl) ?_
              refine va_get (D := D) (ci := 8) (C := R_M) (T := T_M) (N := 39) hx hb hts (fun w h => kT w (i_M w h)) hown hK hP 0 rfl rfl 33 (by decide) (hts _ (kT _ wd_de5033cc)) (fun _ h9 => h9) rfl d_M_verify_166 ?_
              refine lv_if_lt (tgt := 178) hx hb d_M_verify_169 (by decide) (fun c_169 => ?_) (fun c_169 => ?_)
              · skip
                have hm1 : (vIn (SR.mk sLen sKind sExt sMust rTab rFil rNum rLnk rLen rItm) dByt dLen (cN x)).1 = -1 := vIn_neg hB hd hL (by rw [← hwg]; exact c_169)
                have h4 := vIn_4 hm1
                have hcd : cdVer (SR.mk sLen sKind sExt sMust rTab rFil rNum rLnk rLen rItm) dByt dLen x = 0 := by rw [cdVer, if_pos hok, if_pos hm1]
                refine lv_aload_n hx hb d_M_verify_178 rfl (lv_at hl 0 rfl) ?_
                refine lv_iconst (v := nI 1) hx hb d_M_verify_179 (by decide) ?_
                refine lv_eqi (show nI 1 = bI true by decide) ?_
                refine va_put (D := D) (ci := 8) (ty := .boolean) (C := R_M) (T := T_M) (N := 39) hx hb hts (fun w h => kT w (i_M w h)) ty_M tyk_M nm_M hown hK hP hD hS 0 rfl rfl 27 (by decide) (hts _ (kT _ wd_a47358da)) (fun _ h9 => h9) rfl (by decide +kernel) (bI_nar _) (bI_fits _) (Nat.le_of_ble_eq_true rfl) d_M_verify_180 (fun H locs hP hD hS => ?_)
                have hP : va_P D vwCl (Wm am gm sLen sKind sExt sMust rTab rFil mNum rLen rItm made pItm held dByt dLen true fAdr fTab adr tab wg1 0 row mWr mWid mOv mPl mTh mSp mPile mNext mSh mShs mRea wg1 en1 dp1 at1 tb1 st1) H := hP
                have hD : va_D A (Wm am gm sLen sKind sExt sMust rTab rFil mNum rLen rItm made pItm held dByt dLen true fAdr fTab adr tab wg1 0 row mWr mWid mOv mPl mTh mSp mPile mNext mSh mShs mRea wg1 en1 dp1 at1 tb1 st1) := hD
                refine lv_aload_n hx hb d_M_verify_183 rfl (lv_at hl 0 rfl) ?_
                refine lv_aload_n hx hb d_M_verify_184 rfl (lv_at hl 0 rfl) ?_
                refine lv_iconst (v := nI 0) hx hb d_M_verify_185 (by decide) ?_
                refine k_callV (m_offset4 l D am gm tw sLen sKind sExt sMust rTab rFil mNum rLen rItm made pItm held dByt dLen true fAdr fTab adr tab wg1 0 row mWr mWid mOv mPl mTh mSp mPile mNext mSh mShs mRea wg1 en1 dp1 at1 tb1 st1 0  (by omega) hB hd) m_M_offset4 wd_fe38dba4 0 8 rfl rfl rfl kT hx hb hml hown hts ⟨Nat.le_of_ble_eq_true rfl, Nat.le_of_ble_eq_true rfl⟩ ⟨Nat.le_of_ble_eq_true rfl, Nat.le_of_ble_eq_true rfl⟩ hK hP hD hS hA hZ hl.1 rfl rfl (Nat.le_of_ble_eq_true rfl) d_M_verify_186 (fun H locs hP hD hS => ?_)
                have hP : va_P D vwCl (Wm am gm sLen sKind sExt sMust rTab rFil mNum rLen rItm made pItm held dByt dLen true fAdr fTab adr tab wg1 0 row mWr mWid mOv mPl mTh mSp mPile mNext mSh mShs mRea wg1 en1 dp1 at1 tb1 st1) H := hP
                have hD : va_D A (Wm am gm sLen sKind sExt sMust rTab rFil mNum rLen rItm made pItm held dByt dLen true fAdr fTab adr tab wg1 0 row mWr mWid mOv mPl mTh mSp mPile mNext mSh mShs mRea wg1 en1 dp1 at1 tb1 st1) := hD
                refine W.eq (g2 := F0 m 189 ls [.int (nI (min (leN dByt dLen (nI 0) 4) 100000)), .ref (am 0)]) rfl ?_
                refine va_put (D := D) (ci := 8) (ty := .int) (C := R_M) (T := T_M) (N := 39) hx hb hts (fun w h => kT w (i_M w h)) ty_M tyk_M nm_M hown hK hP hD hS 0 rfl rfl 28 (by decide) (hts _ (kT _ wd_dbe346e2)) (fun _ h9 => h9) rfl (by decide +kernel) rfl rfl (Nat.le_of_ble_eq_true rfl) d_M_verify_189 (fun H locs hP hD hS => ?_)
                have hP : va_P D vwCl (Wm am gm sLen sKind sExt sMust rTab rFil mNum rLen rItm made pItm held dByt dLen true (min (leN dByt dLen (nI 0) 4) 100000) fTab adr tab wg1 0 row mWr mWid mOv mPl mTh mSp mPile mNext mSh mShs mRea wg1 en1 dp1 at1 tb1 st1) H := hP
                have hD : va_D A (Wm am gm sLen sKind sExt sMust rTab rFil mNum rLen rItm made pItm held dByt dLen true (min (leN dByt dLen (nI 0) 4) 100000) fTab adr tab wg1 0 row mWr mWid mOv mPl mTh mSp mPile mNext mSh mShs mRea wg1 en1 dp1 at1 tb1 st1) := hD
                refine lv_aload_n hx hb d_M_verify_192 rfl (lv_at hl 0 rfl) ?_
                refine lv_iload_n hx hb d_M_verify_193 rfl (lv_at hl 1 rfl) ?_
                refine va_put (D := D) (ci := 8) (ty := .int) (C := R_M) (T := T_M) (N := 39) hx hb hts (fun w h => kT w (i_M w h)) ty_M tyk_M nm_M hown hK hP hD hS 0 rfl rfl 29 (by decide) (hts _ (kT _ wd_258176f0)) (fun _ h9 => h9) rfl (by decide +kernel) rfl rfl (Nat.le_of_ble_eq_true rfl) d_M_verify_194 (fun H locs hP hD hS => ?_)
                have hP : va_P D vwCl (Wm am gm sLen sKind sExt sMust rTab rFil mNum rLen rItm made pItm held dByt dLen true (min (leN dByt dLen (nI 0) 4) 100000) (cN x) adr tab wg1 0 row mWr mWid mOv mPl mTh mSp mPile mNext mSh mShs mRea wg1 en1 dp1 at1 tb1 st1) H := hP
                have hD : va_D A (Wm am gm sLen sKind sExt sMust rTab rFil mNum rLen rItm made pItm held dByt dLen true (min (leN dByt dLen (nI 0) 4) 100000) (cN x) adr tab wg1 0 row mWr mWid mOv mPl mTh mSp mPile mNext mSh mShs mRea wg1 en1 dp1 at1 tb1 st1) := hD
                refine lv_aload_n hx hb d_M_verify_197 rfl (lv_at hl 0 rfl) ?_
                refine lv_aload_n hx hb d_M_verify_198 rfl (lv_at hl 0 rfl) ?_
                refine va_get (D := D) (ci := 8) (C := R_M) (T := T_M) (N := 39) hx hb hts (fun w h => kT w (i_M w h)) hown hK hP 0 rfl rfl 28 (by decide) (hts _ (kT _ wd_dbe346e2)) (fun _ h9 => h9) rfl d_M_verify_199 ?_
                refine va_put (D := D) (ci := 8) (ty := .int) (C := R_M) (T := T_M) (N := 39) hx hb hts (fun w h => kT w (i_M w h)) ty_M tyk_M nm_M hown hK hP hD hS 0 rfl rfl 30 (by decide) (hts _ (kT _ wd_cd6c8e1d)) (fun _ h9 => h9) rfl (by decide +kernel) rfl rfl (Nat.le_of_ble_eq_true rfl) d_M_verify_202 (fun H locs hP hD hS => ?_)
                have hP : va_P D vwCl (Wm am gm sLen sKind sExt sMust rTab rFil mNum rLen rItm made pItm held dByt dLen true (min (leN dByt dLen (nI 0) 4) 100000) (cN x) (min (leN dByt dLen (nI 0) 4) 100000) tab wg1 0 row mWr mWid mOv mPl mTh mSp mPile mNext mSh mShs mRea wg1 en1 dp1 at1 tb1 st1) H := hP
                have hD : va_D A (Wm am gm sLen sKind sExt sMust rTab rFil mNum rLen rItm made pItm held dByt dLen true (min (leN dByt dLen (nI 0) 4) 100000) (cN x) (min (leN dByt dLen (nI 0) 4) 100000) tab wg1 0 row mWr mWid mOv mPl mTh mSp mPile mNext mSh mShs mRea wg1 en1 dp1 at1 tb1 st1) := hD
                refine lv_aload_n hx hb d_M_verify_205 rfl (lv_at hl 0 rfl) ?_
                refine lv_iload_n hx hb d_M_verify_206 rfl (lv_at hl 1 rfl) ?_
                refine va_put (D := D) (ci := 8) (ty := .int) (C := R_M) (T := T_M) (N := 39) hx hb hts (fun w h => kT w (i_M w h)) ty_M tyk_M nm_M hown hK hP hD hS 0 rfl rfl 31 (by decide) (hts _ (kT _ wd_e5a19dfd)) (fun _ h9 => h9) rfl (by decide +kernel) rfl rfl (Nat.le_of_ble_eq_true rfl) d_M_verify_207 (fun H locs hP hD hS => ?_)
                have hP : va_P D vwCl (Wm am gm sLen sKind sExt sMust rTab rFil mNum rLen rItm made pItm held dByt dLen true (min (leN dByt dLen (nI 0) 4) 100000) (cN x) (min (leN dByt dLen (nI 0) 4) 100000) (cN x) wg1 0 row mWr mWid mOv mPl mTh mSp mPile mNext mSh mShs mRea wg1 en1 dp1 at1 tb1 st1) H := hP
                have hD : va_D A (Wm am gm sLen sKind sExt sMust rTab rFil mNum rLen rItm made pItm held dByt dLen true (min (leN dByt dLen (nI 0) 4) 100000) (cN x) (min (leN dByt dLen (nI 0) 4) 100000) (cN x) wg1 0 row mWr mWid mOv mPl mTh mSp mPile mNext mSh mShs mRea wg1 en1 dp1 at1 tb1 st1) := hD
                refine lv_aload_n hx hb d_M_verify_210 rfl (lv_at hl 0 rfl) ?_
                refine va_get (D := D) (ci := 8) (C := R_M) (T := T_M) (N := 39) hx hb hts (fun w h => kT w (i_M w h)) hown hK hP 0 rfl rfl 34 (by decide) (hts _ (kT _ wd_1759d07d)) (fun _ h9 => h9) rfl d_M_verify_211 ?_
                exact k_iret hx hb hr hlocks hK hP hD hS (trivial) (by rw [if_pos hcd, hee]) (by rw [hfi, if_pos hcd, if_pos hcd, if_pos hcd, if_pos hcd, if_pos hcd, if_pos hok, ← hwg, hcd]) d_M_verify_214
              · skip
                refine lv_aload_n hx hb d_M_verify_172 rfl (lv_at hl 0 rfl) ?_
                refine lv_iconst (v := nI 1) hx hb d_M_verify_173 (by decide) ?_
                refine k_callV (m_raise l D am gm tw sLen sKind sExt sMust rTab rFil mNum rLen rItm made pItm held dByt dLen false fAdr fTab adr tab wg1 0 row mWr mWid mOv mPl mTh mSp mPile mNext mSh mShs mRea wg1 en1 dp1 at1 tb1 st1 1  ) m_M_raise wd_4b1468e4 0 8 rfl rfl rfl kT hx hb hml hown hts ⟨Nat.le_of_ble_eq_true rfl, Nat.le_of_ble_eq_true rfl⟩ ⟨Nat.le_of_ble_eq_true rfl, Nat.le_of_ble_eq_true rfl⟩ hK hP hD hS hA hZ hl.1 rfl rfl (Nat.le_of_ble_eq_true rfl) d_M_verify_174 (fun H locs hP hD hS => ?_)
                have hP : va_P D vwCl (Wm am gm sLen sKind sExt sMust rTab rFil mNum rLen rItm made pItm held dByt dLen false fAdr fTab adr tab wg1 1 row mWr mWid mOv mPl mTh mSp mPile mNext mSh mShs mRea wg1 en1 dp1 at1 tb1 st1) H := hP
                have hD : va_D A (Wm am gm sLen sKind sExt sMust rTab rFil mNum rLen rItm made pItm held dByt dLen false fAdr fTab adr tab wg1 1 row mWr mWid mOv mPl mTh mSp mPile mNext mSh mShs mRea wg1 en1 dp1 at1 tb1 st1) := hD
                refine W.eq (g2 := F0 m 177 ls [.int (nI 0)]) rfl ?_
                have hcd : cdVer (SR.mk sLen sKind sExt sMust rTab rFil rNum rLnk rLen rItm) dByt dLen x = 1 := by rw [cdVer, if_pos hok, if_neg (fun z => c_169 (by rw [show wg1 = -1 from hwg.trans z]; decide))]
                have hc1 : ¬ cdVer (SR.mk sLen sKind sExt sMust rTab rFil rNum rLnk rLen rItm) dByt dLen x = 0 := by rw [hcd]; decide
                exact k_iret hx hb hr hlocks hK hP hD hS (trivial) (by rw [if_neg hc1]) (by rw [hfi, if_neg hc1, if_neg hc1, if_neg hc1, if_neg hc1, if_neg hc1, if_pos hok, if_pos hok, ← hwg, hcd]) d_M_verify_177
            · skip
              have hw0 : wg1 < 0 := i_lt c_77
              have hp0 : ¬ dp1 = 0 := by omega
              have hnd : ¬ dnV (MV.mk wg1 en1 dp1 at1 tb1 st1) := fun z => z.elim hp0 (fun z => z hw0)
              have hfr : FR dByt dLen (at1 (dp1 - 1)) := hvi.2.2.1 hw0 (dp1 - 1) (show dp1 - 1 < dp1 by omega)
              have hst1 : tb1 (dp1 - 1) < 4 := (hvi.2.2.2 (dp1 - 1) (show dp1 - 1 < dp1 by omega)).1
              have hst2 : st1 (dp1 - 1) ≤ sLen (tb1 (dp1 - 1)) := (hvi.2.2.2 (dp1 - 1) (show dp1 - 1 < dp1 by omega)).2
              have hL1 := hL (tb1 (dp1 - 1))
              obtain ⟨kj, hkj, hf2⟩ := itV_pos hf hdn hnd
              have hvi2 := VI_st hB hd hX hL hvi hnd
              refine lv_aload_n hx hb d_M_verify_80 rfl (lv_at hl 0 rfl) ?_
              refine va_get (D := D) (ci := 8) (C := R_M) (T := T_M) (N := 39) hx hb hts (fun w h => kT w (i_M w h)) hown hK hP 0 rfl rfl 35 (by decide) (hts _ (kT _ wd_8f75c4b2)) (fun _ h9 => h9) rfl d_M_verify_81 ?_
              refine lv_iconst (v := nI 1) hx hb d_M_verify_84 (by decide) ?_
              refine lv_isub hx hb d_M_verify_85 ?_
              refine lv_eqi (pk_sub (by omega)) ?_
              refine lv_istore_n (lv' := [(2, .int (nI (dp1 - 1))), (0, .ref (am 0)), (1, .int (nI (cN x)))]) hx hb d_M_verify_86 rfl hl (by decide) rfl (fun ls hl => ?_)
              refine lv_aload_n hx hb d_M_verify_87 rfl (lv_at hl 1 rfl) ?_
              refine va_get (D := D) (ci := 8) (C := R_M) (T := T_M) (N := 39) hx hb hts (fun w h => kT w (i_M w h)) hown hK hP 0 rfl rfl 38 (by decide) (hts _ (kT _ wd_1d293484)) (fun _ h9 => h9) rfl d_M_verify_88 ?_
              refine lv_iload_n hx hb d_M_verify_91 rfl (lv_at hl 0 rfl) ?_
              refine n_iald hx hb hK hP 22 21 rfl rfl (i := (dp1 - 1)) (by omega) (by decide) d_M_verify_92 ?_
              refine lv_aload_n hx hb d_M_verify_93 rfl (lv_at hl 1 rfl) ?_
              refine va_get (D := D) (ci := 8) (C := R_M) (T := T_M) (N := 39) hx hb hts (fun w h => kT w (i_M w h)) hown hK hP 0 rfl rfl 1 (by decide) (hts _ (kT _ wd_4d2260e1)) (fun _ h9 => h9) rfl d_M_verify_94 ?_
              refine lv_aload_n hx hb d_M_verify_97 rfl (lv_at hl 1 rfl) ?_
              refine va_get (D := D) (ci := 8) (C := R_M) (T := T_M) (N := 39) hx hb hts (fun w h => kT w (i_M w h)) hown hK hP 0 rfl rfl 37 (by decide) (hts _ (kT _ wd_1951fc82)) (fun _ h9 => h9) rfl d_M_verify_98 ?_
              refine lv_iload_n hx hb d_M_verify_101 rfl (lv_at hl 0 rfl) ?_
              refine n_iald hx hb hK hP 21 20 rfl rfl (i := (dp1 - 1)) (by omega) (by decide) d_M_verify_102 ?_
              refine n_iald hx hb hK hP 1 0 rfl rfl (i := (tb1 (dp1 - 1))) (by omega) (by decide) d_M_verify_103 ?_
              refine lv_icmp_ne (tgt := 120) hx hb d_M_verify_104 (by decide) (fun c_104 => ?_) (fun c_104 => ?_)
              · skip
                have c_104 := mt (nI_eq (by omega) (by omega)).mpr c_104
                refine lv_aload_n hx hb d_M_verify_120 rfl (lv_at hl 1 rfl) ?_
                refine va_get (D := D) (ci := 8) (C := R_M) (T := T_M) (N := 39) hx hb hts (fun w h => kT w (i_M w h)) hown hK hP 0 rfl rfl 38 (by decide) (hts _ (kT _ wd_1d293484)) (fun _ h9 => h9) rfl d_M_verify_121 ?_
                refine lv_iload_n hx hb d_M_verify_124 rfl (lv_at hl 0 rfl) ?_
                refine lv_dup2_11 hx hb d_M_verify_125 rfl rfl ?_
                refine n_iald hx hb hK hP 22 21 rfl rfl (i := (dp1 - 1)) (by omega) (by decide) d_M_verify_126 ?_
                refine lv_iconst (v := nI 1) hx hb d_M_verify_127 (by decide) ?_
                refine lv_iadd hx hb d_M_verify_128 ?_
                refine lv_eqi (nI_add _ _) ?_
                refine n_iast hx hb hK hP hD hS 22 21 rfl rfl (i := (dp1 - 1)) (by omega) (by decide) d_M_verify_129 (fun H locs hP hD hS => ?_)
                have hP : va_P D vwCl (Wm am gm sLen sKind sExt sMust rTab rFil mNum rLen rItm made pItm held dByt dLen false fAdr fTab adr tab lf 0 row mWr mWid mOv mPl mTh mSp mPile mNext mSh mShs mRea wg1 en1 dp1 at1 tb1 (va_up st1 (dp1 - 1) ((st1 (dp1 - 1)) + 1))) H := hP
                have hD : va_D A (Wm am gm sLen sKind sExt sMust rTab rFil mNum rLen rItm made pItm held dByt dLen false fAdr fTab adr tab lf 0 row mWr mWid mOv mPl mTh mSp mPile mNext mSh mShs mRea wg1 en1 dp1 at1 tb1 (va_up st1 (dp1 - 1) ((st1 (dp1 - 1)) + 1))) := hD
                refine lv_aload_n hx hb d_M_verify_130 rfl (lv_at hl 1 rfl) ?_
                refine lv_aload_n hx hb d_M_verify_131 rfl (lv_at hl 1 rfl) ?_
                refine va_get (D := D) (ci := 8) (C := R_M) (T := T_M) (N := 39) hx hb hts (fun w h => kT w (i_M w h)) hown hK hP 0 rfl rfl 36 (by decide) (hts _ (kT _ wd_4926ac37)) (fun _ h9 => h9) rfl d_M_verify_132 ?_
                refine lv_iload_n hx hb d_M_verify_135 rfl (lv_at hl 0 rfl) ?_
                refine n_iald hx hb hK hP 20 19 rfl rfl (i := (dp1 - 1)) (by omega) (by decide) d_M_verify_136 ?_
                refine lv_aload_n hx hb d_M_verify_137 rfl (lv_at hl 1 rfl) ?_
                refine va_get (D := D) (ci := 8) (C := R_M) (T := T_M) (N := 39) hx hb hts (fun w h => kT w (i_M w h)) hown hK hP 0 rfl rfl 37 (by decide) (hts _ (kT _ wd_1951fc82)) (fun _ h9 => h9) rfl d_M_verify_138 ?_
                refine lv_iload_n hx hb d_M_verify_141 rfl (lv_at hl 0 rfl) ?_
                refine n_iald hx hb hK hP 21 20 rfl rfl (i := (dp1 - 1)) (by omega) (by decide) d_M_verify_142 ?_
                refine lv_aload_n hx hb d_M_verify_143 rfl (lv_at hl 1 rfl) ?_
                refine va_get (D := D) (ci := 8) (C := R_M) (T := T_M) (N := 39) hx hb hts (fun w h => kT w (i_M w h)) hown hK hP 0 rfl rfl 38 (by decide) (hts _ (kT _ wd_1d293484)) (fun _ h9 => h9) rfl d_M_verify_144 ?_
                refine lv_iload_n hx hb d_M_verify_147 rfl (lv_at hl 0 rfl) ?_
                refine n_iald hx hb hK hP 22 21 rfl rfl (i := (dp1 - 1)) (by omega) (by decide) d_M_verify_148 ?_
                refine lv_eqi (nI_congr (va_up_self st1 (dp1 - 1) (st1 (dp1 - 1) + 1))) ?_
                refine lv_iconst (v := nI 1) hx hb d_M_verify_149 (by decide) ?_
                refine lv_isub hx hb d_M_verify_150 ?_
                refine lv_eqi (pk_sub (by omega)) ?_
                refine lv_eqi (nI_congr (Nat.add_sub_cancel (n := st1 (dp1 - 1)) (m := 1))) ?_
                refine k_callV (m_inspect l D am gm tw sLen sKind sExt sMust rTab rFil mNum rLen rItm made pItm held dByt dLen false fAdr fTab adr tab lf 0 row mWr mWid mOv mPl mTh mSp mPile mNext mSh mShs mRea wg1 en1 dp1 at1 tb1 (va_up st1 (dp1 - 1) ((st1 (dp1 - 1)) + 1)) (at1 (dp1 - 1)) (tb1 (dp1 - 1)) (st1 (dp1 - 1)) rNum rLnk hfr hst1 (by omega) hk hX he6 hd6 hB hd) m_M_inspect wd_03a55fc4 0 8 rfl rfl rfl kT hx hb hml hown hts ⟨Nat.le_of_ble_eq_true rfl, Nat.le_of_ble_eq_true rfl⟩ ⟨Nat.le_of_ble_eq_true rfl, Nat.le_of_ble_eq_true rfl⟩ hK hP hD hS hA hZ hl.1 rfl rfl (Nat.le_of_ble_eq_true rfl) d_M_verify_151 (fun H locs hP hD hS => ?_)
                have hP : va_P D vwCl (Wm am gm sLen sKind sExt sMust rTab rFil mNum rLen rItm made pItm held dByt dLen false fAdr fTab adr tab lf 0 row mWr mWid mOv mPl mTh mSp mPile mNext mSh mShs mRea ((inV (SR.mk sLen sKind sExt sMust rTab rFil rNum rLnk rLen rItm) dByt dLen (MV.mk wg1 en1 dp1 at1 tb1 (va_up st1 (dp1 - 1) ((st1 (dp1 - 1)) + 1))) (at1 (dp1 - 1)) (tb1 (dp1 - 1)) (st1 (dp1 - 1))).wg) ((inV (SR.mk sLen sKind sExt sMust rTab rFil rNum rLnk rLen rItm) dByt dLen (MV.mk wg1 en1 dp1 at1 tb1 (va_up st1 (dp1 - 1) ((st1 (dp1 - 1)) + 1))) (at1 (dp1 - 1)) (tb1 (dp1 - 1)) (st1 (dp1 - 1))).en) ((inV (SR.mk sLen sKind sExt sMust rTab rFil rNum rLnk rLen rItm) dByt dLen (MV.mk wg1 en1 dp1 at1 tb1 (va_up st1 (dp1 - 1) ((st1 (dp1 - 1)) + 1))) (at1 (dp1 - 1)) (tb1 (dp1 - 1)) (st1 (dp1 - 1))).dp) ((inV (SR.mk sLen sKind sExt sMust rTab rFil rNum rLnk rLen rItm) dByt dLen (MV.mk wg1 en1 dp1 at1 tb1 (va_up st1 (dp1 - 1) ((st1 (dp1 - 1)) + 1))) (at1 (dp1 - 1)) (tb1 (dp1 - 1)) (st1 (dp1 - 1))).fa) ((inV (SR.mk sLen sKind sExt sMust rTab rFil rNum rLnk rLen rItm) dByt dLen (MV.mk wg1 en1 dp1 at1 tb1 (va_up st1 (dp1 - 1) ((st1 (dp1 - 1)) + 1))) (at1 (dp1 - 1)) (tb1 (dp1 - 1)) (st1 (dp1 - 1))).ft) ((inV (SR.mk sLen sKind sExt sMust rTab rFil rNum rLnk rLen rItm) dByt dLen (MV.mk wg1 en1 dp1 at1 tb1 (va_up st1 (dp1 - 1) ((st1 (dp1 - 1)) + 1))) (at1 (dp1 - 1)) (tb1 (dp1 - 1)) (st1 (dp1 - 1))).fs)) H := hP
                have hD : va_D A (Wm am gm sLen sKind sExt sMust rTab rFil mNum rLen rItm made pItm held dByt dLen false fAdr fTab adr tab lf 0 row mWr mWid mOv mPl mTh mSp mPile mNext mSh mShs mRea ((inV (SR.mk sLen sKind sExt sMust rTab rFil rNum rLnk rLen rItm) dByt dLen (MV.mk wg1 en1 dp1 at1 tb1 (va_up st1 (dp1 - 1) ((st1 (dp1 - 1)) + 1))) (at1 (dp1 - 1)) (tb1 (dp1 - 1)) (st1 (dp1 - 1))).wg) ((inV (SR.mk sLen sKind sExt sMust rTab rFil rNum rLnk rLen rItm) dByt dLen (MV.mk wg1 en1 dp1 at1 tb1 (va_up st1 (dp1 - 1) ((st1 (dp1 - 1)) + 1))) (at1 (dp1 - 1)) (tb1 (dp1 - 1)) (st1 (dp1 - 1))).en) ((inV (SR.mk sLen sKind sExt sMust rTab rFil rNum rLnk rLen rItm) dByt dLen (MV.mk wg1 en1 dp1 at1 tb1 (va_up st1 (dp1 - 1) ((st1 (dp1 - 1)) + 1))) (at1 (dp1 - 1)) (tb1 (dp1 - 1)) (st1 (dp1 - 1))).dp) ((inV (SR.mk sLen sKind sExt sMust rTab rFil rNum rLnk rLen rItm) dByt dLen (MV.mk wg1 en1 dp1 at1 tb1 (va_up st1 (dp1 - 1) ((st1 (dp1 - 1)) + 1))) (at1 (dp1 - 1)) (tb1 (dp1 - 1)) (st1 (dp1 - 1))).fa) ((inV (SR.mk sLen sKind sExt sMust rTab rFil rNum rLnk rLen rItm) dByt dLen (MV.mk wg1 en1 dp1 at1 tb1 (va_up st1 (dp1 - 1) ((st1 (dp1 - 1)) + 1))) (at1 (dp1 - 1)) (tb1 (dp1 - 1)) (st1 (dp1 - 1))).ft) ((inV (SR.mk sLen sKind sExt sMust rTab rFil rNum rLnk rLen rItm) dByt dLen (MV.mk wg1 en1 dp1 at1 tb1 (va_up st1 (dp1 - 1) ((st1 (dp1 - 1)) + 1))) (at1 (dp1 - 1)) (tb1 (dp1 - 1)) (st1 (dp1 - 1))).fs)) := hD
                refine W.eq (g2 := F0 m 154 ls []) rfl ?_
                refine lv_goto (tgt := 66) hx hb d_M_verify_154 (by decide) ?_
                exact ih_66 ((inV (SR.mk sLen sKind sExt sMust rTab rFil rNum rLnk rLen rItm) dByt dLen (MV.mk wg1 en1 dp1 at1 tb1 (va_up st1 (dp1 - 1) ((st1 (dp1 - 1)) + 1))) (at1 (dp1 - 1)) (tb1 (dp1 - 1)) (st1 (dp1 - 1))).wg) ((inV (SR.mk sLen sKind sExt sMust rTab rFil rNum rLnk rLen rItm) dByt dLen (MV.mk wg1 en1 dp1 at1 tb1 (va_up st1 (dp1 - 1) ((st1 (dp1 - 1)) + 1))) (at1 (dp1 - 1)) (tb1 (dp1 - 1)) (st1 (dp1 - 1))).en) ((inV (SR.mk sLen sKind sExt sMust rTab rFil rNum rLnk rLen rItm) dByt dLen (MV.mk wg1 en1 dp1 at1 tb1 (va_up st1 (dp1 - 1) ((st1 (dp1 - 1)) + 1))) (at1 (dp1 - 1)) (tb1 (dp1 - 1)) (st1 (dp1 - 1))).dp) ((inV (SR.mk sLen sKind sExt sMust rTab rFil rNum rLnk rLen rItm) dByt dLen (MV.mk wg1 en1 dp1 at1 tb1 (va_up st1 (dp1 - 1) ((st1 (dp1 - 1)) + 1))) (at1 (dp1 - 1)) (tb1 (dp1 - 1)) (st1 (dp1 - 1))).fa) ((inV (SR.mk sLen sKind sExt sMust rTab rFil rNum rLnk rLen rItm) dByt dLen (MV.mk wg1 en1 dp1 at1 tb1 (va_up st1 (dp1 - 1) ((st1 (dp1 - 1)) + 1))) (at1 (dp1 - 1)) (tb1 (dp1 - 1)) (st1 (dp1 - 1))).ft) ((inV (SR.mk sLen sKind sExt sMust rTab rFil rNum rLnk rLen rItm) dByt dLen (MV.mk wg1 en1 dp1 at1 tb1 (va_up st1 (dp1 - 1) ((st1 (dp1 - 1)) + 1))) (at1 (dp1 - 1)) (tb1 (dp1 - 1)) (st1 (dp1 - 1))).fs) kj (by rw [MV_eta]; rw [stV_i c_104] at hf2; exact hf2) (by rw [MV_eta]; rw [stV_i c_104] at hvi2; exact hvi2) (by omega) _ _ _ hP hD hS (lv_sub hl [1, 2] rfl)
              · skip
                have c_104 := (nI_eq (by omega) (by omega)).mp c_104
                refine lv_aload_n hx hb d_M_verify_107 rfl (lv_at hl 1 rfl) ?_
                refine lv_dup hx hb d_M_verify_108 rfl ?_
                refine va_get (D := D) (ci := 8) (C := R_M) (T := T_M) (N := 39) hx hb hts (fun w h => kT w (i_M w h)) hown hK hP 0 rfl rfl 35 (by decide) (hts _ (kT _ wd_8f75c4b2)) (fun _ h9 => h9) rfl d_M_verify_109 ?_
                refine lv_iconst (v := nI 1) hx hb d_M_verify_112 (by decide) ?_
                refine lv_isub hx hb d_M_verify_113 ?_
                refine lv_eqi (pk_sub (by omega)) ?_
                refine va_put (D := D) (ci := 8) (ty := .int) (C := R_M) (T := T_M) (N := 39) hx hb hts (fun w h => kT w (i_M w h)) ty_M tyk_M nm_M hown hK hP hD hS 0 rfl rfl 35 (by decide) (hts _ (kT _ wd_8f75c4b2)) (fun _ h9 => h9) rfl (by decide +kernel) rfl rfl (Nat.le_of_ble_eq_true rfl) d_M_verify_114 (fun H locs hP hD hS => ?_)
                have hP : va_P D vwCl (Wm am gm sLen sKind sExt sMust rTab rFil mNum rLen rItm made pItm held dByt dLen false fAdr fTab adr tab lf 0 row mWr mWid mOv mPl mTh mSp mPile mNext mSh mShs mRea wg1 en1 (dp1 - 1) at1 tb1 st1) H := hP
                have hD : va_D A (Wm am gm sLen sKind sExt sMust rTab rFil mNum rLen rItm made pItm held dByt dLen false fAdr fTab adr tab lf 0 row mWr mWid mOv mPl mTh mSp mPile mNext mSh mShs mRea wg1 en1 (dp1 - 1) at1 tb1 st1) := hD
                refine lv_goto (tgt := 66) hx hb d_M_verify_117 (by decide) ?_
                exact ih_66 wg1 en1 (dp1 - 1) at1 tb1 st1 kj (by rw [stV_p c_104] at hf2; exact hf2) (by rw [stV_p c_104] at hvi2; exact hvi2) (by omega) _ _ _ hP hD hS (lv_sub hl [1, 2] rfl)
      exact L_66 ((kv) + 1) ((enV dByt dLen (MV.mk (-1) 0 0 mAt mTb mSt) (min (leN dByt dLen (nI 0) 4) 100000) (cN x) 0).wg) ((enV dByt dLen (MV.mk (-1) 0 0 mAt mTb mSt) (min (leN dByt dLen (nI 0) 4) 100000) (cN x) 0).en) ((enV dByt dLen (MV.mk (-1) 0 0 mAt mTb mSt) (min (leN dByt dLen (nI 0) 4) 100000) (cN x) 0).dp) ((enV dByt dLen (MV.mk (-1) 0 0 mAt mTb mSt) (min (leN dByt dLen (nI 0) 4) 100000) (cN x) 0).fa) ((enV dByt dLen (MV.mk (-1) 0 0 mAt mTb mSt) (min (leN dByt dLen (nI 0) 4) 100000) (cN x) 0).ft) ((enV dByt dLen (MV.mk (-1) 0 0 mAt mTb mSt) (min (leN dByt dLen (nI 0) 4) 100000) (cN x) 0).fs) kv (by first | exact congrArg (itV (SR.mk sLen sKind sExt sMust rTab rFil rNum rLnk rLen rItm) dByt dLen kv) (v0V_y (by omega)).symm | (rw [MV_eta]; exact congrArg (itV (SR.mk sLen sKind sExt sMust rTab rFil rNum rLnk rLen rItm) dByt dLen kv) (v0V_n (by omega)).symm)) (by first | exact VI_0 _ _ _ _ | (rw [MV_eta]; exact VI_en hB hd (VI_0 _ _ _ _) (Nat.lt_of_le_of_lt (Nat.min_le_right _ _) (by decide)) b_x (by decide))) (by omega) _ _ _ hP hD hS (lv_sub hl [0, 1] rfl)
    · skip
      have c_44 := mt (nI_leI (by omega) (by omega)).mpr c_44
      refine lv_aload_n hx hb d_M_verify_47 rfl (lv_at hl 0 rfl) ?_
      refine lv_iconst (v := nI 0) hx hb d_M_verify_48 (by decide) ?_
      refine k_callV (m_fail l D am gm tw sLen sKind sExt sMust rTab rFil mNum rLen rItm made pItm held dByt dLen false fAdr fTab adr tab lf 0 row mWr mWid mOv mPl mTh mSp mPile mNext mSh mShs mRea (-1) 0 0 mAt mTb mSt (nI 0)  ) m_M_fail wd_38303c4f 0 8 rfl rfl rfl kT hx hb hml hown hts ⟨Nat.le_of_ble_eq_true rfl, Nat.le_of_ble_eq_true rfl⟩ ⟨Nat.le_of_ble_eq_true rfl, Nat.le_of_ble_eq_true rfl⟩ hK hP hD hS hA hZ hl.1 rfl rfl (Nat.le_of_ble_eq_true rfl) d_M_verify_49 (fun H locs hP hD hS => ?_)
      have hP : va_P D vwCl (Wm am gm sLen sKind sExt sMust rTab rFil mNum rLen rItm made pItm held dByt dLen false fAdr fTab adr tab lf 0 row mWr mWid mOv mPl mTh mSp mPile mNext mSh mShs mRea (if (-1) < 0 then (nI 0) else (-1)) 0 0 mAt mTb mSt) H := hP
      have hD : va_D A (Wm am gm sLen sKind sExt sMust rTab rFil mNum rLen rItm made pItm held dByt dLen false fAdr fTab adr tab lf 0 row mWr mWid mOv mPl mTh mSp mPile mNext mSh mShs mRea (if (-1) < 0 then (nI 0) else (-1)) 0 0 mAt mTb mSt) := hD
      refine W.eq (g2 := F0 m 52 ls []) rfl ?_
      refine lv_goto (tgt := 66) hx hb d_M_verify_52 (by decide) ?_
      have L_66 : ∀ (n : Nat) (wg1 : Int32) (en1 : Nat) (dp1 : Nat) (at1 : Nat → Nat) (tb1 : Nat → Nat) (st1 : Nat → Nat) (kk : Nat), (itV (SR.mk sLen sKind sExt sMust rTab rFil rNum rLnk rLen rItm) dByt dLen kk (MV.mk wg1 en1 dp1 at1 tb1 st1) = itV (SR.mk sLen sKind sExt sMust rTab rFil rNum rLnk rLen rItm) dByt dLen kv (v0V dByt dLen (cN x) mAt mTb mSt)) → (VI (SR.mk sLen sKind sExt sMust rTab rFil rNum rLnk rLen rItm) dByt dLen (MV.mk wg1 en1 dp1 at1 tb1 st1)) → kk < n → ∀ (H : Heap) (locs : List Loc) (ls : Array Slot), va_P D vwCl (Wm am gm sLen sKind sExt sMust rTab rFil mNum rLen rItm made pItm held dByt dLen false fAdr fTab adr tab lf 0 row mWr mWid mOv mPl mTh mSp mPile mNext mSh mShs mRea wg1 en1 dp1 at1 tb1 st1) H → va_D A (Wm am gm sLen sKind sExt sMust rTab rFil mNum rLen rItm made pItm held dByt dLen false fAdr fTab adr tab lf 0 row mWr mWid mOv mPl mTh mSp mPile mNext mSh mShs mRea wg1 en1 dp1 at1 tb1 st1) → va_S A s.heap H locs → lv_has ls 3 [(0, .ref (am 0)), (1, .int (nI (cN x)))] → W p l e ({ frames := 6, cells := 0, slots := 0, locals := 136 }) s m ([.ref (am 0), .int x] : List Value).toArray below meth c H locs 0 0 (MQ below (kQ D vwCl (WmT gm) A True (some (.int (nI (if cdVer (SR.mk sLen sKind sExt sMust rTab rFil rNum rLnk rLen rItm) dByt dLen x = 0 then (vIn (SR.mk sLen sKind sExt sMust rTab rFil rNum rLnk rLen rItm) dByt dLen (cN x)).2 else 0)))) (Wm am gm sLen sKind sExt sMust rTab rFil mNum rLen rItm made pItm held dByt dLen (if cdVer (SR.mk sLen sKind sExt sMust rTab rFil rNum rLnk rLen rItm) dByt dLen x = 0 then true else if okT x = true then false else ver) (if cdVer (SR.mk sLen sKind sExt sMust rTab rFil rNum rLnk rLen rItm) dByt dLen x = 0 then min (leN dByt dLen (nI 0) 4) 100000 else fAdr) (if cdVer (SR.mk sLen sKind sExt sMust rTab rFil rNum rLnk rLen rItm) dByt dLen x = 0 then cN x else fTab) (if cdVer (SR.mk sLen sKind sExt sMust rTab rFil rNum rLnk rLen rItm) dByt dLen x = 0 then min (leN dByt dLen (nI 0) 4) 100000 else adr) (if cdVer (SR.mk sLen sKind sExt sMust rTab rFil rNum rLnk rLen rItm) dByt dLen x = 0 then cN x else tab) (if okT x = true then (vIn (SR.mk sLen sKind sExt sMust rTab rFil rNum rLnk rLen rItm) dByt dLen (cN x)).1 else lf) (cdVer (SR.mk sLen sKind sExt sMust rTab rFil rNum rLnk rLen rItm) dByt dLen x) row mWr mWid mOv mPl mTh mSp mPile mNext mSh mShs mRea ((if okT x = true then itV (SR.mk sLen sKind sExt sMust rTab rFil rNum rLnk rLen rItm) dByt dLen kv (v0V dByt dLen (cN x) mAt mTb mSt) else MV.mk mWg mEn mDp mAt mTb mSt).wg) ((if okT x = true then itV (SR.mk sLen sKind sExt sMust rTab rFil rNum rLnk rLen rItm) dByt dLen kv (v0V dByt dLen (cN x) mAt mTb mSt) else MV.mk mWg mEn mDp mAt mTb mSt).en) ((if okT x = true then itV (SR.mk sLen sKind sExt sMust rTab rFil rNum rLnk rLen rItm) dByt dLen kv (v0V dByt dLen (cN x) mAt mTb mSt) else MV.mk mWg mEn mDp mAt mTb mSt).dp) ((if okT x = true then itV (SR.mk sLen sKind sExt sMust rTab rFil rNum rLnk rLen rItm) dByt dLen kv (v0V dByt dLen (cN x) mAt mTb mSt) else MV.mk mWg mEn mDp mAt mTb mSt).fa) ((if okT x = true then itV (SR.mk sLen sKind sExt sMust rTab rFil rNum rLnk rLen rItm) dByt dLen kv (v0V dByt dLen (cN x) mAt mTb mSt) else MV.mk mWg mEn mDp mAt mTb mSt).ft) ((if okT x = true then itV (SR.mk sLen sKind sExt sMust rTab rFil rNum rLnk rLen rItm) dByt dLen kv (v0V dByt dLen (cN x) mAt mTb mSt) else MV.mk mWg mEn mDp mAt mTb mSt).fs))) ([.ref (am 0), .int x] : List Value).toArray s 0 0 A) (F0 m 66 ls []) := by
        intro n
        induction n with
        | zero => intro wg1 en1 dp1 at1 tb1 st1 kk hf hvi hm; exact absurd hm (Nat.not_lt_zero _)
        | succ n ih_66 =>
          intro wg1 en1 dp1 at1 tb1 st1 kk hf hvi hm_66 H locs ls hP hD hS hl
          have hd6 : dp1 ≤ 6 := hvi.1
          have he6 : en1 ≤ 16 := hvi.2.1
          refine lv_aload_n hx hb d_M_verify_66 rfl (lv_at hl 0 rfl) ?_
          refine va_get (D := D) (ci := 8) (C := R_M) (T := T_M) (N := 39) hx hb hts (fun w h => kT w (i_M w h)) hown hK hP 0 rfl rfl 35 (by decide) (hts _ (kT _ wd_8f75c4b2)) (fun _ h9 => h9) rfl d_M_verify_67 ?_
          refine lv_if_le (tgt := 157) hx hb d_M_verify_70 (by decide) (fun c_70 => ?_) (fun c_70 => ?_)
          · skip
            have c_70 := (z_le (by omega)).mp c_70
            have hdo : dnV (MV.mk wg1 en1 dp1 at1 tb1 st1) := Or.inl (show dp1 = 0 by omega)
            have hf3 : MV.mk wg1 en1 dp1 at1 tb1 st1 = itV (SR.mk sLen sKind sExt sMust rTab rFil rNum rLnk rLen rItm) dByt dLen kv (v0V dByt dLen (cN x) mAt mTb mSt) := (itV_dn hdo kk).symm.trans hf
            have hwg : wg1 = (vIn (SR.mk sLen sKind sExt sMust rTab rFil rNum rLnk rLen rItm) dByt dLen (cN x)).1 := (congrArg (fun z => z.1) hf3).trans hw
            have hee : en1 = (vIn (SR.mk sLen sKind sExt sMust rTab rFil rNum rLnk rLen rItm) dByt dLen (cN x)).2 := (congrArg (fun z => z.2.1) hf3).trans he
            have hok : okT x = true := t_y c_10
            have hfi : (if okT x = true then itV (SR.mk sLen sKind sExt sMust rTab rFil rNum rLnk rLen rItm) dByt dLen kv (v0V dByt dLen (cN x) mAt mTb mSt) else MV.mk mWg mEn mDp mAt mTb mSt) = MV.mk wg1 en1 dp1 at1 tb1 st1 := by rw [if_pos hok]; exact hf3.symm
            refine lv_aload_n hx hb d_M_verify_157 rfl (lv_at hl 0 rfl) ?_
            refine lv_aload_n hx hb d_M_verify_158 rfl (lv_at hl 0 rfl) ?_
            refine va_get (D := D) (ci := 8) (C := R_M) (T := T_M) (N := 39) hx hb hts (fun w h => kT w (i_M w h)) hown hK hP 0 rfl rfl 33 (by decide) (hts _ (kT _ wd_de5033cc)) (fun _ h9 => h9) rfl d_M_verify_159 ?_
            refine va_put (D := D) (ci := 8) (ty := .int) (C := R_M) (T := T_M) (N := 39) hx hb hts (fun w h => kT w (i_M w h)) ty_M tyk_M nm_M hown hK hP hD hS 0 rfl rfl 32 (by decide) (hts _ (kT _ wd_85573464)) (fun _ h9 => h9) rfl (by decide +kernel) rfl rfl (Nat.le_of_ble_eq_true rfl) d_M_verify_162 (fun H locs hP hD hS => ?_)
            have hP : va_P D vwCl (Wm am gm sLen sKind sExt sMust rTab rFil mNum rLen rItm made pItm held dByt dLen false fAdr fTab adr tab wg1 0 row mWr mWid mOv mPl mTh mSp mPile mNext mSh mShs mRea wg1 en1 dp1 at1 tb1 st1) H := hP
            have hD : va_D A (Wm am gm sLen sKind sExt sMust rTab rFil mNum rLen rItm made pItm held dByt dLen false fAdr fTab adr tab wg1 0 row mWr mWid mOv mPl mTh mSp mPile mNext mSh mShs mRea wg1 en1 dp1 at1 tb1 st1) := hD
            refine lv_aload_n hx hb d_M_verify_165 rfl (lv_at hl 0 rfl) ?_
            refine va_get (D := D) (ci := 8) (C := R_M) (T := T_M) (N := 39) hx hb hts (fun w h => kT w (i_M w h)) hown hK hP 0 rfl rfl 33 (by decide) (hts _ (kT _ wd_de5033cc)) (fun _ h9 => h9) rfl d_M_verify_166 ?_
            refine lv_if_lt (tgt := 178) hx hb d_M_verify_169 (by decide) (fun c_169 => ?_) (fun c_169 => ?_)
            · skip
              have hm1 : (vIn (SR.mk sLen sKind sExt sMust rTab rFil rNum rLnk rLen rItm) dByt dLen (cN x)).1 = -1 := vIn_neg hB hd hL (by rw [← hwg]; exact c_169)
              have h4 := vIn_4 hm1
              have hcd : cdVer (SR.mk sLen sKind sExt sMust rTab rFil rNum rLnk rLen rItm) dByt dLen x = 0 := by rw [cdVer, if_pos hok, if_pos hm1]
              refine lv_aload_n hx hb d_M_verify_178 rfl (lv_at hl 0 rfl) ?_
              refine lv_iconst (v := nI 1) hx hb d_M_verify_179 (by decide) ?_
              refine lv_eqi (show nI 1 = bI true by decide) ?_
              refine va_put (D := D) (ci := 8) (ty := .boolean) (C := R_M) (T := T_M) (N := 39) hx hb hts (fun w h => kT w (i_M w h)) ty_M tyk_M nm_M hown hK hP hD hS 0 rfl rfl 27 (by decide) (hts _ (kT _ wd_a47358da)) (fun _ h9 => h9) rfl (by decide +kernel) (bI_nar _) (bI_fits _) (Nat.le_of_ble_eq_true rfl) d_M_verify_180 (fun H locs hP hD hS => ?_)
              have hP : va_P D vwCl (Wm am gm sLen sKind sExt sMust rTab rFil mNum rLen rItm made pItm held dByt dLen true fAdr fTab adr tab wg1 0 row mWr mWid mOv mPl mTh mSp mPile mNext mSh mShs mRea wg1 en1 dp1 at1 tb1 st1) H := hP
              have hD : va_D A (Wm am gm sLen sKind sExt sMust rTab rFil mNum rLen rItm made pItm held dByt dLen true fAdr fTab adr tab wg1 0 row mWr mWid mOv mPl mTh mSp mPile mNext mSh mShs mRea wg1 en1 dp1 at1 tb1 st1) := hD
              refine lv_aload_n hx hb d_M_verify_183 rfl (lv_at hl 0 rfl) ?_
              refine lv_aload_n hx hb d_M_verify_184 rfl (lv_at hl 0 rfl) ?_
              refine lv_iconst (v := nI 0) hx hb d_M_verify_185 (by decide) ?_
              refine k_callV (m_offset4 l D am gm tw sLen sKind sExt sMust rTab rFil mNum rLen rItm made pItm held dByt dLen true fAdr fTab adr tab wg1 0 row mWr mWid mOv mPl mTh mSp mPile mNext mSh mShs mRea wg1 en1 dp1 at1 tb1 st1 0  (by omega) hB hd) m_M_offset4 wd_fe38dba4 0 8 rfl rfl rfl kT hx hb hml hown hts ⟨Nat.le_of_ble_eq_true rfl, Nat.le_of_ble_eq_true rfl⟩ ⟨Nat.le_of_ble_eq_true rfl, Nat.le_of_ble_eq_true rfl⟩ hK hP hD hS hA hZ hl.1 rfl rfl (Nat.le_of_ble_eq_true rfl) d_M_verify_186 (fun H locs hP hD hS => ?_)
              have hP : va_P D vwCl (Wm am gm sLen sKind sExt sMust rTab rFil mNum rLen rItm made pItm held dByt dLen true fAdr fTab adr tab wg1 0 row mWr mWid mOv mPl mTh mSp mPile mNext mSh mShs mRea wg1 en1 dp1 at1 tb1 st1) H := hP
              have hD : va_D A (Wm am gm sLen sKind sExt sMust rTab rFil mNum rLen rItm made pItm held dByt dLen true fAdr fTab adr tab wg1 0 row mWr mWid mOv mPl mTh mSp mPile mNext mSh mShs mRea wg1 en1 dp1 at1 tb1 st1) := hD
              refine W.eq (g2 := F0 m 189 ls [.int (nI (min (leN dByt dLen (nI 0) 4) 100000)), .ref (am 0)]) rfl ?_
              refine va_put (D := D) (ci := 8) (ty := .int) (C := R_M) (T := T_M) (N := 39) hx hb hts (fun w h => kT w (i_M w h)) ty_M tyk_M nm_M hown hK hP hD hS 0 rfl rfl 28 (by decide) (hts _ (kT _ wd_dbe346e2)) (fun _ h9 => h9) rfl (by decide +kernel) rfl rfl (Nat.le_of_ble_eq_true rfl) d_M_verify_189 (fun H locs hP hD hS => ?_)
              have hP : va_P D vwCl (Wm am gm sLen sKind sExt sMust rTab rFil mNum rLen rItm made pItm held dByt dLen true (min (leN dByt dLen (nI 0) 4) 100000) fTab adr tab wg1 0 row mWr mWid mOv mPl mTh mSp mPile mNext mSh mShs mRea wg1 en1 dp1 at1 tb1 st1) H := hP
              have hD : va_D A (Wm am gm sLen sKind sExt sMust rTab rFil mNum rLen rItm made pItm held dByt dLen true (min (leN dByt dLen (nI 0) 4) 100000) fTab adr tab wg1 0 row mWr mWid mOv mPl mTh mSp mPile mNext mSh mShs mRea wg1 en1 dp1 at1 tb1 st1) := hD
              refine lv_aload_n hx hb d_M_verify_192 rfl (lv_at hl 0 rfl) ?_
              refine lv_iload_n hx hb d_M_verify_193 rfl (lv_at hl 1 rfl) ?_
              refine va_put (D := D) (ci := 8) (ty := .int) (C := R_M) (T := T_M) (N := 39) hx hb hts (fun w h => kT w (i_M w h)) ty_M tyk_M nm_M hown hK hP hD hS 0 rfl rfl 29 (by decide) (hts _ (kT _ wd_258176f0)) (fun _ h9 => h9) rfl (by decide +kernel) rfl rfl (Nat.le_of_ble_eq_true rfl) d_M_verify_194 (fun H locs hP hD hS => ?_)
              have hP : va_P D vwCl (Wm am gm sLen sKind sExt sMust rTab rFil mNum rLen rItm made pItm held dByt dLen true (min (leN dByt dLen (nI 0) 4) 100000) (cN x) adr tab wg1 0 row mWr mWid mOv mPl mTh mSp mPile mNext mSh mShs mRea wg1 en1 dp1 at1 tb1 st1) H := hP
              have hD : va_D A (Wm am gm sLen sKind sExt sMust rTab rFil mNum rLen rItm made pItm held dByt dLen true (min (leN dByt dLen (nI 0) 4) 100000) (cN x) adr tab wg1 0 row mWr mWid mOv mPl mTh mSp mPile mNext mSh mShs mRea wg1 en1 dp1 at1 tb1 st1) := hD
              refine lv_aload_n hx hb d_M_verify_197 rfl (lv_at hl 0 rfl) ?_
              refine lv_aload_n hx hb d_M_verify_198 rfl (lv_at hl 0 rfl) ?_
              refine va_get (D := D) (ci := 8) (C := R_M) (T := T_M) (N := 39) hx hb hts (fun w h => kT w (i_M w h)) hown hK hP 0 rfl rfl 28 (by decide) (hts _ (kT _ wd_dbe346e2)) (fun _ h9 => h9) rfl d_M_verify_199 ?_
              refine va_put (D := D) (ci := 8) (ty := .int) (C := R_M) (T := T_M) (N := 39) hx hb hts (fun w h => kT w (i_M w h)) ty_M tyk_M nm_M hown hK hP hD hS 0 rfl rfl 30 (by decide) (hts _ (kT _ wd_cd6c8e1d)) (fun _ h9 => h9) rfl (by decide +kernel) rfl rfl (Nat.le_of_ble_eq_true rfl) d_M_verify_202 (fun H locs hP hD hS => ?_)
              have hP : va_P D vwCl (Wm am gm sLen sKind sExt sMust rTab rFil mNum rLen rItm made pItm held dByt dLen true (min (leN dByt dLen (nI 0) 4) 100000) (cN x) (min (leN dByt dLen (nI 0) 4) 100000) tab wg1 0 row mWr mWid mOv mPl mTh mSp mPile mNext mSh mShs mRea wg1 en1 dp1 at1 tb1 st1) H := hP
              have hD : va_D A (Wm am gm sLen sKind sExt sMust rTab rFil mNum rLen rItm made pItm held dByt dLen true (min (leN dByt dLen (nI 0) 4) 100000) (cN x) (min (leN dByt dLen (nI 0) 4) 100000) tab wg1 0 row mWr mWid mOv mPl mTh mSp mPile mNext mSh mShs mRea wg1 en1 dp1 at1 tb1 st1) := hD
              refine lv_aload_n hx hb d_M_verify_205 rfl (lv_at hl 0 rfl) ?_
              refine lv_iload_n hx hb d_M_verify_206 rfl (lv_at hl 1 rfl) ?_
              refine va_put (D := D) (ci := 8) (ty := .int) (C := R_M) (T := T_M) (N := 39) hx hb hts (fun w h => kT w (i_M w h)) ty_M tyk_M nm_M hown hK hP hD hS 0 rfl rfl 31 (by decide) (hts _ (kT _ wd_e5a19dfd)) (fun _ h9 => h9) rfl (by decide +kernel) rfl rfl (Nat.le_of_ble_eq_true rfl) d_M_verify_207 (fun H locs hP hD hS => ?_)
              have hP : va_P D vwCl (Wm am gm sLen sKind sExt sMust rTab rFil mNum rLen rItm made pItm held dByt dLen true (min (leN dByt dLen (nI 0) 4) 100000) (cN x) (min (leN dByt dLen (nI 0) 4) 100000) (cN x) wg1 0 row mWr mWid mOv mPl mTh mSp mPile mNext mSh mShs mRea wg1 en1 dp1 at1 tb1 st1) H := hP
              have hD : va_D A (Wm am gm sLen sKind sExt sMust rTab rFil mNum rLen rItm made pItm held dByt dLen true (min (leN dByt dLen (nI 0) 4) 100000) (cN x) (min (leN dByt dLen (nI 0) 4) 100000) (cN x) wg1 0 row mWr mWid mOv mPl mTh mSp mPile mNext mSh mShs mRea wg1 en1 dp1 at1 tb1 st1) := hD
              refine lv_aload_n hx hb d_M_verify_210 rfl (lv_at hl 0 rfl) ?_
              refine va_get (D := D) (ci := 8) (C := R_M) (T := T_M) (N := 39) hx hb hts (fun w h => kT w (i_M w h)) hown hK hP 0 rfl rfl 34 (by decide) (hts _ (kT _ wd_1759d07d)) (fun _ h9 => h9) rfl d_M_verify_211 ?_
              exact k_iret hx hb hr hlocks hK hP hD hS (trivial) (by rw [if_pos hcd, hee]) (by rw [hfi, if_pos hcd, if_pos hcd, if_pos hcd, if_pos hcd, if_pos hcd, if_pos hok, ← hwg, hcd]) d_M_verify_214
            · skip
              refine lv_aload_n hx hb d_M_verify_172 rfl (lv_at hl 0 rfl) ?_
              refine lv_iconst (v := nI 1) hx hb d_M_verify_173 (by decide) ?_
              refine k_callV (m_raise l D am gm tw sLen sKind sExt sMust rTab rFil mNum rLen rItm made pItm held dByt dLen false fAdr fTab adr tab wg1 0 row mWr mWid mOv mPl mTh mSp mPile mNext mSh mShs mRea wg1 en1 dp1 at1 tb1 st1 1  ) m_M_raise wd_4b1468e4 0 8 rfl rfl rfl kT hx hb hml hown hts ⟨Nat.le_of_ble_eq_true rfl, Nat.le_of_ble_eq_true rfl⟩ ⟨Nat.le_of_ble_eq_true rfl, Nat.le_of_ble_eq_true rfl⟩ hK hP hD hS hA hZ hl.1 rfl rfl (Nat.le_of_ble_eq_true rfl) d_M_verify_174 (fun H locs hP hD hS => ?_)
              have hP : va_P D vwCl (Wm am gm sLen sKind sExt sMust rTab rFil mNum rLen rItm made pItm held dByt dLen false fAdr fTab adr tab wg1 1 row mWr mWid mOv mPl mTh mSp mPile mNext mSh mShs mRea wg1 en1 dp1 at1 tb1 st1) H := hP
              have hD : va_D A (Wm am gm sLen sKind sExt sMust rTab rFil mNum rLen rItm made pItm held dByt dLen false fAdr fTab adr tab wg1 1 row mWr mWid mOv mPl mTh mSp mPile mNext mSh mShs mRea wg1 en1 dp1 at1 tb1 st1) := hD
              refine W.eq (g2 := F0 m 177 ls [.int (nI 0)]) rfl ?_
              have hcd : cdVer (SR.mk sLen sKind sExt sMust rTab rFil rNum rLnk rLen rItm) dByt dLen x = 1 := by rw [cdVer, if_pos hok, if_neg (fun z => c_169 (by rw [show wg1 = -1 from hwg.trans z]; decide))]
              have hc1 : ¬ cdVer (SR.mk sLen sKind sExt sMust rTab rFil rNum rLnk rLen rItm) dByt dLen x = 0 := by rw [hcd]; decide
              exact k_iret hx hb hr hlocks hK hP hD hS (trivial) (by rw [if_neg hc1]) (by rw [hfi, if_neg hc1, if_neg hc1, if_neg hc1, if_neg hc1, if_neg hc1, if_pos hok, if_pos hok, ← hwg, hcd]) d_M_verify_177
          · skip
            have c_70 := mt (z_le (by omega)).mpr c_70
            refine lv_aload_n hx hb d_M_verify_73 rfl (lv_at hl 0 rfl) ?_
            refine va_get (D := D) (ci := 8) (C := R_M) (T := T_M) (N := 39) hx hb hts (fun w h => kT w (i_M w h)) hown hK hP 0 rfl rfl 33 (by decide) (hts _ (kT _ wd_de5033cc)) (fun _ h9 => h9) rfl d_M_verify_74 ?_
            refine lv_if_ge (tgt := 157) hx hb d_M_verify_77 (by decide) (fun c_77 => ?_) (fun c_77 => ?_)
            · skip
              have hdo : dnV (MV.mk wg1 en1 dp1 at1 tb1 st1) := Or.inr (i_nlt c_77)
              have hf3 : MV.mk wg1 en1 dp1 at1 tb1 st1 = itV (SR.mk sLen sKind sExt sMust rTab rFil rNum rLnk rLen rItm) dByt dLen kv (v0V dByt dLen (cN x) mAt mTb mSt) := (itV_dn hdo kk).symm.trans hf
              have hwg : wg1 = (vIn (SR.mk sLen sKind sExt sMust rTab rFil rNum rLnk rLen rItm) dByt dLen (cN x)).1 := (congrArg (fun z => z.1) hf3).trans hw
              have hee : en1 = (vIn (SR.mk sLen sKind sExt sMust rTab rFil rNum rLnk rLen rItm) dByt dLen (cN x)).2 := (congrArg (fun z => z.2.1) hf3).trans he
              have hok : okT x = true := t_y c_10
              have hfi : (if okT x = true then itV (SR.mk sLen sKind sExt sMust rTab rFil rNum rLnk rLen rItm) dByt dLen kv (v0V dByt dLen (cN x) mAt mTb mSt) else MV.mk mWg mEn mDp mAt mTb mSt) = MV.mk wg1 en1 dp1 at1 tb1 st1 := by rw [if_pos hok]; exact hf3.symm
              refine lv_aload_n hx hb d_M_verify_157 rfl (lv_at hl 0 rfl) ?_
              refine lv_aload_n hx hb d_M_verify_158 rfl (lv_at hl 0 rfl) ?_
              refine va_get (D := D) (ci := 8) (C := R_M) (T := T_M) (N := 39) hx hb hts (fun w h => kT w (i_M w h)) hown hK hP 0 rfl rfl 33 (by decide) (hts _ (kT _ wd_de5033cc)) (fun _ h9 => h9) rfl d_M_verify_159 ?_
              refine va_put (D := D) (ci := 8) (ty := .int) (C := R_M) (T := T_M) (N := 39) hx hb hts (fun w h => kT w (i_M w h)) ty_M tyk_M nm_M hown hK hP hD hS 0 rfl rfl 32 (by decide) (hts _ (kT _ wd_85573464)) (fun _ h9 => h9) rfl (by decide +kernel) rfl rfl (Nat.le_of_ble_eq_true rfl) d_M_verify_162 (fun H locs hP hD hS => ?_)
              have hP : va_P D vwCl (Wm am gm sLen sKind sExt sMust rTab rFil mNum rLen rItm made pItm held dByt dLen false fAdr fTab adr tab wg1 0 row mWr mWid mOv mPl mTh mSp mPile mNext mSh mShs mRea wg1 en1 dp1 at1 tb1 st1) H := hP
              have hD : va_D A (Wm am gm sLen sKind sExt sMust rTab rFil mNum rLen rItm made pItm held dByt dLen false fAdr fTab adr tab wg1 0 row mWr mWid mOv mPl mTh mSp mPile mNext mSh mShs mRea wg1 en1 dp1 at1 tb1 st1) := hD
              refine lv_aload_n hx hb d_M_verify_165 rfl (lv_at hl 0 rfl) ?_
              refine va_get (D := D) (ci := 8) (C := R_M) (T := T_M) (N := 39) hx hb hts (fun w h => kT w (i_M w h)) hown hK hP 0 rfl rfl 33 (by decide) (hts _ (kT _ wd_de5033cc)) (fun _ h9 => h9) rfl d_M_verify_166 ?_
              refine lv_if_lt (tgt := 178) hx hb d_M_verify_169 (by decide) (fun c_169 => ?_) (fun c_169 => ?_)
              · skip
                have hm1 : (vIn (SR.mk sLen sKind sExt sMust rTab rFil rNum rLnk rLen rItm) dByt dLen (cN x)).1 = -1 := vIn_neg hB hd hL (by rw [← hwg]; exact c_169)
                have h4 := vIn_4 hm1
                have hcd : cdVer (SR.mk sLen sKind sExt sMust rTab rFil rNum rLnk rLen rItm) dByt dLen x = 0 := by rw [cdVer, if_pos hok, if_pos hm1]
                refine lv_aload_n hx hb d_M_verify_178 rfl (lv_at hl 0 rfl) ?_
                refine lv_iconst (v := nI 1) hx hb d_M_verify_179 (by decide) ?_
                refine lv_eqi (show nI 1 = bI true by decide) ?_
                refine va_put (D := D) (ci := 8) (ty := .boolean) (C := R_M) (T := T_M) (N := 39) hx hb hts (fun w h => kT w (i_M w h)) ty_M tyk_M nm_M hown hK hP hD hS 0 rfl rfl 27 (by decide) (hts _ (kT _ wd_a47358da)) (fun _ h9 => h9) rfl (by decide +kernel) (bI_nar _) (bI_fits _) (Nat.le_of_ble_eq_true rfl) d_M_verify_180 (fun H locs hP hD hS => ?_)
                have hP : va_P D vwCl (Wm am gm sLen sKind sExt sMust rTab rFil mNum rLen rItm made pItm held dByt dLen true fAdr fTab adr tab wg1 0 row mWr mWid mOv mPl mTh mSp mPile mNext mSh mShs mRea wg1 en1 dp1 at1 tb1 st1) H := hP
                have hD : va_D A (Wm am gm sLen sKind sExt sMust rTab rFil mNum rLen rItm made pItm held dByt dLen true fAdr fTab adr tab wg1 0 row mWr mWid mOv mPl mTh mSp mPile mNext mSh mShs mRea wg1 en1 dp1 at1 tb1 st1) := hD
                refine lv_aload_n hx hb d_M_verify_183 rfl (lv_at hl 0 rfl) ?_
                refine lv_aload_n hx hb d_M_verify_184 rfl (lv_at hl 0 rfl) ?_
                refine lv_iconst (v := nI 0) hx hb d_M_verify_185 (by decide) ?_
                refine k_callV (m_offset4 l D am gm tw sLen sKind sExt sMust rTab rFil mNum rLen rItm made pItm held dByt dLen true fAdr fTab adr tab wg1 0 row mWr mWid mOv mPl mTh mSp mPile mNext mSh mShs mRea wg1 en1 dp1 at1 tb1 st1 0  (by omega) hB hd) m_M_offset4 wd_fe38dba4 0 8 rfl rfl rfl kT hx hb hml hown hts ⟨Nat.le_of_ble_eq_true rfl, Nat.le_of_ble_eq_true rfl⟩ ⟨Nat.le_of_ble_eq_true rfl, Nat.le_of_ble_eq_true rfl⟩ hK hP hD hS hA hZ hl.1 rfl rfl (Nat.le_of_ble_eq_true rfl) d_M_verify_186 (fun H locs hP hD hS => ?_)
                have hP : va_P D vwCl (Wm am gm sLen sKind sExt sMust rTab rFil mNum rLen rItm made pItm held dByt dLen true fAdr fTab adr tab wg1 0 row mWr mWid mOv mPl mTh mSp mPile mNext mSh mShs mRea wg1 en1 dp1 at1 tb1 st1) H := hP
                have hD : va_D A (Wm am gm sLen sKind sExt sMust rTab rFil mNum rLen rItm made pItm held dByt dLen true fAdr fTab adr tab wg1 0 row mWr mWid mOv mPl mTh mSp mPile mNext mSh mShs mRea wg1 en1 dp1 at1 tb1 st1) := hD
                refine W.eq (g2 := F0 m 189 ls [.int (nI (min (leN dByt dLen (nI 0) 4) 100000)), .ref (am 0)]) rfl ?_
                refine va_put (D := D) (ci := 8) (ty := .int) (C := R_M) (T := T_M) (N := 39) hx hb hts (fun w h => kT w (i_M w h)) ty_M tyk_M nm_M hown hK hP hD hS 0 rfl rfl 28 (by decide) (hts _ (kT _ wd_dbe346e2)) (fun _ h9 => h9) rfl (by decide +kernel) rfl rfl (Nat.le_of_ble_eq_true rfl) d_M_verify_189 (fun H locs hP hD hS => ?_)
                have hP : va_P D vwCl (Wm am gm sLen sKind sExt sMust rTab rFil mNum rLen rItm made pItm held dByt dLen true (min (leN dByt dLen (nI 0) 4) 100000) fTab adr tab wg1 0 row mWr mWid mOv mPl mTh mSp mPile mNext mSh mShs mRea wg1 en1 dp1 at1 tb1 st1) H := hP
                have hD : va_D A (Wm am gm sLen sKind sExt sMust rTab rFil mNum rLen rItm made pItm held dByt dLen true (min (leN dByt dLen (nI 0) 4) 100000) fTab adr tab wg1 0 row mWr mWid mOv mPl mTh mSp mPile mNext mSh mShs mRea wg1 en1 dp1 at1 tb1 st1) := hD
                refine lv_aload_n hx hb d_M_verify_192 rfl (lv_at hl 0 rfl) ?_
                refine lv_iload_n hx hb d_M_verify_193 rfl (lv_at hl 1 rfl) ?_
                refine va_put (D := D) (ci := 8) (ty := .int) (C := R_M) (T := T_M) (N := 39) hx hb hts (fun w h => kT w (i_M w h)) ty_M tyk_M nm_M hown hK hP hD hS 0 rfl rfl 29 (by decide) (hts _ (kT _ wd_258176f0)) (fun _ h9 => h9) rfl (by decide +kernel) rfl rfl (Nat.le_of_ble_eq_true rfl) d_M_verify_194 (fun H locs hP hD hS => ?_)
                have hP : va_P D vwCl (Wm am gm sLen sKind sExt sMust rTab rFil mNum rLen rItm made pItm held dByt dLen true (min (leN dByt dLen (nI 0) 4) 100000) (cN x) adr tab wg1 0 row mWr mWid mOv mPl mTh mSp mPile mNext mSh mShs mRea wg1 en1 dp1 at1 tb1 st1) H := hP
                have hD : va_D A (Wm am gm sLen sKind sExt sMust rTab rFil mNum rLen rItm made pItm held dByt dLen true (min (leN dByt dLen (nI 0) 4) 100000) (cN x) adr tab wg1 0 row mWr mWid mOv mPl mTh mSp mPile mNext mSh mShs mRea wg1 en1 dp1 at1 tb1 st1) := hD
                refine lv_aload_n hx hb d_M_verify_197 rfl (lv_at hl 0 rfl) ?_
                refine lv_aload_n hx hb d_M_verify_198 rfl (lv_at hl 0 rfl) ?_
                refine va_get (D := D) (ci := 8) (C := R_M) (T := T_M) (N := 39) hx hb hts (fun w h => kT w (i_M w h)) hown hK hP 0 rfl rfl 28 (by decide) (hts _ (kT _ wd_dbe346e2)) (fun _ h9 => h9) rfl d_M_verify_199 ?_
                refine va_put (D := D) (ci := 8) (ty := .int) (C := R_M) (T := T_M) (N := 39) hx hb hts (fun w h => kT w (i_M w h)) ty_M tyk_M nm_M hown hK hP hD hS 0 rfl rfl 30 (by decide) (hts _ (kT _ wd_cd6c8e1d)) (fun _ h9 => h9) rfl (by decide +kernel) rfl rfl (Nat.le_of_ble_eq_true rfl) d_M_verify_202 (fun H locs hP hD hS => ?_)
                have hP : va_P D vwCl (Wm am gm sLen sKind sExt sMust rTab rFil mNum rLen rItm made pItm held dByt dLen true (min (leN dByt dLen (nI 0) 4) 100000) (cN x) (min (leN dByt dLen (nI 0) 4) 100000) tab wg1 0 row mWr mWid mOv mPl mTh mSp mPile mNext mSh mShs mRea wg1 en1 dp1 at1 tb1 st1) H := hP
                have hD : va_D A (Wm am gm sLen sKind sExt sMust rTab rFil mNum rLen rItm made pItm held dByt dLen true (min (leN dByt dLen (nI 0) 4) 100000) (cN x) (min (leN dByt dLen (nI 0) 4) 100000) tab wg1 0 row mWr mWid mOv mPl mTh mSp mPile mNext mSh mShs mRea wg1 en1 dp1 at1 tb1 st1) := hD
                refine lv_aload_n hx hb d_M_verify_205 rfl (lv_at hl 0 rfl) ?_
                refine lv_iload_n hx hb d_M_verify_206 rfl (lv_at hl 1 rfl) ?_
                refine va_put (D := D) (ci := 8) (ty := .int) (C := R_M) (T := T_M) (N := 39) hx hb hts (fun w h => kT w (i_M w h)) ty_M tyk_M nm_M hown hK hP hD hS 0 rfl rfl 31 (by decide) (hts _ (kT _ wd_e5a19dfd)) (fun _ h9 => h9) rfl (by decide +kernel) rfl rfl (Nat.le_of_ble_eq_true rfl) d_M_verify_207 (fun H locs hP hD hS => ?_)
                have hP : va_P D vwCl (Wm am gm sLen sKind sExt sMust rTab rFil mNum rLen rItm made pItm held dByt dLen true (min (leN dByt dLen (nI 0) 4) 100000) (cN x) (min (leN dByt dLen (nI 0) 4) 100000) (cN x) wg1 0 row mWr mWid mOv mPl mTh mSp mPile mNext mSh mShs mRea wg1 en1 dp1 at1 tb1 st1) H := hP
                have hD : va_D A (Wm am gm sLen sKind sExt sMust rTab rFil mNum rLen rItm made pItm held dByt dLen true (min (leN dByt dLen (nI 0) 4) 100000) (cN x) (min (leN dByt dLen (nI 0) 4) 100000) (cN x) wg1 0 row mWr mWid mOv mPl mTh mSp mPile mNext mSh mShs mRea wg1 en1 dp1 at1 tb1 st1) := hD
                refine lv_aload_n hx hb d_M_verify_210 rfl (lv_at hl 0 rfl) ?_
                refine va_get (D := D) (ci := 8) (C := R_M) (T := T_M) (N := 39) hx hb hts (fun w h => kT w (i_M w h)) hown hK hP 0 rfl rfl 34 (by decide) (hts _ (kT _ wd_1759d07d)) (fun _ h9 => h9) rfl d_M_verify_211 ?_
                exact k_iret hx hb hr hlocks hK hP hD hS (trivial) (by rw [if_pos hcd, hee]) (by rw [hfi, if_pos hcd, if_pos hcd, if_pos hcd, if_pos hcd, if_pos hcd, if_pos hok, ← hwg, hcd]) d_M_verify_214
              · skip
                refine lv_aload_n hx hb d_M_verify_172 rfl (lv_at hl 0 rfl) ?_
                refine lv_iconst (v := nI 1) hx hb d_M_verify_173 (by decide) ?_
                refine k_callV (m_raise l D am gm tw sLen sKind sExt sMust rTab rFil mNum rLen rItm made pItm held dByt dLen false fAdr fTab adr tab wg1 0 row mWr mWid mOv mPl mTh mSp mPile mNext mSh mShs mRea wg1 en1 dp1 at1 tb1 st1 1  ) m_M_raise wd_4b1468e4 0 8 rfl rfl rfl kT hx hb hml hown hts ⟨Nat.le_of_ble_eq_true rfl, Nat.le_of_ble_eq_true rfl⟩ ⟨Nat.le_of_ble_eq_true rfl, Nat.le_of_ble_eq_true rfl⟩ hK hP hD hS hA hZ hl.1 rfl rfl (Nat.le_of_ble_eq_true rfl) d_M_verify_174 (fun H locs hP hD hS => ?_)
                have hP : va_P D vwCl (Wm am gm sLen sKind sExt sMust rTab rFil mNum rLen rItm made pItm held dByt dLen false fAdr fTab adr tab wg1 1 row mWr mWid mOv mPl mTh mSp mPile mNext mSh mShs mRea wg1 en1 dp1 at1 tb1 st1) H := hP
                have hD : va_D A (Wm am gm sLen sKind sExt sMust rTab rFil mNum rLen rItm made pItm held dByt dLen false fAdr fTab adr tab wg1 1 row mWr mWid mOv mPl mTh mSp mPile mNext mSh mShs mRea wg1 en1 dp1 at1 tb1 st1) := hD
                refine W.eq (g2 := F0 m 177 ls [.int (nI 0)]) rfl ?_
                have hcd : cdVer (SR.mk sLen sKind sExt sMust rTab rFil rNum rLnk rLen rItm) dByt dLen x = 1 := by rw [cdVer, if_pos hok, if_neg (fun z => c_169 (by rw [show wg1 = -1 from hwg.trans z]; decide))]
                have hc1 : ¬ cdVer (SR.mk sLen sKind sExt sMust rTab rFil rNum rLnk rLen rItm) dByt dLen x = 0 := by rw [hcd]; decide
                exact k_iret hx hb hr hlocks hK hP hD hS (trivial) (by rw [if_neg hc1]) (by rw [hfi, if_neg hc1, if_neg hc1, if_neg hc1, if_neg hc1, if_neg hc1, if_pos hok, if_pos hok, ← hwg, hcd]) d_M_verify_177
            · skip
              have hw0 : wg1 < 0 := i_lt c_77
              have hp0 : ¬ dp1 = 0 := by omega
              have hnd : ¬ dnV (MV.mk wg1 en1 dp1 at1 tb1 st1) := fun z => z.elim hp0 (fun z => z hw0)
              have hfr : FR dByt dLen (at1 (dp1 - 1)) := hvi.2.2.1 hw0 (dp1 - 1) (show dp1 - 1 < dp1 by omega)
              have hst1 : tb1 (dp1 - 1) < 4 := (hvi.2.2.2 (dp1 - 1) (show dp1 - 1 < dp1 by omega)).1
              have hst2 : st1 (dp1 - 1) ≤ sLen (tb1 (dp1 - 1)) := (hvi.2.2.2 (dp1 - 1) (show dp1 - 1 < dp1 by omega)).2
              have hL1 := hL (tb1 (dp1 - 1))
              obtain ⟨kj, hkj, hf2⟩ := itV_pos hf hdn hnd
              have hvi2 := VI_st hB hd hX hL hvi hnd
              refine lv_aload_n hx hb d_M_verify_80 rfl (lv_at hl 0 rfl) ?_
              refine va_get (D := D) (ci := 8) (C := R_M) (T := T_M) (N := 39) hx hb hts (fun w h => kT w (i_M w h)) hown hK hP 0 rfl rfl 35 (by decide) (hts _ (kT _ wd_8f75c4b2)) (fun _ h9 => h9) rfl d_M_verify_81 ?_
              refine lv_iconst (v := nI 1) hx hb d_M_verify_84 (by decide) ?_
              refine lv_isub hx hb d_M_verify_85 ?_
              refine lv_eqi (pk_sub (by omega)) ?_
              refine lv_istore_n (lv' := [(2, .int (nI (dp1 - 1))), (0, .ref (am 0)), (1, .int (nI (cN x)))]) hx hb d_M_verify_86 rfl hl (by decide) rfl (fun ls hl => ?_)
              refine lv_aload_n hx hb d_M_verify_87 rfl (lv_at hl 1 rfl) ?_
              refine va_get (D := D) (ci := 8) (C := R_M) (T := T_M) (N := 39) hx hb hts (fun w h => kT w (i_M w h)) hown hK hP 0 rfl rfl 38 (by decide) (hts _ (kT _ wd_1d293484)) (fun _ h9 => h9) rfl d_M_verify_88 ?_
              refine lv_iload_n hx hb d_M_verify_91 rfl (lv_at hl 0 rfl) ?_
              refine n_iald hx hb hK hP 22 21 rfl rfl (i := (dp1 - 1)) (by omega) (by decide) d_M_verify_92 ?_
              refine lv_aload_n hx hb d_M_verify_93 rfl (lv_at hl 1 rfl) ?_
              refine va_get (D := D) (ci := 8) (C := R_M) (T := T_M) (N := 39) hx hb hts (fun w h => kT w (i_M w h)) hown hK hP 0 rfl rfl 1 (by decide) (hts _ (kT _ wd_4d2260e1)) (fun _ h9 => h9) rfl d_M_verify_94 ?_
              refine lv_aload_n hx hb d_M_verify_97 rfl (lv_at hl 1 rfl) ?_
              refine va_get (D := D) (ci := 8) (C := R_M) (T := T_M) (N := 39) hx hb hts (fun w h => kT w (i_M w h)) hown hK hP 0 rfl rfl 37 (by decide) (hts _ (kT _ wd_1951fc82)) (fun _ h9 => h9) rfl d_M_verify_98 ?_
              refine lv_iload_n hx hb d_M_verify_101 rfl (lv_at hl 0 rfl) ?_
              refine n_iald hx hb hK hP 21 20 rfl rfl (i := (dp1 - 1)) (by omega) (by decide) d_M_verify_102 ?_
              refine n_iald hx hb hK hP 1 0 rfl rfl (i := (tb1 (dp1 - 1))) (by omega) (by decide) d_M_verify_103 ?_
              refine lv_icmp_ne (tgt := 120) hx hb d_M_verify_104 (by decide) (fun c_104 => ?_) (fun c_104 => ?_)
              · skip
                have c_104 := mt (nI_eq (by omega) (by omega)).mpr c_104
                refine lv_aload_n hx hb d_M_verify_120 rfl (lv_at hl 1 rfl) ?_
                refine va_get (D := D) (ci := 8) (C := R_M) (T := T_M) (N := 39) hx hb hts (fun w h => kT w (i_M w h)) hown hK hP 0 rfl rfl 38 (by decide) (hts _ (kT _ wd_1d293484)) (fun _ h9 => h9) rfl d_M_verify_121 ?_
                refine lv_iload_n hx hb d_M_verify_124 rfl (lv_at hl 0 rfl) ?_
                refine lv_dup2_11 hx hb d_M_verify_125 rfl rfl ?_
                refine n_iald hx hb hK hP 22 21 rfl rfl (i := (dp1 - 1)) (by omega) (by decide) d_M_verify_126 ?_
                refine lv_iconst (v := nI 1) hx hb d_M_verify_127 (by decide) ?_
                refine lv_iadd hx hb d_M_verify_128 ?_
                refine lv_eqi (nI_add _ _) ?_
                refine n_iast hx hb hK hP hD hS 22 21 rfl rfl (i := (dp1 - 1)) (by omega) (by decide) d_M_verify_129 (fun H locs hP hD hS => ?_)
                have hP : va_P D vwCl (Wm am gm sLen sKind sExt sMust rTab rFil mNum rLen rItm made pItm held dByt dLen false fAdr fTab adr tab lf 0 row mWr mWid mOv mPl mTh mSp mPile mNext mSh mShs mRea wg1 en1 dp1 at1 tb1 (va_up st1 (dp1 - 1) ((st1 (dp1 - 1)) + 1))) H := hP
                have hD : va_D A (Wm am gm sLen sKind sExt sMust rTab rFil mNum rLen rItm made pItm held dByt dLen false fAdr fTab adr tab lf 0 row mWr mWid mOv mPl mTh mSp mPile mNext mSh mShs mRea wg1 en1 dp1 at1 tb1 (va_up st1 (dp1 - 1) ((st1 (dp1 - 1)) + 1))) := hD
                refine lv_aload_n hx hb d_M_verify_130 rfl (lv_at hl 1 rfl) ?_
                refine lv_aload_n hx hb d_M_verify_131 rfl (lv_at hl 1 rfl) ?_
                refine va_get (D := D) (ci := 8) (C := R_M) (T := T_M) (N := 39) hx hb hts (fun w h => kT w (i_M w h)) hown hK hP 0 rfl rfl 36 (by decide) (hts _ (kT _ wd_4926ac37)) (fun _ h9 => h9) rfl d_M_verify_132 ?_
                refine lv_iload_n hx hb d_M_verify_135 rfl (lv_at hl 0 rfl) ?_
                refine n_iald hx hb hK hP 20 19 rfl rfl (i := (dp1 - 1)) (by omega) (by decide) d_M_verify_136 ?_
                refine lv_aload_n hx hb d_M_verify_137 rfl (lv_at hl 1 rfl) ?_
                refine va_get (D := D) (ci := 8) (C := R_M) (T := T_M) (N := 39) hx hb hts (fun w h => kT w (i_M w h)) hown hK hP 0 rfl rfl 37 (by decide) (hts _ (kT _ wd_1951fc82)) (fun _ h9 => h9) rfl d_M_verify_138 ?_
                refine lv_iload_n hx hb d_M_verify_141 rfl (lv_at hl 0 rfl) ?_
                refine n_iald hx hb hK hP 21 20 rfl rfl (i := (dp1 - 1)) (by omega) (by decide) d_M_verify_142 ?_
                refine lv_aload_n hx hb d_M_verify_143 rfl (lv_at hl 1 rfl) ?_
                refine va_get (D := D) (ci := 8) (C := R_M) (T := T_M) (N := 39) hx hb hts (fun w h => kT w (i_M w h)) hown hK hP 0 rfl rfl 38 (by decide) (hts _ (kT _ wd_1d293484)) (fun _ h9 => h9) rfl d_M_verify_144 ?_
                refine lv_iload_n hx hb d_M_verify_147 rfl (lv_at hl 0 rfl) ?_
                refine n_iald hx hb hK hP 22 21 rfl rfl (i := (dp1 - 1)) (by omega) (by decide) d_M_verify_148 ?_
                refine lv_eqi (nI_congr (va_up_self st1 (dp1 - 1) (st1 (dp1 - 1) + 1))) ?_
                refine lv_iconst (v := nI 1) hx hb d_M_verify_149 (by decide) ?_
                refine lv_isub hx hb d_M_verify_150 ?_
                refine lv_eqi (pk_sub (by omega)) ?_
                refine lv_eqi (nI_congr (Nat.add_sub_cancel (n := st1 (dp1 - 1)) (m := 1))) ?_
                refine k_callV (m_inspect l D am gm tw sLen sKind sExt sMust rTab rFil mNum rLen rItm made pItm held dByt dLen false fAdr fTab adr tab lf 0 row mWr mWid mOv mPl mTh mSp mPile mNext mSh mShs mRea wg1 en1 dp1 at1 tb1 (va_up st1 (dp1 - 1) ((st1 (dp1 - 1)) + 1)) (at1 (dp1 - 1)) (tb1 (dp1 - 1)) (st1 (dp1 - 1)) rNum rLnk hfr hst1 (by omega) hk hX he6 hd6 hB hd) m_M_inspect wd_03a55fc4 0 8 rfl rfl rfl kT hx hb hml hown hts ⟨Nat.le_of_ble_eq_true rfl, Nat.le_of_ble_eq_true rfl⟩ ⟨Nat.le_of_ble_eq_true rfl, Nat.le_of_ble_eq_true rfl⟩ hK hP hD hS hA hZ hl.1 rfl rfl (Nat.le_of_ble_eq_true rfl) d_M_verify_151 (fun H locs hP hD hS => ?_)
                have hP : va_P D vwCl (Wm am gm sLen sKind sExt sMust rTab rFil mNum rLen rItm made pItm held dByt dLen false fAdr fTab adr tab lf 0 row mWr mWid mOv mPl mTh mSp mPile mNext mSh mShs mRea ((inV (SR.mk sLen sKind sExt sMust rTab rFil rNum rLnk rLen rItm) dByt dLen (MV.mk wg1 en1 dp1 at1 tb1 (va_up st1 (dp1 - 1) ((st1 (dp1 - 1)) + 1))) (at1 (dp1 - 1)) (tb1 (dp1 - 1)) (st1 (dp1 - 1))).wg) ((inV (SR.mk sLen sKind sExt sMust rTab rFil rNum rLnk rLen rItm) dByt dLen (MV.mk wg1 en1 dp1 at1 tb1 (va_up st1 (dp1 - 1) ((st1 (dp1 - 1)) + 1))) (at1 (dp1 - 1)) (tb1 (dp1 - 1)) (st1 (dp1 - 1))).en) ((inV (SR.mk sLen sKind sExt sMust rTab rFil rNum rLnk rLen rItm) dByt dLen (MV.mk wg1 en1 dp1 at1 tb1 (va_up st1 (dp1 - 1) ((st1 (dp1 - 1)) + 1))) (at1 (dp1 - 1)) (tb1 (dp1 - 1)) (st1 (dp1 - 1))).dp) ((inV (SR.mk sLen sKind sExt sMust rTab rFil rNum rLnk rLen rItm) dByt dLen (MV.mk wg1 en1 dp1 at1 tb1 (va_up st1 (dp1 - 1) ((st1 (dp1 - 1)) + 1))) (at1 (dp1 - 1)) (tb1 (dp1 - 1)) (st1 (dp1 - 1))).fa) ((inV (SR.mk sLen sKind sExt sMust rTab rFil rNum rLnk rLen rItm) dByt dLen (MV.mk wg1 en1 dp1 at1 tb1 (va_up st1 (dp1 - 1) ((st1 (dp1 - 1)) + 1))) (at1 (dp1 - 1)) (tb1 (dp1 - 1)) (st1 (dp1 - 1))).ft) ((inV (SR.mk sLen sKind sExt sMust rTab rFil rNum rLnk rLen rItm) dByt dLen (MV.mk wg1 en1 dp1 at1 tb1 (va_up st1 (dp1 - 1) ((st1 (dp1 - 1)) + 1))) (at1 (dp1 - 1)) (tb1 (dp1 - 1)) (st1 (dp1 - 1))).fs)) H := hP
                have hD : va_D A (Wm am gm sLen sKind sExt sMust rTab rFil mNum rLen rItm made pItm held dByt dLen false fAdr fTab adr tab lf 0 row mWr mWid mOv mPl mTh mSp mPile mNext mSh mShs mRea ((inV (SR.mk sLen sKind sExt sMust rTab rFil rNum rLnk rLen rItm) dByt dLen (MV.mk wg1 en1 dp1 at1 tb1 (va_up st1 (dp1 - 1) ((st1 (dp1 - 1)) + 1))) (at1 (dp1 - 1)) (tb1 (dp1 - 1)) (st1 (dp1 - 1))).wg) ((inV (SR.mk sLen sKind sExt sMust rTab rFil rNum rLnk rLen rItm) dByt dLen (MV.mk wg1 en1 dp1 at1 tb1 (va_up st1 (dp1 - 1) ((st1 (dp1 - 1)) + 1))) (at1 (dp1 - 1)) (tb1 (dp1 - 1)) (st1 (dp1 - 1))).en) ((inV (SR.mk sLen sKind sExt sMust rTab rFil rNum rLnk rLen rItm) dByt dLen (MV.mk wg1 en1 dp1 at1 tb1 (va_up st1 (dp1 - 1) ((st1 (dp1 - 1)) + 1))) (at1 (dp1 - 1)) (tb1 (dp1 - 1)) (st1 (dp1 - 1))).dp) ((inV (SR.mk sLen sKind sExt sMust rTab rFil rNum rLnk rLen rItm) dByt dLen (MV.mk wg1 en1 dp1 at1 tb1 (va_up st1 (dp1 - 1) ((st1 (dp1 - 1)) + 1))) (at1 (dp1 - 1)) (tb1 (dp1 - 1)) (st1 (dp1 - 1))).fa) ((inV (SR.mk sLen sKind sExt sMust rTab rFil rNum rLnk rLen rItm) dByt dLen (MV.mk wg1 en1 dp1 at1 tb1 (va_up st1 (dp1 - 1) ((st1 (dp1 - 1)) + 1))) (at1 (dp1 - 1)) (tb1 (dp1 - 1)) (st1 (dp1 - 1))).ft) ((inV (SR.mk sLen sKind sExt sMust rTab rFil rNum rLnk rLen rItm) dByt dLen (MV.mk wg1 en1 dp1 at1 tb1 (va_up st1 (dp1 - 1) ((st1 (dp1 - 1)) + 1))) (at1 (dp1 - 1)) (tb1 (dp1 - 1)) (st1 (dp1 - 1))).fs)) := hD
                refine W.eq (g2 := F0 m 154 ls []) rfl ?_
                refine lv_goto (tgt := 66) hx hb d_M_verify_154 (by decide) ?_
                exact ih_66 ((inV (SR.mk sLen sKind sExt sMust rTab rFil rNum rLnk rLen rItm) dByt dLen (MV.mk wg1 en1 dp1 at1 tb1 (va_up st1 (dp1 - 1) ((st1 (dp1 - 1)) + 1))) (at1 (dp1 - 1)) (tb1 (dp1 - 1)) (st1 (dp1 - 1))).wg) ((inV (SR.mk sLen sKind sExt sMust rTab rFil rNum rLnk rLen rItm) dByt dLen (MV.mk wg1 en1 dp1 at1 tb1 (va_up st1 (dp1 - 1) ((st1 (dp1 - 1)) + 1))) (at1 (dp1 - 1)) (tb1 (dp1 - 1)) (st1 (dp1 - 1))).en) ((inV (SR.mk sLen sKind sExt sMust rTab rFil rNum rLnk rLen rItm) dByt dLen (MV.mk wg1 en1 dp1 at1 tb1 (va_up st1 (dp1 - 1) ((st1 (dp1 - 1)) + 1))) (at1 (dp1 - 1)) (tb1 (dp1 - 1)) (st1 (dp1 - 1))).dp) ((inV (SR.mk sLen sKind sExt sMust rTab rFil rNum rLnk rLen rItm) dByt dLen (MV.mk wg1 en1 dp1 at1 tb1 (va_up st1 (dp1 - 1) ((st1 (dp1 - 1)) + 1))) (at1 (dp1 - 1)) (tb1 (dp1 - 1)) (st1 (dp1 - 1))).fa) ((inV (SR.mk sLen sKind sExt sMust rTab rFil rNum rLnk rLen rItm) dByt dLen (MV.mk wg1 en1 dp1 at1 tb1 (va_up st1 (dp1 - 1) ((st1 (dp1 - 1)) + 1))) (at1 (dp1 - 1)) (tb1 (dp1 - 1)) (st1 (dp1 - 1))).ft) ((inV (SR.mk sLen sKind sExt sMust rTab rFil rNum rLnk rLen rItm) dByt dLen (MV.mk wg1 en1 dp1 at1 tb1 (va_up st1 (dp1 - 1) ((st1 (dp1 - 1)) + 1))) (at1 (dp1 - 1)) (tb1 (dp1 - 1)) (st1 (dp1 - 1))).fs) kj (by rw [MV_eta]; rw [stV_i c_104] at hf2; exact hf2) (by rw [MV_eta]; rw [stV_i c_104] at hvi2; exact hvi2) (by omega) _ _ _ hP hD hS (lv_sub hl [1, 2] rfl)
              · skip
                have c_104 := (nI_eq (by omega) (by omega)).mp c_104
                refine lv_aload_n hx hb d_M_verify_107 rfl (lv_at hl 1 rfl) ?_
                refine lv_dup hx hb d_M_verify_108 rfl ?_
                refine va_get (D := D) (ci := 8) (C := R_M) (T := T_M) (N := 39) hx hb hts (fun w h => kT w (i_M w h)) hown hK hP 0 rfl rfl 35 (by decide) (hts _ (kT _ wd_8f75c4b2)) (fun _ h9 => h9) rfl d_M_verify_109 ?_
                refine lv_iconst (v := nI 1) hx hb d_M_verify_112 (by decide) ?_
                refine lv_isub hx hb d_M_verify_113 ?_
                refine lv_eqi (pk_sub (by omega)) ?_
                refine va_put (D := D) (ci := 8) (ty := .int) (C := R_M) (T := T_M) (N := 39) hx hb hts (fun w h => kT w (i_M w h)) ty_M tyk_M nm_M hown hK hP hD hS 0 rfl rfl 35 (by decide) (hts _ (kT _ wd_8f75c4b2)) (fun _ h9 => h9) rfl (by decide +kernel) rfl rfl (Nat.le_of_ble_eq_true rfl) d_M_verify_114 (fun H locs hP hD hS => ?_)
                have hP : va_P D vwCl (Wm am gm sLen sKind sExt sMust rTab rFil mNum rLen rItm made pItm held dByt dLen false fAdr fTab adr tab lf 0 row mWr mWid mOv mPl mTh mSp mPile mNext mSh mShs mRea wg1 en1 (dp1 - 1) at1 tb1 st1) H := hP
                have hD : va_D A (Wm am gm sLen sKind sExt sMust rTab rFil mNum rLen rItm made pItm held dByt dLen false fAdr fTab adr tab lf 0 row mWr mWid mOv mPl mTh mSp mPile mNext mSh mShs mRea wg1 en1 (dp1 - 1) at1 tb1 st1) := hD
                refine lv_goto (tgt := 66) hx hb d_M_verify_117 (by decide) ?_
                exact ih_66 wg1 en1 (dp1 - 1) at1 tb1 st1 kj (by rw [stV_p c_104] at hf2; exact hf2) (by rw [stV_p c_104] at hvi2; exact hvi2) (by omega) _ _ _ hP hD hS (lv_sub hl [1, 2] rfl)
      exact L_66 ((kv) + 1) (if (-1) < 0 then (nI 0) else (-1)) 0 0 mAt mTb mSt kv (by first | exact congrArg (itV (SR.mk sLen sKind sExt sMust rTab rFil rNum rLnk rLen rItm) dByt dLen kv) (v0V_y (by omega)).symm | (rw [MV_eta]; exact congrArg (itV (SR.mk sLen sKind sExt sMust rTab rFil rNum rLnk rLen rItm) dByt dLen kv) (v0V_n (by omega)).symm)) (by first | exact VI_0 _ _ _ _ | (rw [MV_eta]; exact VI_en hB hd (VI_0 _ _ _ _) (Nat.lt_of_le_of_lt (Nat.min_le_right _ _) (by decide)) b_x (by decide))) (by omega) _ _ _ hP hD hS (lv_sub hl [0, 1] rfl)
  · skip
    have c_10 := mt (bI_0).mpr c_10
    have c_10 := eq_true_of_ne_false c_10
    refine lv_aload_n hx hb d_M_verify_13 rfl (lv_at hl 0 rfl) ?_
    refine lv_iconst (v := nI 1) hx hb d_M_verify_14 (by decide) ?_
    refine k_callV (m_raise l D am gm tw sLen sKind sExt sMust rTab rFil mNum rLen rItm made pItm held dByt dLen ver fAdr fTab adr tab lf 0 row mWr mWid mOv mPl mTh mSp mPile mNext mSh mShs mRea mWg mEn mDp mAt mTb mSt 1  ) m_M_raise wd_4b1468e4 0 8 rfl rfl rfl kT hx hb hml hown hts ⟨Nat.le_of_ble_eq_true rfl, Nat.le_of_ble_eq_true rfl⟩ ⟨Nat.le_of_ble_eq_true rfl, Nat.le_of_ble_eq_true rfl⟩ hK hP hD hS hA hZ hl.1 rfl rfl (Nat.le_of_ble_eq_true rfl) d_M_verify_15 (fun H locs hP hD hS => ?_)
    have hP : va_P D vwCl (Wm am gm sLen sKind sExt sMust rTab rFil mNum rLen rItm made pItm held dByt dLen ver fAdr fTab adr tab lf 1 row mWr mWid mOv mPl mTh mSp mPile mNext mSh mShs mRea mWg mEn mDp mAt mTb mSt) H := hP
    have hD : va_D A (Wm am gm sLen sKind sExt sMust rTab rFil mNum rLen rItm made pItm held dByt dLen ver fAdr fTab adr tab lf 1 row mWr mWid mOv mPl mTh mSp mPile mNext mSh mShs mRea mWg mEn mDp mAt mTb mSt) := hD
    refine W.eq (g2 := F0 m 18 ls [.int (nI 0)]) rfl ?_
    have hok : okT x = false := t_n c_10
    have hno : ¬ okT x = true := by rw [hok]; simp
    have hcd : cdVer (SR.mk sLen sKind sExt sMust rTab rFil rNum rLnk rLen rItm) dByt dLen x = 1 := by rw [cdVer, if_neg hno]
    have hc1 : ¬ cdVer (SR.mk sLen sKind sExt sMust rTab rFil rNum rLnk rLen rItm) dByt dLen x = 0 := by rw [hcd]; decide
    have hfi : (if okT x = true then itV (SR.mk sLen sKind sExt sMust rTab rFil rNum rLnk rLen rItm) dByt dLen kv (v0V dByt dLen (cN x) mAt mTb mSt) else MV.mk mWg mEn mDp mAt mTb mSt) = MV.mk mWg mEn mDp mAt mTb mSt := by rw [if_neg (by rw [hok]; simp)]
    exact k_iret hx hb hr hlocks hK hP hD hS (trivial) (by rw [if_neg hc1]) (by rw [hfi, if_neg hc1, if_neg hc1, if_neg hc1, if_neg hc1, if_neg hc1, if_neg hno, if_neg hno, hcd]) d_M_verify_18

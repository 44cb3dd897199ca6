/-! WHAT HOLDS BETWEEN THE CALLS -/
abbrev RI (q : SR) (made : Nat) (mNum : Nat → Int64) : Prop := SOK q ∧ made ≤ 16 ∧ (∀ r f, r < 16 → f < 6 → q.rFil (r * 6 + f) = true → r < made ∧ f < q.sLen (q.rTab r)) ∧ (∀ r f, r < 16 → f < 6 → q.rFil (r * 6 + f) = true → (q.sKind (q.rTab r * 6 + f) = 6 → mNum (r * 6 + f) = (nI (q.rLnk (r * 6 + f))).toInt64) ∧ (q.sKind (q.rTab r * 6 + f) < 4 → mNum (r * 6 + f) = q.rNum (r * 6 + f))) ∧ (∀ j, q.sKind j = 6 → okT (q.sExt j) = true)
abbrev PI (pItm : Nat → Int32) (held : Nat) : Prop := held ≤ 12 ∧ ∀ j, (pItm j).toInt16.toInt32 = pItm j
abbrev DI (dByt : Nat → Nat) (dLen : Nat) : Prop := (∀ k, dByt k < 256) ∧ dLen ≤ 240
abbrev CI (q : SR) (dByt : Nat → Nat) (dLen : Nat) (ver : Bool) (fAdr fTab adr tab : Nat) : Prop := tab < 4 ∧ fTab < 4 ∧ adr < 2 ^ 29 ∧ fAdr < 2 ^ 29 ∧ (ver = true → VE q dByt dLen adr tab ∧ VE q dByt dLen fAdr fTab)
abbrev OI (bOff bRec : Nat → Nat) : Prop := ∀ j, bOff j < 100000 ∧ bRec j < 100000
theorem upd_self (f : Nat → Int32) (k : Nat) (v : Int32) : upd f k v k = v := if_pos rfl
theorem upd_ne (f : Nat → Int32) {k j : Nat} (v : Int32) (h : j ≠ k) : upd f k v j = f j := if_neg h
theorem upL_ne (f : Nat → Int64) {k j : Nat} (v : Int64) (h : j ≠ k) : vp_updL f k v j = f j := if_neg h
theorem cdF_0 {sLen : Nat → Nat} {t k x : Int32} {b : Bool} (h : cdField sLen t k x b = 0) : okT t = true ∧ cN k < 7 ∧ suT (cN k) x = true ∧ sLen (cN t) < 6 := by
  unfold cdField at h
  split at h
  · rename_i h1
    split at h
    · cases h
    · split at h
      · rename_i h2; exact ⟨h1.1, (k7_spec h1.2.1 h1.2.2.1).2, h1.2.2.2, h2⟩
      · cases h
  · cases h
theorem RI_field {sLen sKind rTab rLnk rLen : Nat → Nat} {sExt rItm : Nat → Int32} {sMust rFil : Nat → Bool} {rNum mNum : Nat → Int64} {made : Nat} {t k x : Int32} {b : Bool} (h : RI (SR.mk sLen sKind sExt sMust rTab rFil rNum rLnk rLen rItm) made mNum) (hc : cdField sLen t k x b = 0) :
    RI (SR.mk (va_up sLen (cN t) (sLen (cN t) + 1)) (va_up sKind (cN t * 6 + sLen (cN t)) (cN k)) (upd sExt (cN t * 6 + sLen (cN t)) x) (va_up sMust (cN t * 6 + sLen (cN t)) b) rTab rFil rNum rLnk rLen rItm) made mNum := by
  obtain ⟨c1, c2, c3, c4⟩ := cdF_0 hc
  obtain ⟨⟨hL, hk, hT, hn, hl, hlt, hi⟩, hm, hF, hN, hX⟩ := h
  have key : ∀ r f, r < 16 → f < 6 → rFil (r * 6 + f) = true → rTab r * 6 + f ≠ cN t * 6 + sLen (cN t) := by
    intro r f h1 h2 h3 e
    have h4 : f < sLen (rTab r) := (hF r f h1 h2 h3).2
    have e1 : rTab r = cN t := by omega
    rw [e1] at h4
    omega
  have ek : ∀ r f, r < 16 → f < 6 → rFil (r * 6 + f) = true → va_up sKind (cN t * 6 + sLen (cN t)) (cN k) (rTab r * 6 + f) = sKind (rTab r * 6 + f) := fun r f h1 h2 h3 => va_up_ne _ _ (key r f h1 h2 h3)
  refine ⟨⟨fun u => ?_, fun j => ?_, hT, hn, hl, fun r f h1 h2 h3 h4 => ?_, hi⟩, hm, fun r f h1 h2 h3 => ?_, fun r f h1 h2 h3 => ?_, fun j hj => ?_⟩
  · show va_up sLen (cN t) (sLen (cN t) + 1) u ≤ 6
    by_cases e : u = cN t
    · rw [e, va_up_self]; omega
    · rw [va_up_ne _ _ e]; exact hL u
  · show va_up sKind _ (cN k) j < 7
    by_cases e : j = cN t * 6 + sLen (cN t)
    · rw [e, va_up_self]; exact c2
    · rw [va_up_ne _ _ e]; exact hk j
  · exact hlt r f h1 h2 h3 ((ek r f h1 h2 h3).symm.trans h4)
  · have h4 := hF r f h1 h2 h3
    refine ⟨h4.1, ?_⟩
    show f < va_up sLen (cN t) (sLen (cN t) + 1) (rTab r)
    have h5 : f < sLen (rTab r) := h4.2
    by_cases e : rTab r = cN t
    · rw [e, va_up_self]; rw [e] at h5; omega
    · rw [va_up_ne _ _ e]; exact h5
  · show (va_up sKind _ (cN k) (rTab r * 6 + f) = 6 → _) ∧ (va_up sKind _ (cN k) (rTab r * 6 + f) < 4 → _)
    rw [ek r f h1 h2 h3]
    exact hN r f h1 h2 h3
  · have hj' : va_up sKind (cN t * 6 + sLen (cN t)) (cN k) j = 6 := hj
    show okT (upd sExt (cN t * 6 + sLen (cN t)) x j) = true
    by_cases e : j = cN t * 6 + sLen (cN t)
    · rw [e, va_up_self] at hj'
      rw [e, upd_self]
      rw [hj', suT, if_pos rfl] at c3
      exact c3
    · rw [va_up_ne _ _ e] at hj'
      rw [upd_ne _ _ e]
      exact hX j hj'
theorem RI_make {sLen sKind rTab rLnk rLen : Nat → Nat} {sExt rItm : Nat → Int32} {sMust rFil : Nat → Bool} {rNum mNum : Nat → Int64} {made : Nat} {x : Int32} (h : RI (SR.mk sLen sKind sExt sMust rTab rFil rNum rLnk rLen rItm) made mNum) (hc : cdMake made x = 0) :
    RI (SR.mk sLen sKind sExt sMust (va_up rTab made (cN x)) rFil rNum rLnk rLen rItm) (made + 1) mNum := by
  obtain ⟨⟨hL, hk, hT, hn, hl, hlt, hi⟩, hm, hF, hN, hX⟩ := h
  have c1 : okT x = true ∧ made < 16 := by
    unfold cdMake at hc
    split at hc
    · split at hc
      · rename_i h1 h2; exact ⟨h1, h2⟩
      · cases hc
    · cases hc
  have et : ∀ r f, r < 16 → f < 6 → rFil (r * 6 + f) = true → va_up rTab made (cN x) r = rTab r := fun r f h1 h2 h3 => va_up_ne _ _ (by have h9 : r < made := (hF r f h1 h2 h3).1; omega)
  refine ⟨⟨hL, hk, fun r => ?_, hn, hl, fun r f h1 h2 h3 h4 => ?_, hi⟩, by omega, fun r f h1 h2 h3 => ?_, fun r f h1 h2 h3 => ?_, hX⟩
  · show va_up rTab made (cN x) r < 4
    by_cases e : r = made
    · rw [e, va_up_self]; exact (okT_spec c1.1).2
    · rw [va_up_ne _ _ e]; exact hT r
  · have h4' : sKind (va_up rTab made (cN x) r * 6 + f) = 6 := h4
    rw [et r f h1 h2 h3] at h4'
    exact hlt r f h1 h2 h3 h4'
  · show r < made + 1 ∧ f < sLen (va_up rTab made (cN x) r)
    rw [et r f h1 h2 h3]
    exact ⟨Nat.lt_succ_of_lt (hF r f h1 h2 h3).1, (hF r f h1 h2 h3).2⟩
  · show (sKind (va_up rTab made (cN x) r * 6 + f) = 6 → _) ∧ (sKind (va_up rTab made (cN x) r * 6 + f) < 4 → _)
    rw [et r f h1 h2 h3]
    exact hN r f h1 h2 h3
/-- a slot that is there -/
theorem RI_in {q : SR} {made : Nat} {mNum : Nat → Int64} {x y : Int32} (h : RI q made mNum) (hin : inR q.sLen q.rTab made x y = true) : cN x < made ∧ cN y < q.sLen (q.rTab (cN x)) ∧ q.sLen (q.rTab (cN x)) ≤ 6 := by
  obtain ⟨⟨_, h1⟩, ⟨_, h2⟩, _, h3⟩ := inR_spec h.2.1 (fun r _ => h.1.hT r) (fun t _ => h.1.hL t) hin
  exact ⟨h1, h2, h3⟩
theorem sl_eq {r f x y : Nat} (hf : f < 6) (hy : y < 6) (h : r * 6 + f = x * 6 + y) : r = x ∧ f = y := by omega
theorem RI_number {sLen sKind rTab rLnk rLen : Nat → Nat} {sExt rItm : Nat → Int32} {sMust rFil : Nat → Bool} {rNum mNum : Nat → Int64} {made : Nat} {x y : Int32} {v : Int64} (h : RI (SR.mk sLen sKind sExt sMust rTab rFil rNum rLnk rLen rItm) made mNum) (hc : cdNum sLen sKind rTab made x y = 0) :
    RI (SR.mk sLen sKind sExt sMust rTab (va_up rFil (cN x * 6 + cN y) true) (vp_updL rNum (cN x * 6 + cN y) v) rLnk rLen rItm) made (vp_updL mNum (cN x * 6 + cN y) v) := by
  have c1 : inR sLen rTab made x y = true ∧ sKind (rTab (cN x) * 6 + cN y) < 4 := by
    unfold cdNum at hc
    split at hc
    · split at hc
      · rename_i h1 h2; exact ⟨h1, h2⟩
      · cases hc
    · cases hc
  obtain ⟨b1, b2, b3⟩ := RI_in h c1.1
  have b2 : cN y < sLen (rTab (cN x)) := b2
  have b3 : sLen (rTab (cN x)) ≤ 6 := b3
  obtain ⟨⟨hL, hk, hT, hn, hl, hlt, hi⟩, hm, hF, hN, hX⟩ := h
  refine ⟨⟨hL, hk, hT, hn, hl, fun r f h1 h2 h3 h4 => ?_, hi⟩, hm, fun r f h1 h2 h3 => ?_, fun r f h1 h2 h3 => ?_, hX⟩
  · by_cases e : r * 6 + f = cN x * 6 + cN y
    · obtain ⟨e1, e2⟩ := sl_eq h2 (by omega) e
      have h4' : sKind (rTab r * 6 + f) = 6 := h4
      rw [e1, e2] at h4'
      omega
    · exact hlt r f h1 h2 ((va_up_ne _ _ e).symm.trans h3) h4
  · by_cases e : r * 6 + f = cN x * 6 + cN y
    · obtain ⟨e1, e2⟩ := sl_eq h2 (by omega) e
      rw [e1, e2]; exact ⟨b1, b2⟩
    · exact hF r f h1 h2 ((va_up_ne _ _ e).symm.trans h3)
  · show (_ → vp_updL mNum _ v (r * 6 + f) = _) ∧ (_ → vp_updL mNum _ v (r * 6 + f) = vp_updL rNum _ v (r * 6 + f))
    by_cases e : r * 6 + f = cN x * 6 + cN y
    · obtain ⟨e1, e2⟩ := sl_eq h2 (by omega) e
      refine ⟨fun h4 => ?_, fun _ => by rw [e, upL_self, upL_self]⟩
      have h4' : sKind (rTab r * 6 + f) = 6 := h4
      rw [e1, e2] at h4'
      omega
    · rw [upL_ne _ _ e, upL_ne _ _ e]
      exact hN r f h1 h2 ((va_up_ne _ _ e).symm.trans h3)
theorem cpI_h {f p : Nat → Int32} {k : Int32} {b : Nat} (hf : ∀ j, (f j).toInt16.toInt32 = f j) : ∀ n j, (cpI f p k b n j).toInt16.toInt32 = cpI f p k b n j
  | 0, j => hf j
  | n + 1, j => by
    rw [cpI]
    by_cases e : j = b + n
    · rw [e, upd_self]; simp
    · rw [upd_ne _ _ e]; exact cpI_h hf n j
theorem RI_fill {sLen sKind rTab rLnk rLen : Nat → Nat} {sExt rItm rItm' : Nat → Int32} {sMust rFil : Nat → Bool} {rNum mNum : Nat → Int64} {made held : Nat} {x y : Int32} (h : RI (SR.mk sLen sKind sExt sMust rTab rFil rNum rLnk rLen rItm) made mNum) (hh : held ≤ 12) (hI : ∀ j, (rItm' j).toInt16.toInt32 = rItm' j) (hc : cdFill sLen sKind rTab made held x y = 0) :
    RI (SR.mk sLen sKind sExt sMust rTab (va_up rFil (cN x * 6 + cN y) true) rNum rLnk (va_up rLen (cN x * 6 + cN y) held) rItm') made mNum := by
  have c1 : inR sLen rTab made x y = true ∧ (sKind (rTab (cN x) * 6 + cN y) = 4 ∨ sKind (rTab (cN x) * 6 + cN y) = 5) := by
    unfold cdFill at hc
    split at hc
    · split at hc
      · rename_i h1 h2; exact ⟨h1, h2.elim Or.inl (fun z => Or.inr z.1)⟩
      · cases hc
    · cases hc
  obtain ⟨b1, b2, b3⟩ := RI_in h c1.1
  have b2 : cN y < sLen (rTab (cN x)) := b2
  have b3 : sLen (rTab (cN x)) ≤ 6 := b3
  obtain ⟨⟨hL, hk, hT, hn, hl, hlt, hi⟩, hm, hF, hN, hX⟩ := h
  refine ⟨⟨hL, hk, hT, fun j => ?_, hl, fun r f h1 h2 h3 h4 => ?_, hI⟩, hm, fun r f h1 h2 h3 => ?_, fun r f h1 h2 h3 => ?_, hX⟩
  · show va_up rLen _ held j ≤ 12
    by_cases e : j = cN x * 6 + cN y
    · rw [e, va_up_self]; exact hh
    · rw [va_up_ne _ _ e]; exact hn j
  · by_cases e : r * 6 + f = cN x * 6 + cN y
    · obtain ⟨e1, e2⟩ := sl_eq h2 (by omega) e
      have h4' : sKind (rTab r * 6 + f) = 6 := h4
      rw [e1, e2] at h4'
      omega
    · exact hlt r f h1 h2 ((va_up_ne _ _ e).symm.trans h3) h4
  · by_cases e : r * 6 + f = cN x * 6 + cN y
    · obtain ⟨e1, e2⟩ := sl_eq h2 (by omega) e
      rw [e1, e2]; exact ⟨b1, b2⟩
    · exact hF r f h1 h2 ((va_up_ne _ _ e).symm.trans h3)
  · by_cases e : r * 6 + f = cN x * 6 + cN y
    · obtain ⟨e1, e2⟩ := sl_eq h2 (by omega) e
      refine ⟨fun h4 => ?_, fun h4 => ?_⟩
      · have h4' : sKind (rTab r * 6 + f) = 6 := h4
        rw [e1, e2] at h4'
        omega
      · have h4' : sKind (rTab r * 6 + f) < 4 := h4
        rw [e1, e2] at h4'
        omega
    · exact hN r f h1 h2 ((va_up_ne _ _ e).symm.trans h3)
theorem RI_link {sLen sKind rTab rLnk rLen : Nat → Nat} {sExt rItm : Nat → Int32} {sMust rFil : Nat → Bool} {rNum mNum : Nat → Int64} {made : Nat} {x y z : Int32} (h : RI (SR.mk sLen sKind sExt sMust rTab rFil rNum rLnk rLen rItm) made mNum) (hc : cdLink sLen sKind sExt rTab made x y z = 0) :
    RI (SR.mk sLen sKind sExt sMust rTab (va_up rFil (cN x * 6 + cN y) true) rNum (va_up rLnk (cN x * 6 + cN y) (cN z)) rLen rItm) made (vp_updL mNum (cN x * 6 + cN y) (nI (cN z)).toInt64) := by
  have c1 : inR sLen rTab made x y = true ∧ sKind (rTab (cN x) * 6 + cN y) = 6 ∧ cN z < cN x := by
    unfold cdLink at hc
    split at hc
    · split at hc
      · rename_i h1 h2; exact ⟨h1.1, h2.1, h2.2.1⟩
      · cases hc
    · cases hc
  obtain ⟨b1, b2, b3⟩ := RI_in h c1.1
  have b2 : cN y < sLen (rTab (cN x)) := b2
  have b3 : sLen (rTab (cN x)) ≤ 6 := b3
  obtain ⟨⟨hL, hk, hT, hn, hl, hlt, hi⟩, hm, hF, hN, hX⟩ := h
  refine ⟨⟨hL, hk, hT, hn, fun j => ?_, fun r f h1 h2 h3 h4 => ?_, hi⟩, hm, fun r f h1 h2 h3 => ?_, fun r f h1 h2 h3 => ?_, hX⟩
  · show va_up rLnk _ (cN z) j < 16
    by_cases e : j = cN x * 6 + cN y
    · rw [e, va_up_self]; omega
    · rw [va_up_ne _ _ e]; exact hl j
  · show va_up rLnk _ (cN z) (r * 6 + f) < r
    by_cases e : r * 6 + f = cN x * 6 + cN y
    · obtain ⟨e1, e2⟩ := sl_eq h2 (by omega) e
      rw [e, va_up_self, e1]; exact c1.2.2
    · rw [va_up_ne _ _ e]; exact hlt r f h1 h2 ((va_up_ne _ _ e).symm.trans h3) h4
  · by_cases e : r * 6 + f = cN x * 6 + cN y
    · obtain ⟨e1, e2⟩ := sl_eq h2 (by omega) e
      rw [e1, e2]; exact ⟨b1, b2⟩
    · exact hF r f h1 h2 ((va_up_ne _ _ e).symm.trans h3)
  · show (_ → vp_updL mNum _ _ (r * 6 + f) = (nI (va_up rLnk _ (cN z) (r * 6 + f))).toInt64) ∧ (_ → vp_updL mNum _ _ (r * 6 + f) = _)
    by_cases e : r * 6 + f = cN x * 6 + cN y
    · obtain ⟨e1, e2⟩ := sl_eq h2 (by omega) e
      refine ⟨fun _ => by rw [e, upL_self, va_up_self], fun h4 => ?_⟩
      have h4' : sKind (rTab r * 6 + f) < 4 := h4
      rw [e1, e2] at h4'
      omega
    · rw [upL_ne _ _ e, va_up_ne _ _ e]
      exact hN r f h1 h2 ((va_up_ne _ _ e).symm.trans h3)
theorem RI_unset {sLen sKind rTab rLnk rLen : Nat → Nat} {sExt rItm : Nat → Int32} {sMust rFil : Nat → Bool} {rNum mNum : Nat → Int64} {made : Nat} {x y : Int32} (h : RI (SR.mk sLen sKind sExt sMust rTab rFil rNum rLnk rLen rItm) made mNum) :
    RI (SR.mk sLen sKind sExt sMust rTab (va_up rFil (cN x * 6 + cN y) false) rNum rLnk rLen rItm) made mNum := by
  obtain ⟨⟨hL, hk, hT, hn, hl, hlt, hi⟩, hm, hF, hN, hX⟩ := h
  have key : ∀ j, va_up rFil (cN x * 6 + cN y) false j = true → rFil j = true := by
    intro j hj
    by_cases e : j = cN x * 6 + cN y
    · rw [e, va_up_self] at hj; cases hj
    · rw [va_up_ne _ _ e] at hj; exact hj
  exact ⟨⟨hL, hk, hT, hn, hl, fun r f h1 h2 h3 h4 => hlt r f h1 h2 (key _ h3) h4, hi⟩, hm, fun r f h1 h2 h3 => hF r f h1 h2 (key _ h3), fun r f h1 h2 h3 => hN r f h1 h2 (key _ h3), hX⟩
/-- what is verified speaks of the schema alone -/
theorem VG_sch {q q' : SR} {d : Nat → Nat} {n : Nat} (h1 : q'.sLen = q.sLen) (h2 : q'.sKind = q.sKind) (h3 : q'.sExt = q.sExt) : ∀ K x t, VG q d n K x t → VG q' d n K x t
  | 0, _, _, h => h
  | K + 1, x, t, h => by
    refine ⟨h.1, h.2.1, fun f hf => ?_⟩
    rw [h1] at hf
    rw [h2, h3]
    rcases h.2.2 f hf with g | ⟨g1, g2, g3⟩
    · exact Or.inl g
    · refine Or.inr ⟨?_, fun e => VG_sch h1 h2 h3 K _ _ (g2 e), g3⟩
      unfold FB at g1 ⊢
      rw [h2]; exact g1
theorem CI_sch {q q' : SR} {d : Nat → Nat} {n : Nat} {ver : Bool} {fAdr fTab adr tab : Nat} (h1 : q'.sLen = q.sLen) (h2 : q'.sKind = q.sKind) (h3 : q'.sExt = q.sExt) (h : CI q d n ver fAdr fTab adr tab) : CI q' d n ver fAdr fTab adr tab :=
  ⟨h.1, h.2.1, h.2.2.1, h.2.2.2.1, fun e => ⟨(h.2.2.2.2 e).1.imp (fun K g => VG_sch h1 h2 h3 K _ _ g), (h.2.2.2.2 e).2.imp (fun K g => VG_sch h1 h2 h3 K _ _ g)⟩⟩
theorem CI_off {q q' : SR} {d d' : Nat → Nat} {n n' : Nat} {ver : Bool} {fAdr fTab adr tab : Nat} (h : CI q d n ver fAdr fTab adr tab) : CI q' d' n' false fAdr fTab adr tab := ⟨h.1, h.2.1, h.2.2.1, h.2.2.2.1, fun e => by cases e⟩
theorem CI_top {q : SR} {d : Nat → Nat} {n : Nat} {ver : Bool} {fAdr fTab adr tab : Nat} (h : CI q d n ver fAdr fTab adr tab) : CI q d n ver fAdr fTab fAdr fTab := ⟨h.2.1, h.2.1, h.2.2.2.1, h.2.2.2.1, fun e => ⟨(h.2.2.2.2 e).2, (h.2.2.2.2 e).2⟩⟩
theorem CI_down {q : SR} {d : Nat → Nat} {n : Nat} {ver : Bool} {fAdr fTab adr tab : Nat} {x : Int32} (hn : n ≤ 240) (hL : ∀ t, q.sLen t ≤ 6) (h : CI q d n ver fAdr fTab adr tab) (hc : cdKd (cdCur ver q.sLen tab x) (q.sKind (tab * 6 + cN x)) 6 6 = 0) :
    CI q d n ver fAdr fTab (if ofF d n adr (cN x) = 0 then adr else tgF d n (adr + ofF d n adr (cN x))) (if ofF d n adr (cN x) = 0 then tab else cN (q.sExt (tab * 6 + cN x))) := by
  by_cases e : ofF d n adr (cN x) = 0
  · rw [if_pos e, if_pos e]; exact h
  · rw [if_neg e, if_neg e]
    have hcu := cdCur_0 (cdKd_0 hc)
    have h6 : q.sKind (tab * 6 + cN x) = 6 := by
      have h9 := hc
      rw [cdKd, if_pos (cdKd_0 hc)] at h9
      split at h9
      · rename_i g; omega
      · cases h9
    have hv := h.2.2.2.2 hcu.1
    have hx := (hasF_spec (Nat.lt_of_le_of_lt (hL tab) (by decide)) hcu.2).2
    have hd := (VE_f hv.1 hx e).2.1 h6
    have hf := VE_fr hd
    have hf1 := (FR_3 hf.1).1
    exact ⟨hf.2, h.2.1, by omega, h.2.2.2.1, fun _ => ⟨hd, hv.2⟩⟩
theorem CI_ver {q : SR} {d : Nat → Nat} {n t : Nat} (hn : n ≤ 240) (hB : ∀ k, d k < 256) (hL : ∀ t, q.sLen t ≤ 6) (hX : ∀ j, q.sKind j = 6 → okT (q.sExt j) = true) (ht : t < 4) (h : (vIn q d n t).1 = -1) : CI q d n true (min (leN d n (nI 0) 4) 100000) t (min (leN d n (nI 0) 4) 100000) t :=
  have hm : min (leN d n (nI 0) 4) 100000 < 2 ^ 29 := Nat.lt_of_le_of_lt (Nat.min_le_right _ _) (by decide)
  ⟨ht, ht, hm, hm, fun _ => ⟨vIn_VE hn hB hL hX ht h, vIn_VE hn hB hL hX ht h⟩⟩
theorem PI_add {pItm : Nat → Int32} {held : Nat} {x : Int32} (h : PI pItm held) (hc : cdAdd held = 0) : PI (upd pItm held x.toInt16.toInt32) (held + 1) := by
  refine ⟨?_, fun j => ?_⟩
  · unfold cdAdd at hc; split at hc
    · omega
    · cases hc
  · by_cases e : j = held
    · rw [e, upd_self]; simp
    · rw [upd_ne _ _ e]; exact h.2 j
theorem DI_patch {d : Nat → Nat} {n k : Nat} {v : Int32} (h : DI d n) : DI (va_up d k (u8 v)) n := by
  refine ⟨fun j => ?_, h.2⟩
  by_cases e : j = k
  · rw [e, va_up_self]; exact u8_lt v
  · rw [va_up_ne _ _ e]; exact h.1 j
theorem DI_cut {d : Nat → Nat} {n : Nat} {x : Int32} (h : DI d n) (hc : cdCut n x = 0) : DI d (cN x) := by
  refine ⟨h.1, ?_⟩
  unfold cdCut at hc; split at hc
  · rename_i g
    have := (le_spec (Nat.lt_of_le_of_lt h.2 (by decide)) g.1 g.2).2
    have := h.2
    omega
  · cases hc
/-! FOR BUILD, IN THE LAW -/
theorem haR_rea {q : SR} (hq : SOK q) {r : Nat} {u v : Nat → Bool} (h : ∀ k, k < 16 → u k = v k) : ∀ n k, k < 16 → haR q r u n k = haR q r v n k
  | 0, k, hk => h k hk
  | n + 1, k, hk => by
    rw [haR, haR]
    split
    · unfold mkR
      split
      · by_cases c : k = q.rLnk (r * 6 + n)
        · rw [c, va_up_self, va_up_self]
        · rw [va_up_ne _ _ c, va_up_ne _ _ c]; exact haR_rea hq h n k hk
      · exact haR_rea hq h n k hk
    · exact haR_rea hq h n k hk
theorem whR_rea {q : SR} (hq : SOK q) {fs : Nat} (hf : fs < 16) {u v : Nat → Bool} (h : ∀ k, k < 16 → u k = v k) : ∀ j, (whR q fs u j).1 = (whR q fs v j).1 ∧ ∀ k, k < 16 → (whR q fs u j).2 k = (whR q fs v j).2 k
  | 0 => ⟨rfl, h⟩
  | j + 1 => by
    obtain ⟨i1, i2⟩ := whR_rea hq hf h j
    rw [whR, whR, i1, i2 (fs + 1 - j - 1) (by omega)]
    split
    · exact ⟨rfl, fun k hk => haR_rea hq i2 _ k hk⟩
    · exact ⟨i1, i2⟩
theorem rcR_rea (fs : Nat) (u v : Nat → Bool) : ∀ n k, k < n → rcR fs u n k = rcR fs v n k
  | 0, k, h => absurd h (Nat.not_lt_zero _)
  | n + 1, k, h => by
    rw [rcR, rcR]
    by_cases c : k = n
    · rw [c, va_up_self, va_up_self]
    · rw [va_up_ne _ _ c, va_up_ne _ _ c]; exact rcR_rea fs u v n k (by omega)
theorem cdMB_eq {q : SR} (hq : SOK q) {made : Nat} (hm : made ≤ 16) (u v : Nat → Bool) (b : BS) (x : Int32) : cdMB q made v (asP q (cN x) b).wrt x = cdBuild q made u b x := by
  unfold cdMB cdBuild
  by_cases h : hasF made x = true
  · have hx := (hasF_spec (Nat.lt_of_le_of_lt hm (by decide)) h).2
    rw [if_pos h, if_pos h, (whR_rea hq (show cN x < 16 by omega) (rcR_rea (cN x) v u 16) (cN x + 1)).1]
  · rw [if_neg h, if_neg h]
theorem lb_ex {q : SR} (hq : SOK q) {made : Nat} (hm : made ≤ 16) (row pl th sp sh pile next : Nat → Nat) (b : BS) (x : Int32) (hO : ∀ j, b.off j < 100000 ∧ b.rcp j < 100000) : ∃ kv, (hasF made x = true → ∃ z, RJ q (j0M row (zrI pl 16) th sp sh pile next (cN x)) z) ∧ (hasF made x = true → dnJ (itJ q kv (j0M row (zrI pl 16) th sp sh pile next (cN x)))) ∧ (hasF made x = true → ER (enM (cN x) (itJ q kv (j0M row (zrI pl 16) th sp sh pile next (cN x))).x) (asP q (cN x) b).byt (asP q (cN x) b).wrt (asP q (cN x) b).wid) := by
  by_cases h : hasF made x = true
  · have hx := (hasF_spec (Nat.lt_of_le_of_lt hm (by decide)) h).2
    obtain ⟨kv, h1, h2⟩ := mB_all hq row (zrI pl 16) th sp sh pile next (r := cN x) b (by omega) (fun k hk => zrI_0 _ _ k hk) hO
    exact ⟨kv, fun _ => ⟨_, RJ_0 row (zrI pl 16) th sp sh pile next b (by omega) (fun k hk => zrI_0 _ _ k hk)⟩, fun _ => h1, fun _ => h2⟩
  · exact ⟨0, fun z => absurd z h, fun z => absurd z h, fun z => absurd z h⟩
theorem asP_oi {q : SR} (hq : SOK q) {fs : Nat} (hf : fs < 16) {b : BS} (h : ∀ j, b.off j < 100000 ∧ b.rcp j < 100000) : ∀ j, (asP q fs b).off j < 100000 ∧ (asP q fs b).rcp j < 100000 :=
  (prF_gr hq 16 fs 1 (b0P b) hf (by omega) (Nat.le_refl _) (b0P_bi h)).1.2.2.2.2.2.1
theorem DI_build {w : PW} {f d : Nat → Nat} {n a wid : Nat} (hw : WI w) (h : DI d n) (hE : ER w f a wid) (ha : a ≤ 240) : DI (tkE f d a) a := by
  refine ⟨fun k => ?_, ha⟩
  have hP : PR w f a wid := hE.resolve_right (fun z => by have := z.2.2; omega)
  unfold tkE
  by_cases c : k < a
  · rw [if_pos c, ← hP.2.2.2.2.1 ha (a - k) (by omega) (by omega)]; exact hw.2 _
  · rw [if_neg c]; exact h.1 k
theorem WI_en {q : SR} (hq : SOK q) (row pl th sp sh pile next : Nat → Nat) (r kv : Nat) (h : ∀ i, row i < 256) : WI (enM r (itJ q kv (j0M row pl th sp sh pile next r)).x) := by
  have h5 : WI (itJ q kv (j0M row pl th sp sh pile next r)).x.w := WI_it hq kv _ ⟨Or.inl rfl, h⟩
  have hp : pow8 (itJ q kv (j0M row pl th sp sh pile next r)).x.w.wid := h5.1.elim (fun z => Or.inr (Or.inr (Or.inl z))) (fun z => Or.inr (Or.inr (Or.inr z)))
  exact WI_pn (WI_al h5 hp 4) _ p8_4

/-! THE CLAIM OUT OF ONE WALK OF THE LAW'S BODY. Your part is whole_start (and what it stands on); all else here is the same for every law, but numbers. -/
def R_law : String := "FlatStoreLaw"
def lw_P (b : Addr) (xs : List Int32) (args : Array Value) (s : State) : Prop := args = #[.ref b] ∧ s.IntsAt b xs ∧ xs.length ≤ 2560 ∧ (Jvm.Cond.and given_1 narrow_1).before args s = true
def lw_Q (_ : Array Value) (s : State) (o : Outcome) (t : State) : Prop := o = .returned (some (.int 1)) ∧ Framed s o t [] 601024 7293034
def lw_Z (below : List Frame) (a : Array Value) (s : State) : State → Prop := fun t => ∃ o, t.status = .running ∧ Ended t below o ∧ lw_Q a s o t
/-- the law's own end, with 1 on the stack, nothing written that was there before, its room as the claim has it -/
theorem lw_ret {p : Program} {l : Launch} {e : Env} {s : State} {m : MethodId} {below : List Frame} {meth : Method} {c : Code} {b : Nat} (hx : p.tables.exec = Jvm.exec) (hb : c.code = code) (hr : meth.sig.returnType = ret) (hlocks : meth.locks = false) {pc : Nat} {H : Heap} {ls : Array Slot} (hdg : decode code pc = .ok (.ireturn, 1)) : W p l e room_1 s m #[Value.ref b] below meth c H [] 601024 7293034 (lw_Z below #[Value.ref b] s) (F0 m pc ls [.int 1]) := by
  intro T hT X
  obtain ⟨fs, hret, hrun, hended, hW, hframe⟩ := X.leave (v := some (.int 1)) (hlocks := hlocks) (fun h => by rw [hr] at h; cases h)
  have hmeth' : T.vm.method? m = some meth := X.method'
  refine ⟨T.setFrames fs, ?_, .returned (some (.int 1)), hrun, hended, rfl, ⟨_, rfl⟩, hW, hframe⟩
  jvm_step X.here [X.here.top, hx, hb, hdg, hmeth', hr, ret, narrow_b1]
  (try refine ⟨rfl, ?_⟩); (try refine ⟨rfl, ?_⟩)
  first | (intro acts; rw [hret _ acts rfl rfl rfl]) | rw [hret _ _ rfl rfl rfl]
  exact Steps.refl _
/-- what holds at the law's entry: the machine, the code, the tables' words (any of lw_tbl by 'hts w (by decide +kernel)'), the script of L ints xs at the cell b, what the Statement gives of the start (any of its parts by flat_of_before) -/
def lw_At (p : Program) (s : State) (m : MethodId) (meth : Method) (c : Code) (b L : Nat) (xs : Nat → Int32) : Prop :=
  p.tables.exec = Jvm.exec ∧ c.code = code ∧ meth.sig.returnType = ret ∧ c.maxLocals = 8 ∧ s.vm.findClass R_law = some m.cls ∧ (∀ w ∈ lw_tbl, w.before #[Value.ref b] s = true) ∧ va_X b L xs s s.heap ∧ b < s.heap.size ∧ meth.locks = false ∧ (Jvm.Cond.and given_1 narrow_1).before #[Value.ref b] s = true
theorem gt5 {L i : Nat} (hL : L ≤ 2560) (hi : i ≤ 3000) : nI L - nI 5 < nI i ↔ L < i + 5 := by
  rw [Int32.lt_iff_toInt_lt, Int32.toInt_sub, nI_toInt (by omega), nI_toInt (by omega), nI_toInt (by omega), Int.bmod_eq_of_le (by omega) (by omega)]
  omega
set_option maxHeartbeats 4000000 in
set_option maxRecDepth 100000 in
theorem lw_loop (l : Launch) (hl0 : l.stackTraces = false) {p : Program} {e : Env} {s : State} {m : MethodId} {below : List Frame} {meth : Method} {c : Code} {b L : Nat} {xs : Nat → Int32} (hL9 : L ≤ 2560) (hx : p.tables.exec = Jvm.exec) (hb : c.code = code) (hr : meth.sig.returnType = ret) (hlocks : meth.locks = false) (hml : c.maxLocals = 8) (hown : s.vm.findClass R_L = some m.cls) (hts : ∀ w ∈ lw_tbl, w.before #[Value.ref b] s = true) (hX9 : va_X b L xs s s.heap) (hbl : b < s.heap.size) {A : Nat → Prop} (hA : ∀ q, s.heap.size ≤ q → A q) (hA2 : ∀ q, A q → s.heap.size ≤ q) (D : va_G) (a am : Nat → Nat) (g gm : Nat → ClassId) (tw : Nat) (hK : va_K D vwCl (WoT g) s) (hKm : va_K D vwCl (WmT gm) s) (hZ : kZ tw A s) :
    ∀ (n it : Nat), 5 * it ≤ L + 4 → L + 5 - 5 * it < n → ∀ (H : Heap) (locs : List Loc) (ls : Array Slot), LQ D a am g gm A H → va_S A s.heap H locs → lv_has ls 8 (LV b a am it) → W p l e room_1 s m #[Value.ref b] below meth c H locs (200 + 3 * it) (20000 + 18 * it) (lw_Z below #[Value.ref b] s) (F0 m 23 ls []) := by
  have hbA : ¬ A b := fun z => absurd (hA2 b z) (by omega)
  intro n
  induction n with
  | zero => intro it h1 h2; exact absurd h2 (Nat.not_lt_zero _)
  | succ n ih =>
    intro it h1 h2 H locs ls hQ hS hl
    have kk9 : 5 * it + 5 ≤ L → ∀ (H1 : Heap) (locs1 : List Loc) (ls1 : Array Slot), LQ D a am g gm A H1 → va_S A s.heap H1 locs1 → lv_has ls1 8 (LV b a am it) → W p l e room_1 s m #[Value.ref b] below meth c H1 locs1 (200 + 3 * it + 3) (20000 + 18 * it + 18) (lw_Z below #[Value.ref b] s) (F0 m 1315 ls1 []) := by
      intro h9 H1 locs1 ls1 q1 q2 q3
      have q3 : lv_has ls1 8 [(4, .int (nI (5 * it))), (0, .ref b), (1, .ref (a 0)), (2, .ref (am 0)), (3, .ref (a 27))] := q3
      refine lv_iinc (v := nI (5 * (it + 1))) (lv' := LV b a am (it + 1)) hx hb d_L_law_1315 q3 (k := 0) rfl ((show nI (5 * it) + nI 5 = nI (5 * (it + 1)) from (nI_add _ _).trans (nI_congr (by omega)))) (by decide) rfl (fun ls hl => ?_)
      refine lv_goto (tgt := 23) hx hb d_L_law_1318 (by decide) ?_
      exact ih (it + 1) (by omega) (by omega) H1 locs1 ls q1 q2 hl
    obtain ⟨sLen, sKind, sExt, sMust, rTab, rFil, rNum, rLnk, rLen, rItm, made, pItm, held, dByt, dLen, bByt, bRea, bRec, bItm, bFld, bOff, bOfp, kept, wrt, wid, ent, ver, fAdr, fTab, adr, tab, lf, oV, mNum, mCode, row, mWr, mWid, mOv, mPl, mTh, mSp, mPile, mNext, mSh, mShs, mRea, mWg, mEn, mDp, mAt, mTb, mSt, hI, hP, hPm, hD⟩ := hQ
    have hl : lv_has ls 8 [(4, .int (nI (5 * it))), (0, .ref b), (1, .ref (a 0)), (2, .ref (am 0)), (3, .ref (a 27))] := hl
    have kT : ∀ w ∈ kGW, w ∈ lw_tbl := fun w h => kGW_tbl h
    refine lv_iload hx hb d_L_law_23 (lv_at hl 0 rfl) ?_
    refine lv_aload_n hx hb d_L_law_25 rfl (lv_at hl 1 rfl) ?_
    refine va_slen hx hb hX9 hbl hbA hS d_L_law_26 ?_
    refine lv_eqi (y := nI L) rfl ?_
    refine lv_iconst (v := nI 5) hx hb d_L_law_27 (by decide) ?_
    refine lv_isub hx hb d_L_law_28 ?_
    refine lv_icmp_gt (tgt := 1321) hx hb d_L_law_29 (by decide) (fun c_29 => ?_) (fun c_29 => ?_)
    · refine lv_iconst (v := 1) hx hb d_L_law_1321 (by decide) ?_
      refine va_forget (fun q hq => hA2 _ (hS.2.2 q hq)) ?_
      refine W.widen (k := 601024) (n := 7293034) (by omega) (by omega) ?_
      exact lw_ret hx hb hr hlocks d_L_law_1322
    · have hit : 5 * it + 5 ≤ L := by have h9 := mt (gt5 hL9 (show 5 * it ≤ 3000 by omega)).mpr c_29; omega
      refine lv_aload_n hx hb d_L_law_32 rfl (lv_at hl 1 rfl) ?_
      refine lv_iload hx hb d_L_law_33 (lv_at hl 0 rfl) ?_
      refine va_sld hx hb hX9 hbl hbA hS (vp_in_nI (show 5 * it < L by omega) (by omega)) d_L_law_35 ?_
      refine lv_bipush (v := nI 31) hx hb d_L_law_36 (by decide) ?_
      refine lv_iand hx hb d_L_law_38 ?_
      generalize (xs (nI (5 * it)).toNatClampNeg) &&& nI 31 = zz
      by_cases s_39_0 : zz = (0 : Int32)
      · skip
        refine lv_eqi (y := nI 0) (by rw [s_39_0]; decide) ?_
        refine lv_tableIn (off := 89) (tgt := 128) hx hb d_L_law_39 (by decide) (by decide) (by decide) (by decide) ?_
        exact lc_field l hl0 hL9 hx hb hml hown hts hX9 hbl hA hbA D a am g gm tw hK hKm hZ hit (by omega) (by omega) sLen sKind sExt sMust rTab rFil rNum rLnk rLen rItm made pItm held dByt dLen bByt bRea bRec bItm bFld bOff bOfp kept wrt wid ent ver fAdr fTab adr tab lf oV mNum mCode row mWr mWid mOv mPl mTh mSp mPile mNext mSh mShs mRea mWg mEn mDp mAt mTb mSt hI hP hPm hD hS hl (kk9 hit)
      by_cases s_39_1 : zz = (1 : Int32)
      · skip
        refine lv_eqi (y := nI 1) (by rw [s_39_1]; decide) ?_
        refine lv_tableIn (off := 197) (tgt := 236) hx hb d_L_law_39 (by decide) (by decide) (by decide) (by decide) ?_
        exact lc_make l hl0 hL9 hx hb hml hown hts hX9 hbl hA hbA D a am g gm tw hK hKm hZ hit (by omega) (by omega) sLen sKind sExt sMust rTab rFil rNum rLnk rLen rItm made pItm held dByt dLen bByt bRea bRec bItm bFld bOff bOfp kept wrt wid ent ver fAdr fTab adr tab lf oV mNum mCode row mWr mWid mOv mPl mTh mSp mPile mNext mSh mShs mRea mWg mEn mDp mAt mTb mSt hI hP hPm hD hS hl (kk9 hit)
      by_cases s_39_2 : zz = (2 : Int32)
      · skip
        refine lv_eqi (y := nI 2) (by rw [s_39_2]; decide) ?_
        refine lv_tableIn (off := 253) (tgt := 292) hx hb d_L_law_39 (by decide) (by decide) (by decide) (by decide) ?_
        exact lc_number l hl0 hL9 hx hb hml hown hts hX9 hbl hA hbA D a am g gm tw hK hKm hZ hit (by omega) (by omega) sLen sKind sExt sMust rTab rFil rNum rLnk rLen rItm made pItm held dByt dLen bByt bRea bRec bItm bFld bOff bOfp kept wrt wid ent ver fAdr fTab adr tab lf oV mNum mCode row mWr mWid mOv mPl mTh mSp mPile mNext mSh mShs mRea mWg mEn mDp mAt mTb mSt hI hP hPm hD hS hl (kk9 hit)
      by_cases s_39_3 : zz = (3 : Int32)
      · skip
        refine lv_eqi (y := nI 3) (by rw [s_39_3]; decide) ?_
        refine lv_tableIn (off := 364) (tgt := 403) hx hb d_L_law_39 (by decide) (by decide) (by decide) (by decide) ?_
        exact lc_add l hl0 hL9 hx hb hml hown hts hX9 hbl hA hbA D a am g gm tw hK hKm hZ hit (by omega) (by omega) sLen sKind sExt sMust rTab rFil rNum rLnk rLen rItm made pItm held dByt dLen bByt bRea bRec bItm bFld bOff bOfp kept wrt wid ent ver fAdr fTab adr tab lf oV mNum mCode row mWr mWid mOv mPl mTh mSp mPile mNext mSh mShs mRea mWg mEn mDp mAt mTb mSt hI hP hPm hD hS hl (kk9 hit)
      by_cases s_39_4 : zz = (4 : Int32)
      · skip
        refine lv_eqi (y := nI 4) (by rw [s_39_4]; decide) ?_
        refine lv_tableIn (off := 420) (tgt := 459) hx hb d_L_law_39 (by decide) (by decide) (by decide) (by decide) ?_
        exact lc_fill l hl0 hL9 hx hb hml hown hts hX9 hbl hA hbA D a am g gm tw hK hKm hZ hit (by omega) (by omega) sLen sKind sExt sMust rTab rFil rNum rLnk rLen rItm made pItm held dByt dLen bByt bRea bRec bItm bFld bOff bOfp kept wrt wid ent ver fAdr fTab adr tab lf oV mNum mCode row mWr mWid mOv mPl mTh mSp mPile mNext mSh mShs mRea mWg mEn mDp mAt mTb mSt hI hP hPm hD hS hl (kk9 hit)
      by_cases s_39_5 : zz = (5 : Int32)
      · skip
        refine lv_eqi (y := nI 5) (by rw [s_39_5]; decide) ?_
        refine lv_tableIn (off := 488) (tgt := 527) hx hb d_L_law_39 (by decide) (by decide) (by decide) (by decide) ?_
        exact lc_link l hl0 hL9 hx hb hml hown hts hX9 hbl hA hbA D a am g gm tw hK hKm hZ hit (by omega) (by omega) sLen sKind sExt sMust rTab rFil rNum rLnk rLen rItm made pItm held dByt dLen bByt bRea bRec bItm bFld bOff bOfp kept wrt wid ent ver fAdr fTab adr tab lf oV mNum mCode row mWr mWid mOv mPl mTh mSp mPile mNext mSh mShs mRea mWg mEn mDp mAt mTb mSt hI hP hPm hD hS hl (kk9 hit)
      by_cases s_39_6 : zz = (6 : Int32)
      · skip
        refine lv_eqi (y := nI 6) (by rw [s_39_6]; decide) ?_
        refine lv_tableIn (off := 568) (tgt := 607) hx hb d_L_law_39 (by decide) (by decide) (by decide) (by decide) ?_
        exact lc_unset l hl0 hL9 hx hb hml hown hts hX9 hbl hA hbA D a am g gm tw hK hKm hZ hit (by omega) (by omega) sLen sKind sExt sMust rTab rFil rNum rLnk rLen rItm made pItm held dByt dLen bByt bRea bRec bItm bFld bOff bOfp kept wrt wid ent ver fAdr fTab adr tab lf oV mNum mCode row mWr mWid mOv mPl mTh mSp mPile mNext mSh mShs mRea mWg mEn mDp mAt mTb mSt hI hP hPm hD hS hl (kk9 hit)
      by_cases s_39_7 : zz = (7 : Int32)
      · skip
        refine lv_eqi (y := nI 7) (by rw [s_39_7]; decide) ?_
        refine lv_tableIn (off := 636) (tgt := 675) hx hb d_L_law_39 (by decide) (by decide) (by decide) (by decide) ?_
        exact lc_build l hl0 hL9 hx hb hml hown hts hX9 hbl hA hbA D a am g gm tw hK hKm hZ hit (by omega) (by omega) sLen sKind sExt sMust rTab rFil rNum rLnk rLen rItm made pItm held dByt dLen bByt bRea bRec bItm bFld bOff bOfp kept wrt wid ent ver fAdr fTab adr tab lf oV mNum mCode row mWr mWid mOv mPl mTh mSp mPile mNext mSh mShs mRea mWg mEn mDp mAt mTb mSt hI hP hPm hD hS hl (kk9 hit)
      by_cases s_39_8 : zz = (8 : Int32)
      · skip
        refine lv_eqi (y := nI 8) (by rw [s_39_8]; decide) ?_
        refine lv_tableIn (off := 692) (tgt := 731) hx hb d_L_law_39 (by decide) (by decide) (by decide) (by decide) ?_
        exact lc_at l hl0 hL9 hx hb hml hown hts hX9 hbl hA hbA D a am g gm tw hK hKm hZ hit (by omega) (by omega) sLen sKind sExt sMust rTab rFil rNum rLnk rLen rItm made pItm held dByt dLen bByt bRea bRec bItm bFld bOff bOfp kept wrt wid ent ver fAdr fTab adr tab lf oV mNum mCode row mWr mWid mOv mPl mTh mSp mPile mNext mSh mShs mRea mWg mEn mDp mAt mTb mSt hI hP hPm hD hS hl (kk9 hit)
      by_cases s_39_9 : zz = (9 : Int32)
      · skip
        refine lv_eqi (y := nI 9) (by rw [s_39_9]; decide) ?_
        refine lv_tableIn (off := 748) (tgt := 787) hx hb d_L_law_39 (by decide) (by decide) (by decide) (by decide) ?_
        exact lc_patch l hl0 hL9 hx hb hml hown hts hX9 hbl hA hbA D a am g gm tw hK hKm hZ hit (by omega) (by omega) sLen sKind sExt sMust rTab rFil rNum rLnk rLen rItm made pItm held dByt dLen bByt bRea bRec bItm bFld bOff bOfp kept wrt wid ent ver fAdr fTab adr tab lf oV mNum mCode row mWr mWid mOv mPl mTh mSp mPile mNext mSh mShs mRea mWg mEn mDp mAt mTb mSt hI hP hPm hD hS hl (kk9 hit)
      by_cases s_39_10 : zz = (10 : Int32)
      · skip
        refine lv_eqi (y := nI 10) (by rw [s_39_10]; decide) ?_
        refine lv_tableIn (off := 816) (tgt := 855) hx hb d_L_law_39 (by decide) (by decide) (by decide) (by decide) ?_
        exact lc_cut l hl0 hL9 hx hb hml hown hts hX9 hbl hA hbA D a am g gm tw hK hKm hZ hit (by omega) (by omega) sLen sKind sExt sMust rTab rFil rNum rLnk rLen rItm made pItm held dByt dLen bByt bRea bRec bItm bFld bOff bOfp kept wrt wid ent ver fAdr fTab adr tab lf oV mNum mCode row mWr mWid mOv mPl mTh mSp mPile mNext mSh mShs mRea mWg mEn mDp mAt mTb mSt hI hP hPm hD hS hl (kk9 hit)
      by_cases s_39_11 : zz = (11 : Int32)
      · skip
        refine lv_eqi (y := nI 11) (by rw [s_39_11]; decide) ?_
        refine lv_tableIn (off := 872) (tgt := 911) hx hb d_L_law_39 (by decide) (by decide) (by decide) (by decide) ?_
        exact lc_verify l hl0 hL9 hx hb hml hown hts hX9 hbl hA hbA D a am g gm tw hK hKm hZ hit (by omega) (by omega) sLen sKind sExt sMust rTab rFil rNum rLnk rLen rItm made pItm held dByt dLen bByt bRea bRec bItm bFld bOff bOfp kept wrt wid ent ver fAdr fTab adr tab lf oV mNum mCode row mWr mWid mOv mPl mTh mSp mPile mNext mSh mShs mRea mWg mEn mDp mAt mTb mSt hI hP hPm hD hS hl (kk9 hit)
      by_cases s_39_12 : zz = (12 : Int32)
      · skip
        refine lv_eqi (y := nI 12) (by rw [s_39_12]; decide) ?_
        refine lv_tableIn (off := 928) (tgt := 967) hx hb d_L_law_39 (by decide) (by decide) (by decide) (by decide) ?_
        exact lc_fault l hl0 hL9 hx hb hml hown hts hX9 hbl hA hbA D a am g gm tw hK hKm hZ hit (by omega) (by omega) sLen sKind sExt sMust rTab rFil rNum rLnk rLen rItm made pItm held dByt dLen bByt bRea bRec bItm bFld bOff bOfp kept wrt wid ent ver fAdr fTab adr tab lf oV mNum mCode row mWr mWid mOv mPl mTh mSp mPile mNext mSh mShs mRea mWg mEn mDp mAt mTb mSt hI hP hPm hD hS hl (kk9 hit)
      by_cases s_39_13 : zz = (13 : Int32)
      · skip
        refine lv_eqi (y := nI 13) (by rw [s_39_13]; decide) ?_
        refine lv_tableIn (off := 941) (tgt := 980) hx hb d_L_law_39 (by decide) (by decide) (by decide) (by decide) ?_
        exact lc_top l hl0 hL9 hx hb hml hown hts hX9 hbl hA hbA D a am g gm tw hK hKm hZ hit (by omega) (by omega) sLen sKind sExt sMust rTab rFil rNum rLnk rLen rItm made pItm held dByt dLen bByt bRea bRec bItm bFld bOff bOfp kept wrt wid ent ver fAdr fTab adr tab lf oV mNum mCode row mWr mWid mOv mPl mTh mSp mPile mNext mSh mShs mRea mWg mEn mDp mAt mTb mSt hI hP hPm hD hS hl (kk9 hit)
      by_cases s_39_14 : zz = (14 : Int32)
      · skip
        refine lv_eqi (y := nI 14) (by rw [s_39_14]; decide) ?_
        refine lv_tableIn (off := 985) (tgt := 1024) hx hb d_L_law_39 (by decide) (by decide) (by decide) (by decide) ?_
        exact lc_down l hl0 hL9 hx hb hml hown hts hX9 hbl hA hbA D a am g gm tw hK hKm hZ hit (by omega) (by omega) sLen sKind sExt sMust rTab rFil rNum rLnk rLen rItm made pItm held dByt dLen bByt bRea bRec bItm bFld bOff bOfp kept wrt wid ent ver fAdr fTab adr tab lf oV mNum mCode row mWr mWid mOv mPl mTh mSp mPile mNext mSh mShs mRea mWg mEn mDp mAt mTb mSt hI hP hPm hD hS hl (kk9 hit)
      by_cases s_39_15 : zz = (15 : Int32)
      · skip
        refine lv_eqi (y := nI 15) (by rw [s_39_15]; decide) ?_
        refine lv_tableIn (off := 1041) (tgt := 1080) hx hb d_L_law_39 (by decide) (by decide) (by decide) (by decide) ?_
        exact lc_value l hl0 hL9 hx hb hml hown hts hX9 hbl hA hbA D a am g gm tw hK hKm hZ hit (by omega) (by omega) sLen sKind sExt sMust rTab rFil rNum rLnk rLen rItm made pItm held dByt dLen bByt bRea bRec bItm bFld bOff bOfp kept wrt wid ent ver fAdr fTab adr tab lf oV mNum mCode row mWr mWid mOv mPl mTh mSp mPile mNext mSh mShs mRea mWg mEn mDp mAt mTb mSt hI hP hPm hD hS hl (kk9 hit)
      by_cases s_39_16 : zz = (16 : Int32)
      · skip
        refine lv_eqi (y := nI 16) (by rw [s_39_16]; decide) ?_
        refine lv_tableIn (off := 1096) (tgt := 1135) hx hb d_L_law_39 (by decide) (by decide) (by decide) (by decide) ?_
        exact lc_size l hl0 hL9 hx hb hml hown hts hX9 hbl hA hbA D a am g gm tw hK hKm hZ hit (by omega) (by omega) sLen sKind sExt sMust rTab rFil rNum rLnk rLen rItm made pItm held dByt dLen bByt bRea bRec bItm bFld bOff bOfp kept wrt wid ent ver fAdr fTab adr tab lf oV mNum mCode row mWr mWid mOv mPl mTh mSp mPile mNext mSh mShs mRea mWg mEn mDp mAt mTb mSt hI hP hPm hD hS hl (kk9 hit)
      by_cases s_39_17 : zz = (17 : Int32)
      · skip
        refine lv_eqi (y := nI 17) (by rw [s_39_17]; decide) ?_
        refine lv_tableIn (off := 1152) (tgt := 1191) hx hb d_L_law_39 (by decide) (by decide) (by decide) (by decide) ?_
        exact lc_element l hl0 hL9 hx hb hml hown hts hX9 hbl hA hbA D a am g gm tw hK hKm hZ hit (by omega) (by omega) sLen sKind sExt sMust rTab rFil rNum rLnk rLen rItm made pItm held dByt dLen bByt bRea bRec bItm bFld bOff bOfp kept wrt wid ent ver fAdr fTab adr tab lf oV mNum mCode row mWr mWid mOv mPl mTh mSp mPile mNext mSh mShs mRea mWg mEn mDp mAt mTb mSt hI hP hPm hD hS hl (kk9 hit)
      by_cases s_39_18 : zz = (18 : Int32)
      · skip
        refine lv_eqi (y := nI 18) (by rw [s_39_18]; decide) ?_
        refine lv_tableIn (off := 1220) (tgt := 1259) hx hb d_L_law_39 (by decide) (by decide) (by decide) (by decide) ?_
        exact lc_count l hl0 hL9 hx hb hml hown hts hX9 hbl hA hbA D a am g gm tw hK hKm hZ hit (by omega) (by omega) sLen sKind sExt sMust rTab rFil rNum rLnk rLen rItm made pItm held dByt dLen bByt bRea bRec bItm bFld bOff bOfp kept wrt wid ent ver fAdr fTab adr tab lf oV mNum mCode row mWr mWid mOv mPl mTh mSp mPile mNext mSh mShs mRea mWg mEn mDp mAt mTb mSt hI hP hPm hD hS hl (kk9 hit)
      refine lv_tableOut (tgt := 1315) hx hb d_L_law_39 (by have q0 := lv_neT (a := 0) s_39_0 (by decide); have q1 := lv_neT (a := 1) s_39_1 (by decide); have q2 := lv_neT (a := 2) s_39_2 (by decide); have q3 := lv_neT (a := 3) s_39_3 (by decide); have q4 := lv_neT (a := 4) s_39_4 (by decide); have q5 := lv_neT (a := 5) s_39_5 (by decide); have q6 := lv_neT (a := 6) s_39_6 (by decide); have q7 := lv_neT (a := 7) s_39_7 (by decide); have q8 := lv_neT (a := 8) s_39_8 (by decide); have q9 := lv_neT (a := 9) s_39_9 (by decide); have q10 := lv_neT (a := 10) s_39_10 (by decide); have q11 := lv_neT (a := 11) s_39_11 (by decide); have q12 := lv_neT (a := 12) s_39_12 (by decide); have q13 := lv_neT (a := 13) s_39_13 (by decide); have q14 := lv_neT (a := 14) s_39_14 (by decide); have q15 := lv_neT (a := 15) s_39_15 (by decide); have q16 := lv_neT (a := 16) s_39_16 (by decide); have q17 := lv_neT (a := 17) s_39_17 (by decide); have q18 := lv_neT (a := 18) s_39_18 (by decide); omega) (by decide) ?_
      refine W.widen (k := 200 + 3 * it + 3) (n := 20000 + 18 * it + 18) (by omega) (by omega) ?_
      exact kk9 hit _ _ _ ⟨sLen, sKind, sExt, sMust, rTab, rFil, rNum, rLnk, rLen, rItm, made, pItm, held, dByt, dLen, bByt, bRea, bRec, bItm, bFld, bOff, bOfp, kept, wrt, wid, ent, ver, fAdr, fTab, adr, tab, lf, oV, mNum, mCode, row, mWr, mWid, mOv, mPl, mTh, mSp, mPile, mNext, mSh, mShs, mRea, mWg, mEn, mDp, mAt, mTb, mSt, hI, hP, hPm, hD⟩ hS hl

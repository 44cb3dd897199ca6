/-! CALLS in the standard form -/
def kI (y : MethodName) (bytes : ByteArray) (maxL : Nat) (ret : Option FieldType) (n : Nat) : Prop := Cond.code y bytes maxL ret ∈ kGW ∧ Cond.initialized y.cls ∈ kGW ∧ (y.cls ≠ "java/lang/invoke/MethodHandle" ∧ y.cls ≠ "java/lang/invoke/VarHandle") ∧ (parseMethodDescriptor y.desc).map (fun d => d.parameters.length) = some n
def kIV (y : MethodName) (bytes : ByteArray) (maxL : Nat) (ret : Option FieldType) (n : Nat) : Prop := kI y bytes maxL ret n ∧ Cond.instanceMethod y ∈ kGW ∧ Cond.selects y.cls y y ∈ kGW
def kIS (y : MethodName) (bytes : ByteArray) (maxL : Nat) (ret : Option FieldType) (n : Nat) : Prop := kI y bytes maxL ret n ∧ Cond.static y ∈ kGW
section KCa
variable {p : Program} {l : Launch} {e : Env} {R : Room} {s : State} {m : MethodId} {args : Array Value} {below : List Frame} {meth : Method} {c : Code} {H : Heap} {locs : List Loc} {cells slots : Nat} {Q : State → Prop}
variable {cc : ByteArray} {pc nL : Nat} {ls : Array Slot} {rest st0 : List Value} {D : va_G} {cl : List vw_C} {A : Nat → Prop} {tys : List (ClassId × FieldType)} {tw : Nat}
variable {y : MethodName} {bytes : ByteArray} {maxL n index : Nat} {ret : Option FieldType} {rm : Room} {b : Nat} {As : List Value} {w w' wx : va_W} {rv : Option Value} {C : Prop} {EX : String → Prop} {Ts : List Cond} {own host : String}
theorem k_cb (hI : kI y bytes maxL ret n) (hT : ∀ w ∈ kGW, w ∈ Ts) (hts : ∀ w ∈ Ts, w.before args s = true) (hlk : Cond.methodLink own index y ∈ kGW) (hR : rm.frames + 1 ≤ R.frames ∧ 8 + (maxL + 11) + rm.locals ≤ R.locals) : CallB R s args own index y bytes maxL ret (kW y bytes maxL ret) rm rm.cells rm.slots n :=
  callB_of n hts (kW_in hT hI.1) rfl rfl rfl (hts _ (hT _ hI.2.1)) (hts _ (hT _ hlk)) ⟨hI.2.2.1.1, hI.2.2.1.2, hI.2.2.2⟩ hR
theorem k_cn (hI : kI y bytes maxL ret n) (hT : ∀ w ∈ kGW, w ∈ Ts) (hts : ∀ w ∈ Ts, w.before args s = true) (hN : kN s) (hlk : Cond.methodLinkNest own index y host ∈ kNW) (hR : rm.frames + 1 ≤ R.frames ∧ 8 + (maxL + 11) + rm.locals ≤ R.locals) : va_CN R s args own index y host bytes maxL ret (kW y bytes maxL ret) rm rm.cells rm.slots n :=
  va_cnB n hts (kW_in hT hI.1) rfl rfl rfl (hN _ hlk) (hts _ (hT _ hI.2.1)) ⟨hI.2.2.1.1, hI.2.2.1.2, hI.2.2.2⟩ hR
theorem k_keep {A0 A1 : Nat → Prop} {H0 : Heap} {free : Addr → Prop} {st₀ t T' : State} {L : List Loc} (h0 : st₀.heap = H) (e1 : T'.heap = t.heap) (hS : va_S A0 H0 H locs) (hA : ∀ q, A1 q → A0 q) (hf : ∀ q, free q → A0 q) (hL : ∀ q ∈ L, free q.base) (hF : va_F A1 st₀ t) :
    (∀ q : Nat, q < H.size → ¬ A1 q → T'.heap[q]? = H[q]?) ∧ va_S A0 H0 T'.heap (locs ++ L) := by
  obtain ⟨hz, hk⟩ := hF
  rw [h0] at hz hk
  refine ⟨fun q h1 h2 => by rw [e1]; exact hk q h1 h2, Nat.le_trans hS.1 (by rw [e1]; exact hz), fun q h1 h2 => ?_, fun q hq => ?_⟩
  · rw [e1, hk q (Nat.lt_of_lt_of_le h1 hS.1) (fun z => h2 (hA q z))]
    exact hS.2.1 q h1 h2
  · exact (List.mem_append.mp hq).elim (hS.2.2 q) (fun h => hf _ (hL q h))
/-- what a caller lays before a callee -/
theorem k_pre {as : List Value} (hP : va_P D cl w H) (hK : va_K D cl tys s) (hD : va_D A w) (hS : va_S A s.heap H locs) (hA : ∀ q, s.heap.size ≤ q → A q) (hZ : kZ tw A s) : ∀ U : State, U.heap = H → s.WarmedH U.vm → kPc D cl tys tw as w H.size as.toArray U :=
  fun U hU hW => ⟨rfl, by rw [hU], ⟨by rw [hU]; exact hP, va_K.moved hW.alike hK, hD.weaken (fun _ _ _ _ => trivial)⟩, kZ_call hZ hS hW hU (kA_sub hD hS hA) (kNS_of (by rw [hU]; exact hP) (by rw [hU]))⟩
/-- behind a call that returns: the callee's world is the caller's -/
theorem k_back {mc ms : Nat} {a : Array Value} {as : List Value} (hr : va_Run p l e R s m args below meth c H locs cells slots mc ms (F0 m pc ls st0) rest (kQ D cl tys (va_A w H.size) C rv w' a) (va_A w H.size)) (hD : va_D A w) (hS : va_S A s.heap H locs) (hA : ∀ q, s.heap.size ≤ q → A q)
    (kk : ∀ (H1 : Heap) (locs1 : List Loc), C → va_P D cl w' H1 → va_D A w' → va_S A s.heap H1 locs1 → W p l e R s m args below meth c H1 locs1 (cells + mc) (slots + ms) Q (F0 m (pc + 3) ls (rv.toList ++ rest))) : W p l e R s m args below meth c H locs cells slots Q (F0 m pc ls st0) := by
  intro T hT X
  obtain ⟨v, st₀, t, T', L, h0, X', hL, e1, e2, ⟨⟨hC, hv⟩, ⟨hP1, -, hD1⟩, hF⟩, st⟩ := hr T hT X
  cases hv
  have hsub := kA_sub hD hS hA
  obtain ⟨k2, k3⟩ := k_keep h0 e1 hS hsub hsub hL hF
  obtain ⟨t2, a1, b1⟩ := kk T'.heap (locs ++ L) hC (by rw [e1]; exact hP1) (hD1.weaken (fun _ q _ h => hsub q.1 h)) k3 T' rfl X'
  exact ⟨t2, st t2 a1, b1⟩
/-- invokevirtual, the callee returns -/
theorem k_callV (hM : kM l y bytes maxL ret rm D cl tys tw (.ref b :: As) w rv w') (hI : kIV y bytes maxL ret n) (hlk : Cond.methodLink own index y ∈ kGW) (q0 ci : Nat) {fs : List Value} {q : vw_C} (hci : cl[ci]? = some q) (hqc : q.1 = y.cls) (he : w[q0]? = some (b, .inr (ci, fs)))
    (hT : ∀ w ∈ kGW, w ∈ Ts) (hx : p.tables.exec = Jvm.exec) (hb : c.code = cc) (hml : c.maxLocals = nL) (hown : s.vm.findClass own = some m.cls) (hts : ∀ w ∈ Ts, w.before args s = true) (hR : rm.frames + 1 ≤ R.frames ∧ 8 + (maxL + 11) + rm.locals ≤ R.locals) (hcs : cells + rm.cells ≤ R.cells ∧ slots + rm.slots ≤ R.slots)
    (hK : va_K D cl tys s) (hP : va_P D cl w H) (hD : va_D A w) (hS : va_S A s.heap H locs) (hA : ∀ q, s.heap.size ≤ q → A q) (hZ : kZ tw A s) (hsz : ls.size = nL) (hn : As.length = n) (hst : st0 = As.reverse ++ .ref b :: rest) (h8 : (rest.map fun v => v.category).sum ≤ 8) (hdg : decode cc pc = .ok (.invokevirtual index, 3))
    (kk : ∀ (H1 : Heap) (locs1 : List Loc), va_P D cl w' H1 → va_D A w' → va_S A s.heap H1 locs1 → W p l e R s m args below meth c H1 locs1 (cells + rm.cells) (slots + rm.slots) Q (F0 m (pc + 3) ls (rv.toList ++ rest))) : W p l e R s m args below meth c H locs cells slots Q (F0 m pc ls st0) := by
  have hrc := va_recv hK hP hci he
  rw [hqc] at hrc
  exact k_back (as := As) (va_runV (As := As) (rest := rest) (C := y.cls) ⟨hx, hb, hml, hown, hts⟩ (hM H.size) ⟨k_cb hI.1 hT hts hlk hR, hts _ (hT _ hI.2.1), hts _ (hT _ hI.2.2)⟩ ⟨kPc_blind, hrc, k_pre hP hK hD hS hA hZ⟩ rfl hn hsz hst (lv_room h8) hdg hcs) hD hS hA (fun H1 locs1 _ => kk H1 locs1)
/-- .. of a nest mate's private method -/
theorem k_callVN (hM : kM l y bytes maxL ret rm D cl tys tw (.ref b :: As) w rv w') (hI : kIV y bytes maxL ret n) (hlk : Cond.methodLinkNest own index y host ∈ kNW) (q0 ci : Nat) {fs : List Value} {q : vw_C} (hci : cl[ci]? = some q) (hqc : q.1 = y.cls) (he : w[q0]? = some (b, .inr (ci, fs)))
    (hT : ∀ w ∈ kGW, w ∈ Ts) (hx : p.tables.exec = Jvm.exec) (hb : c.code = cc) (hml : c.maxLocals = nL) (hown : s.vm.findClass own = some m.cls) (hts : ∀ w ∈ Ts, w.before args s = true) (hR : rm.frames + 1 ≤ R.frames ∧ 8 + (maxL + 11) + rm.locals ≤ R.locals) (hcs : cells + rm.cells ≤ R.cells ∧ slots + rm.slots ≤ R.slots)
    (hK : va_K D cl tys s) (hP : va_P D cl w H) (hD : va_D A w) (hS : va_S A s.heap H locs) (hA : ∀ q, s.heap.size ≤ q → A q) (hZ : kZ tw A s) (hsz : ls.size = nL) (hn : As.length = n) (hst : st0 = As.reverse ++ .ref b :: rest) (h8 : (rest.map fun v => v.category).sum ≤ 8) (hdg : decode cc pc = .ok (.invokevirtual index, 3))
    (kk : ∀ (H1 : Heap) (locs1 : List Loc), va_P D cl w' H1 → va_D A w' → va_S A s.heap H1 locs1 → W p l e R s m args below meth c H1 locs1 (cells + rm.cells) (slots + rm.slots) Q (F0 m (pc + 3) ls (rv.toList ++ rest))) : W p l e R s m args below meth c H locs cells slots Q (F0 m pc ls st0) := by
  have hrc := va_recv hK hP hci he
  rw [hqc] at hrc
  exact k_back (as := As) (va_runVN (As := As) (rest := rest) (C := y.cls) ⟨hx, hb, hml, hown, hts⟩ (hM H.size) ⟨k_cn hI.1 hT hts hZ.2.2.1 hlk hR, hts _ (hT _ hI.2.1), hts _ (hT _ hI.2.2)⟩ ⟨kPc_blind, hrc, k_pre hP hK hD hS hA hZ⟩ rfl hn hsz hst (lv_room h8) hdg hcs) hD hS hA (fun H1 locs1 _ => kk H1 locs1)
/-- invokestatic -/
theorem k_callS (hM : kM l y bytes maxL ret rm D cl tys tw As w rv w') (hI : kIS y bytes maxL ret n) (hlk : Cond.methodLink own index y ∈ kGW)
    (hT : ∀ w ∈ kGW, w ∈ Ts) (hx : p.tables.exec = Jvm.exec) (hb : c.code = cc) (hml : c.maxLocals = nL) (hown : s.vm.findClass own = some m.cls) (hts : ∀ w ∈ Ts, w.before args s = true) (hR : rm.frames + 1 ≤ R.frames ∧ 8 + (maxL + 11) + rm.locals ≤ R.locals) (hcs : cells + rm.cells ≤ R.cells ∧ slots + rm.slots ≤ R.slots)
    (hK : va_K D cl tys s) (hP : va_P D cl w H) (hD : va_D A w) (hS : va_S A s.heap H locs) (hA : ∀ q, s.heap.size ≤ q → A q) (hZ : kZ tw A s) (hsz : ls.size = nL) (hn : As.length = n) (hst : st0 = As.reverse ++ rest) (h8 : (rest.map fun v => v.category).sum ≤ 8) (hdg : decode cc pc = .ok (.invokestatic index, 3))
    (kk : ∀ (H1 : Heap) (locs1 : List Loc), va_P D cl w' H1 → va_D A w' → va_S A s.heap H1 locs1 → W p l e R s m args below meth c H1 locs1 (cells + rm.cells) (slots + rm.slots) Q (F0 m (pc + 3) ls (rv.toList ++ rest))) : W p l e R s m args below meth c H locs cells slots Q (F0 m pc ls st0) :=
  k_back (as := As) (va_runS (As := As) (rest := rest) ⟨hx, hb, hml, hown, hts⟩ (hM H.size) ⟨k_cb hI.1 hT hts hlk hR, hts _ (hT _ hI.2)⟩ ⟨kPc_blind, k_pre hP hK hD hS hA hZ⟩ rfl hn hsz hst (lv_room h8) hdg hcs) hD hS hA (fun H1 locs1 _ => kk H1 locs1)
theorem k_callSN (hM : kM l y bytes maxL ret rm D cl tys tw As w rv w') (hI : kIS y bytes maxL ret n) (hlk : Cond.methodLinkNest own index y host ∈ kNW)
    (hT : ∀ w ∈ kGW, w ∈ Ts) (hx : p.tables.exec = Jvm.exec) (hb : c.code = cc) (hml : c.maxLocals = nL) (hown : s.vm.findClass own = some m.cls) (hts : ∀ w ∈ Ts, w.before args s = true) (hR : rm.frames + 1 ≤ R.frames ∧ 8 + (maxL + 11) + rm.locals ≤ R.locals) (hcs : cells + rm.cells ≤ R.cells ∧ slots + rm.slots ≤ R.slots)
    (hK : va_K D cl tys s) (hP : va_P D cl w H) (hD : va_D A w) (hS : va_S A s.heap H locs) (hA : ∀ q, s.heap.size ≤ q → A q) (hZ : kZ tw A s) (hsz : ls.size = nL) (hn : As.length = n) (hst : st0 = As.reverse ++ rest) (h8 : (rest.map fun v => v.category).sum ≤ 8) (hdg : decode cc pc = .ok (.invokestatic index, 3))
    (kk : ∀ (H1 : Heap) (locs1 : List Loc), va_P D cl w' H1 → va_D A w' → va_S A s.heap H1 locs1 → W p l e R s m args below meth c H1 locs1 (cells + rm.cells) (slots + rm.slots) Q (F0 m (pc + 3) ls (rv.toList ++ rest))) : W p l e R s m args below meth c H locs cells slots Q (F0 m pc ls st0) :=
  k_back (as := As) (va_runSN (As := As) (rest := rest) ⟨hx, hb, hml, hown, hts⟩ (hM H.size) ⟨k_cn hI.1 hT hts hZ.2.2.1 hlk hR, hts _ (hT _ hI.2), trivial⟩ ⟨kPc_blind, k_pre hP hK hD hS hA hZ⟩ rfl hn hsz hst (lv_room h8) hdg hcs) hD hS hA (fun H1 locs1 _ => kk H1 locs1)
/-! ENDS -/
theorem k_iret {v r : Int32} (hx : p.tables.exec = Jvm.exec) (hb : c.code = cc) (hr : meth.sig.returnType = some .int) (hlocks : meth.locks = false) (hK : va_K D cl tys s) (hP : va_P D cl w H) (hD : va_D A w) (hS : va_S A s.heap H locs) (hC : C) (hv : v = r) (hw : w = w') (hdg : decode cc pc = .ok (.ireturn, 1)) :
    W p l e R s m args below meth c H locs cells slots (MQ below (kQ D cl tys A C (some (.int r)) w') args s cells slots A) (F0 m pc ls [.int v]) := by
  subst hv; subst hw
  exact W.iret hx hb hr (fun t ht hW => ⟨⟨hC, rfl⟩, ⟨by rw [ht]; exact hP, va_K.moved hW.alike hK, hD⟩, hS.F ht⟩) hS.2.2 hdg hlocks
theorem k_zret {v r : Int32} (hx : p.tables.exec = Jvm.exec) (hb : c.code = cc) (hr : meth.sig.returnType = some .boolean) (hlocks : meth.locks = false) (hK : va_K D cl tys s) (hP : va_P D cl w H) (hD : va_D A w) (hS : va_S A s.heap H locs) (hC : C) (hv : v = r) (hw : w = w') (hn : narrow .boolean (.int r) = .int r) (hdg : decode cc pc = .ok (.ireturn, 1)) :
    W p l e R s m args below meth c H locs cells slots (MQ below (kQ D cl tys A C (some (.int r)) w') args s cells slots A) (F0 m pc ls [.int v]) := by
  subst hv; subst hw
  exact W.zret hx hb hr hn (fun t ht hW => ⟨⟨hC, rfl⟩, ⟨by rw [ht]; exact hP, va_K.moved hW.alike hK, hD⟩, hS.F ht⟩) hS.2.2 hdg hlocks
theorem k_lret {v r : Int64} (hx : p.tables.exec = Jvm.exec) (hb : c.code = cc) (hr : meth.sig.returnType = some .long) (hlocks : meth.locks = false) (hK : va_K D cl tys s) (hP : va_P D cl w H) (hD : va_D A w) (hS : va_S A s.heap H locs) (hC : C) (hv : v = r) (hw : w = w') (hdg : decode cc pc = .ok (.lreturn, 1)) :
    W p l e R s m args below meth c H locs cells slots (MQ below (kQ D cl tys A C (some (.long r)) w') args s cells slots A) (F0 m pc ls [.long v]) := by
  subst hv; subst hw
  exact W.lret hx hb hr (fun t ht hW => ⟨⟨hC, rfl⟩, ⟨by rw [ht]; exact hP, va_K.moved hW.alike hK, hD⟩, hS.F ht⟩) hS.2.2 hdg hlocks
theorem k_vret (hx : p.tables.exec = Jvm.exec) (hb : c.code = cc) (hr : meth.sig.returnType = none) (hlocks : meth.locks = false) (hK : va_K D cl tys s) (hP : va_P D cl w H) (hD : va_D A w) (hS : va_S A s.heap H locs) (hC : C) (hw : w = w') (hdg : decode cc pc = .ok (.return_, 1)) :
    W p l e R s m args below meth c H locs cells slots (MQ below (kQ D cl tys A C none w') args s cells slots A) (F0 m pc ls []) := by
  subst hw
  exact W.vret hx hb hr (fun t ht hW => ⟨⟨hC, rfl⟩, ⟨by rw [ht]; exact hP, va_K.moved hW.alike hK, hD⟩, hS.F ht⟩) hS.2.2 hdg hlocks
end KCa

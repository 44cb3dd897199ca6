/-! METHODS THAT MAY THROW (a launch without stack traces). Follows the library's Back.of_free (JvmDerived/Free/Laws.lean), with the case of a throw beside it. -/
/-- y has thrown q: an object of the class E, with X of the state -/
def xT (X : String → State → State → Prop) (st : State) (q : Addr) (t : State) (mc ms : Nat) (free : Addr → Prop) : Prop :=
  ∃ (E : String) (ce : Cell) (L : List Loc), (X E st t ∧ t.heap[q]? = some ce ∧ ce.vm = .none ∧ st.vm.findClass E = some ce.cls) ∧ st.WarmedH t.vm ∧ st.sameButNew ({ t with vm := st.vm } : State) L mc ms ∧ ∀ z ∈ L, free z.base
def xQ (Qc : Array Value → State → Outcome → State → Prop) (X : String → State → State → Prop) (mc ms : Nat) (free : Addr → Prop) : Array Value → State → Outcome → State → Prop := fun a st o t =>
  (Qc a st o t ∧ ∃ L, FrameEnd st o t L mc ms ∧ ∀ q ∈ L, free q.base) ∨ (∃ q, o = .threw q ∧ xT X st q t mc ms free)
def xMet (l : Launch) (y : MethodName) (ws : List Cond) (rm : Room) (Pc : Array Value → State → Prop) (Qc : Array Value → State → Outcome → State → Prop) (X : String → State → State → Prop) (mc ms : Nat) (free : Addr → Prop) : Prop :=
  MetFree l y (headSpec ws rm) Pc (fun _ _ _ _ _ => True) (xQ Qc X mc ms free)
def xMQ (below : List Frame) (Qc : Array Value → State → Outcome → State → Prop) (X : String → State → State → Prop) (a : Array Value) (s : State) (mc ms : Nat) (free : Addr → Prop) : State → Prop := fun t =>
  ∃ o, t.status = .running ∧ Ended t below o ∧ xQ Qc X mc ms free a s o t
/-- the frame g of the method that is walked, q thrown over it -/
def xW (p : Program) (l : Launch) (e : Env) (R : Room) (s : State) (m : MethodId) (args : Array Value) (below : List Frame) (meth : Method) (c : Code) (H : Heap) (locs : List Loc) (cells slots : Nat) (Q : State → Prop) (g : JFrame) (q : Addr) : Prop :=
  ∀ T : State, T.heap = H → Stand p l e R s m args below meth c T locs cells slots → ∃ t, Steps p.tables e below ((T.setTop g).pushFrame (.throwing q)) t ∧ Q t
section XCore
variable {p : Program} {l : Launch} {e : Env} {R : Room} {s : State} {m : MethodId} {args : Array Value} {below : List Frame} {meth : Method} {c : Code} {locs : List Loc} {cells slots : Nat}
variable {y : MethodName} {ws : List Cond} {rm : Room} {Pc : Array Value → State → Prop} {Qc : Array Value → State → Outcome → State → Prop} {X : String → State → State → Prop} {mc ms : Nat} {free : Addr → Prop} {bytes : ByteArray} {maxL : Nat} {ret : Option FieldType}
theorem x_core (hM : xMet l y ws rm Pc Qc X mc ms free) (hbl : FrameBlind Pc) (hrc : rm.cells = mc) (hrs : rm.slots = ms) (hfr0 : rm.frames + 1 ≤ R.frames) (hlo : 8 + (maxL + 11) + rm.locals ≤ R.locals)
    (hws : ∀ w ∈ ws, ∀ (a' : Array Value) (U : State), s.WarmedH U.vm → w.before a' U = true) (hcw : Cond.code y bytes maxL ret ∈ ws) (hini : ∀ (a' : Array Value) (U : State), s.WarmedH U.vm → (Cond.initialized y.cls).before a' U = true)
    {U : State} (S0 : Stand p l e R s m args below meth c U locs cells slots) {g : JFrame} (hg : g.method = m) (hsize : g.locals.size = c.maxLocals) {ig : Instr} (hdg : decode c.code g.pc = .ok (ig, 3)) (hW : 2 * g.monitorRoom + (g.stack.map fun v => v.category).sum ≤ 8)
    {mk : MethodId} (hn : U.methodNamed? y = some mk) {a : Array Value} (hcs : cells + mc ≤ R.cells ∧ slots + ms ≤ R.slots) (hP : Pc a U) :
    (∃ (v : Option Value) (t T' : State) (L : List Loc), Stand p l e R s m args below meth c T' (locs ++ L) (cells + mc) (slots + ms) ∧ (∀ q ∈ L, free q.base) ∧ T'.heap = t.heap ∧ Qc a (U.calling g mk a) (.returned v) t ∧
      Steps p.tables e below (doInvoke e (U.setTop g) [] mk a).1 (T'.setTop { g with pc := g.pc + 3, stack := v.toList ++ g.stack })) ∨
    (∃ (q : Addr) (t T' : State) (L : List Loc) (E : String) (ce : Cell), Stand p l e R s m args below meth c T' (locs ++ L) (cells + mc) (slots + ms) ∧ (∀ z ∈ L, free z.base) ∧ T'.heap = t.heap ∧ X E (U.calling g mk a) t ∧ (t.heap[q]? = some ce ∧ ce.vm = .none ∧ U.vm.findClass E = some ce.cls) ∧
      Steps p.tables e below (doInvoke e (U.setTop g) [] mk a).1 ((T'.setTop g).pushFrame (.throwing q))) := by
  have hpre : (headSpec ws rm).pre.before a U = true := atoms_intro fun w hw => hws w hw _ _ S0.warmed
  have hc1 : (Cond.code y bytes maxL ret).before a U = true := hws _ hcw _ _ S0.warmed
  obtain ⟨methY, cY, hmY, hcY, -, hlY, -, -, -, -⟩ := Cond.code_spec hn hc1
  obtain ⟨kY, hkY, -⟩ := className_of_methodNamed hn
  have hinitY : kY.init = .initialized := Cond.initialized_spec (findClass_of_methodNamed hn) hkY (hini a U S0.warmed)
  have h : At U g.method c below := by rw [hg]; exact S0.here
  have happ : (headSpec ws rm).appliesLoose y e.platform (U.calling g mk a) = true := by
    refine Spec.appliesLoose_calling (g := g) h hdg hn hkY hinitY (S0.room_calling (g := g) (R' := (headSpec ws rm).room) hsize hmY hcY hfr0 ?_ ?_ ?_) hpre
    · have h9 : 8 + (maxL + 11) + (headSpec ws rm).room.locals ≤ R.locals := hlo
      rw [hlY]; omega
    · rw [show (headSpec ws rm).room.cells = mc from hrc]; exact hcs.1
    · rw [show (headSpec ws rm).room.slots = ms from hrs]; exact hcs.2
  obtain ⟨mid, hmid⟩ := h.above
  have hfr : (U.setTop g).frames = (.java g :: mid) ++ below := by rw [State.frames_setTop' g h.top, hmid]; rfl
  obtain ⟨o, s₂, hsteps, -, hend, hq⟩ := Steps.callFree hM p S0.admits S0.cas S0.clock (acts := []) hfr happ (hbl _ _ _ _ hP) trivial
  have hq' : xQ Qc X mc ms free a (U.calling g mk a) o s₂ := hq
  rw [State.frames_setTop' g h.top] at hend
  obtain ⟨L, hW', hsm, hL⟩ : ∃ L : List Loc, U.WarmedH s₂.vm ∧ (U.calling g mk a).sameButNew ({ s₂ with vm := (U.calling g mk a).vm } : State) L mc ms ∧ ∀ z ∈ L, free z.base := by
    rcases hq' with ⟨-, L, hfe, hL⟩ | ⟨q, -, E, ce, L, -, h1, h2, h3⟩
    · exact ⟨L, hfe.2.1, hfe.2.2, hL⟩
    · exact ⟨L, h1, h2, h3⟩
  obtain ⟨e2, q2, q3, q4, q5, q6⟩ := hsm
  have e3 : s₂ = ({ (U.calling g mk a).setFrames s₂.frames with heap := s₂.heap, slotsUsed := s₂.slotsUsed } : State).setVm s₂.vm := by
    have h9 : s₂ = ({ s₂ with vm := (U.calling g mk a).vm } : State).setVm s₂.vm := rfl
    rw [e2] at h9
    exact h9
  obtain ⟨g₀, hg0⟩ := Option.isSome_iff_exists.mp h.top
  obtain ⟨r, hr⟩ := State.topJava?_eq_some.mp hg0
  obtain ⟨T', hT'⟩ : ∃ T' : State, T' = (({ U with heap := s₂.heap, slotsUsed := s₂.slotsUsed } : State).setVm s₂.vm) := ⟨_, rfl⟩
  have hr' : T'.frames = .java g₀ :: r := by rw [hT']; exact hr
  have hsame : U.sameButNew ({ U with heap := s₂.heap, slotsUsed := s₂.slotsUsed } : State) L mc ms := by
    refine ⟨?_, q2, q3, q4, q5, q6⟩
    obtain ⟨t, ht, -⟩ := State.frames_cons hr
    show ({ U with heap := s₂.heap, slotsUsed := s₂.slotsUsed } : State) = { U.setFrames U.frames with heap := s₂.heap, slotsUsed := s₂.slotsUsed }
    rw [State.setFrames_self ht]
  have S1 : Stand p l e R s m args below meth c T' (locs ++ L) (cells + mc) (slots + ms) := by
    rw [hT']
    exact ⟨S0.admits, S0.cas, S0.clock, S0.frames, S0.room, S0.hears, S0.method, S0.code, (S0.here.setHeapUsed s₂.heap s₂.slotsUsed).setVm hW'.alike, S0.tail, State.WarmedH.trans S0.warmed hW', S0.limits, S0.bytes, S0.same.trans (hsame.setVm s.vm)⟩
  have hh : T'.heap = s₂.heap := by rw [hT']; rfl
  rcases hq' with ⟨hqc, L2, hfe, -⟩ | ⟨q, rfl, E, ce, L2, ⟨hX, hce⟩, -⟩
  · obtain ⟨⟨v, rfl⟩, -⟩ := hfe
    obtain ⟨c₂, i₂, len₂, hc₂, hd₂, hf₂⟩ := hend
    have hcc : c₂ = c := by
      have h1 : s₂.code? g.method = U.code? g.method := by
        rw [State.code?_eq, State.code?_eq, hW'.alike.method?]
      exact Option.some.inj (hc₂.symm.trans (h1.trans h.code))
    subst hcc
    have hlen : len₂ = 3 := by rw [hdg] at hd₂; cases hd₂; rfl
    subst hlen
    refine Or.inl ⟨v, s₂, T', L, S1, hL, hh, hqc, ?_⟩
    have hs₂ : s₂ = T'.setTop { g with pc := g.pc + 3, stack := v.toList ++ g.stack } := by
      refine e3.trans ?_
      rw [hf₂, State.calling_eq h.top, State.setFrames_setFrames, State.setTop_of_frames _ hr', hr, hT']
      rfl
    rw [← hs₂]
    exact hsteps
  · refine Or.inr ⟨q, s₂, T', L, E, ce, S1, hL, hh, hX, hce, ?_⟩
    have hf₂ : s₂.frames = .throwing q :: .java g :: U.frames.tail := hend
    have hs₂ : s₂ = (T'.setTop g).pushFrame (.throwing q) := by
      refine e3.trans ?_
      rw [hf₂, State.calling_eq h.top, State.setFrames_setFrames, State.pushFrame, State.frames_setTop _ hr', State.setTop_of_frames _ hr', State.setFrames_setFrames, hr, hT']
      rfl
    rw [← hs₂]
    exact hsteps
end XCore
/-- a method that returns (then C holds) or throws (then EX says what) -/
def kMX (l : Launch) (y : MethodName) (cc : ByteArray) (n : Nat) (ret : Option FieldType) (rm : Room) (D : va_G) (cl : List vw_C) (tys : List (ClassId × FieldType)) (tw : Nat) (as : List Value) (w : va_W) (C : Prop) (rv : Option Value) (w' : va_W) (EX : String → Prop) (wx : va_W) : Prop :=
  ∀ sz, xMet l y (kW y cc n ret) rm (kPc D cl tys tw as w sz) (kQ D cl tys (va_A w sz) C rv w') (kX D cl tys (va_A w sz) EX wx) rm.cells rm.slots (va_A w sz)
/-- the entry of a method that may throw -/
theorem k_ofX {l : Launch} {y : MethodName} {cc : ByteArray} {n : Nat} {ret : Option FieldType} {rm : Room} {D : va_G} {cl : List vw_C} {tys : List (ClassId × FieldType)} {tw : Nat} {as : List Value} {w : va_W} {C : Prop} {rv : Option Value} {w' : va_W} {EX : String → Prop} {wx : va_W}
    (hy : plainName y.cls = true) (hn : (lg_sl as).length ≤ n)
    (body : ∀ (p : Program) (e : Env) (s : State) (m : MethodId) (below : List Frame) (meth : Method) (c : Code) (A : Nat → Prop) (ls : Array Slot), p.tables.exec = Jvm.exec → c.code = cc → meth.sig.returnType = ret → meth.locks = false → c.maxLocals = n → (∀ x ∈ c.exceptionTable.toList, False) → (∀ w ∈ kW y cc n ret, w.before as.toArray s = true) → s.vm.findClass y.cls = some m.cls → (∀ q, s.heap.size ≤ q → A q) → va_P D cl w s.heap → va_K D cl tys s → va_D A w → va_S A s.heap s.heap [] → kZ tw A s → lv_has ls n (lv_args 0 as) → W p l e rm s m as.toArray below meth c s.heap [] 0 0 (xMQ below (kQ D cl tys A C rv w') (kX D cl tys A EX wx) as.toArray s rm.cells rm.slots A) (F0 m 0 ls [])) : kMX l y cc n ret rm D cl tys tw as w C rv w' EX wx := by
  intro sz
  refine MetFree.of_bodyS (code := cc) (maxLocals := n) (ret := ret) hy ?_ ?_
  · intro args s m h hn
    obtain ⟨meth, c, h1, h2, h3, h4, h5, h6, -, -⟩ := Cond.code_spec hn (atoms_spec (ws := kW y cc n ret) h _ List.mem_cons_self)
    exact ⟨meth, c, h1, h2, h3, h4, h5, h6⟩
  · intro p e s m args' below meth c s₁ B hml hv _
    obtain ⟨rfl, hsz, ⟨hP, hK, hD0⟩, hZ⟩ := hv
    subst hsz
    have hl := lv_entry as (n := n) hn
    have hh0 : s₁.heap = s.heap := by rw [B.state]; rfl
    have hts := atoms_spec (ws := kW y cc n ret) B.pre
    obtain ⟨meth', c', g1, g2, -, -, -, -, g7, -⟩ := Cond.code_spec B.named (hts _ List.mem_cons_self)
    cases B.method.symm.trans g1
    have hcc : meth.code = some c := (Stand.of_body B).code
    cases hcc.symm.trans g2
    have hex : ∀ x ∈ c.exceptionTable.toList, False := fun x hx => by
      have : c.exceptionTable = #[] := Array.isEmpty_iff.mp g7
      rw [this] at hx
      cases hx
    have hw := body p e s m below meth c _ _ B.exec B.bytes B.returns B.notSynchronized hml hex hts (findClass_of_methodNamed B.named) (fun q h => Or.inr h) hP hK hD0.self va_S.rf hZ hl
    rw [← lg_entry_eq] at hw
    obtain ⟨t, a1, o, b1, b2, b3⟩ := hw s₁ hh0 (Stand.of_body B)
    exact ⟨t, o, a1, b1, b2, b3⟩
section KXr
variable {p : Program} {l : Launch} {e : Env} {R : Room} {s : State} {m : MethodId} {args : Array Value} {below : List Frame} {meth : Method} {c : Code} {H : Heap} {locs : List Loc} {cells slots : Nat} {Q : State → Prop}
variable {cc : ByteArray} {pc nL : Nat} {ls : Array Slot} {rest st0 : List Value} {D : va_G} {cl : List vw_C} {A : Nat → Prop} {tys : List (ClassId × FieldType)} {tw : Nat}
variable {y : MethodName} {bytes : ByteArray} {maxL n index : Nat} {ret : Option FieldType} {rm : Room} {b : Nat} {As : List Value} {w w' wx : va_W} {rv : Option Value} {C : Prop} {EX : String → Prop} {Ts : List Cond} {own : String}
/-- invokevirtual on a part w of the caller's world; the callee may throw -/
theorem k_runVX (hM : kMX l y bytes maxL ret rm D cl tys tw (.ref b :: As) w C rv w' EX wx) (hI : kIV y bytes maxL ret n) (hlk : Cond.methodLink own index y ∈ kGW) (hrc : ∃ cell : Cell, H[b]? = some cell ∧ cell.vm.isStatics = false ∧ s.vm.findClass y.cls = some cell.cls)
    (hT : ∀ w ∈ kGW, w ∈ Ts) (hx : p.tables.exec = Jvm.exec) (hb : c.code = cc) (hml : c.maxLocals = nL) (hown : s.vm.findClass own = some m.cls) (hts : ∀ w ∈ Ts, w.before args s = true) (hR : rm.frames + 1 ≤ R.frames ∧ 8 + (maxL + 11) + rm.locals ≤ R.locals) (hcs : cells + rm.cells ≤ R.cells ∧ slots + rm.slots ≤ R.slots)
    (hK : va_K D cl tys s) (hP : va_P D cl w H) (hD : va_D A w) (hS : va_S A s.heap H locs) (hA : ∀ q, s.heap.size ≤ q → A q) (hZ : kZ tw A s) (hsz : ls.size = nL) (hn : As.length = n) (hst : st0 = As.reverse ++ .ref b :: rest) (h8 : (rest.map fun v => v.category).sum ≤ 8) (hdg : decode cc pc = .ok (.invokevirtual index, 3))
    (kx : ∀ (E : String) (ce : Cell) (q9 : Addr) (H1 : Heap) (locs1 : List Loc), EX E → va_P D cl wx H1 → va_D (va_A w H.size) wx → (∀ q : Nat, q < H.size → ¬ va_A w H.size q → H1[q]? = H[q]?) → va_S A s.heap H1 locs1 → H1[q9]? = some ce → ce.vm = .none → s.vm.findClass E = some ce.cls → xW p l e R s m args below meth c H1 locs1 (cells + rm.cells) (slots + rm.slots) Q (F0 m pc ls rest) q9)
    (kk : ∀ (H1 : Heap) (locs1 : List Loc), C → va_P D cl w' H1 → va_D (va_A w H.size) w' → (∀ q : Nat, q < H.size → ¬ va_A w H.size q → H1[q]? = H[q]?) → va_S A s.heap H1 locs1 → W p l e R s m args below meth c H1 locs1 (cells + rm.cells) (slots + rm.slots) Q (F0 m (pc + 3) ls (rv.toList ++ rest))) : W p l e R s m args below meth c H locs cells slots Q (F0 m pc ls st0) := by
  intro T hTH X
  subst hst
  obtain ⟨cellB, hcB, hoB, hclB⟩ := hrc
  have hsub := kA_sub hD hS hA
  obtain ⟨⟨hcode, hini, hy, hpd⟩, hin, hsel⟩ := hI
  obtain ⟨mk, methM, hnamed, hmethM, hstM, habM⟩ := Cond.instanceMethod_spec (hts _ (hT _ hin))
  obtain ⟨methM', cM, hmethM', -, -, -, -, -, -, hsigM⟩ := Cond.code_spec hnamed (hts _ (hT _ hcode))
  cases hmethM.symm.trans hmethM'
  obtain ⟨c2, r2, m2, q1, q2, q3, q4, kP, hkP, hkPi⟩ := Cond.selects_spec (hts _ (hT _ hsel))
  cases hclB.symm.trans q1
  cases (State.methodFound?_of_named hnamed hy).symm.trans q2
  cases hnamed.symm.trans q3
  have hselP : selectMethod e.platform s.vm cellB.cls mk = .method mk := by rw [Launch.admits_selectMethod X.admits]; exact q4
  have hlen : As.length = methM.sig.parameters.length := by
    rw [hsigM] at hpd
    exact hn.trans (Option.some.inj hpd).symm
  obtain ⟨vm₁, X₁, hstep₁⟩ := X.invokevirtual hx hown (hts _ (hT _ hlk)) hnamed hmethM hstM hkP hkPi hy (a := b) (cell := cellB) (by rw [hTH]; exact hcB)
    (fun z h => by rw [h] at hoB; cases hoB) hselP hmethM habM hkP hkPi (g := F0 m pc ls (As.reverse ++ .ref b :: rest)) rfl (argsL := As) (rest := rest) hlen rfl (by rw [hb]; exact hdg)
  have hpay := pay_in hts (kW_in hT hcode)
  have hinW : ∀ (a' : Array Value) (U : State), s.WarmedH U.vm → (Cond.initialized y.cls).before a' U = true := fun a' U hW => word_at hW (good_of_word (List.mem_filter.mp hini).2) (hts _ (hT _ hini))
  have hH1 : (T.setVm vm₁).heap = H := hTH
  rcases x_core (hM H.size) kPc_blind rfl rfl hR.1 hR.2 hpay List.mem_cons_self hinW X₁ (g := F0 m pc ls rest) rfl (hsz.trans hml.symm) (by rw [hb]; exact hdg) (lv_room h8) (X₁.named hnamed) hcs (k_pre hP hK hD hS hA hZ (T.setVm vm₁) hH1 X₁.warmed) with ⟨v, t, T', L, S1, hL, e1, ⟨⟨hC, hv⟩, ⟨hP1, -, hD1⟩, hF⟩, st⟩ | ⟨q, t, T', L, E, ce, S1, hL, e1, ⟨hE, ⟨hP1, -, hD1⟩, hF⟩, ⟨hce, hcv, hcl⟩, st⟩
  · cases hv
    obtain ⟨k2, k3⟩ := k_keep (H := H) (T' := T') hH1 e1 hS hsub hsub hL hF
    obtain ⟨t2, a1, b1⟩ := kk T'.heap (locs ++ L) hC (by rw [e1]; exact hP1) hD1 k2 k3 T' rfl S1
    exact ⟨t2, hstep₁ _ fun acts => by rw [doInvoke_state]; exact st.trans a1, b1⟩
  · obtain ⟨k2, k3⟩ := k_keep (H := H) (T' := T') hH1 e1 hS hsub hsub hL hF
    have hcl' : s.vm.findClass E = some ce.cls := by
      rw [X₁.warmed.alike.findClass] at hcl
      exact hcl
    obtain ⟨t2, a1, b1⟩ := kx E ce q T'.heap (locs ++ L) hE (by rw [e1]; exact hP1) hD1 k2 k3 (by rw [e1]; exact hce) hcv hcl' T' rfl S1
    exact ⟨t2, hstep₁ _ fun acts => by rw [doInvoke_state]; exact st.trans a1, b1⟩
theorem k_callVX (hM : kMX l y bytes maxL ret rm D cl tys tw (.ref b :: As) w C rv w' EX wx) (hI : kIV y bytes maxL ret n) (hlk : Cond.methodLink own index y ∈ kGW) (q0 ci : Nat) {fs : List Value} {q : vw_C} (hci : cl[ci]? = some q) (hqc : q.1 = y.cls) (he : w[q0]? = some (b, .inr (ci, fs)))
    (hT : ∀ w ∈ kGW, w ∈ Ts) (hx : p.tables.exec = Jvm.exec) (hb : c.code = cc) (hml : c.maxLocals = nL) (hown : s.vm.findClass own = some m.cls) (hts : ∀ w ∈ Ts, w.before args s = true) (hR : rm.frames + 1 ≤ R.frames ∧ 8 + (maxL + 11) + rm.locals ≤ R.locals) (hcs : cells + rm.cells ≤ R.cells ∧ slots + rm.slots ≤ R.slots)
    (hK : va_K D cl tys s) (hP : va_P D cl w H) (hD : va_D A w) (hS : va_S A s.heap H locs) (hA : ∀ q, s.heap.size ≤ q → A q) (hZ : kZ tw A s) (hsz : ls.size = nL) (hn : As.length = n) (hst : st0 = As.reverse ++ .ref b :: rest) (h8 : (rest.map fun v => v.category).sum ≤ 8) (hdg : decode cc pc = .ok (.invokevirtual index, 3))
    (kx : ∀ (E : String) (ce : Cell) (q9 : Addr) (H1 : Heap) (locs1 : List Loc), EX E → va_P D cl wx H1 → va_D A wx → va_S A s.heap H1 locs1 → H1[q9]? = some ce → ce.vm = .none → s.vm.findClass E = some ce.cls → xW p l e R s m args below meth c H1 locs1 (cells + rm.cells) (slots + rm.slots) Q (F0 m pc ls rest) q9)
    (kk : ∀ (H1 : Heap) (locs1 : List Loc), C → va_P D cl w' H1 → va_D A w' → va_S A s.heap H1 locs1 → W p l e R s m args below meth c H1 locs1 (cells + rm.cells) (slots + rm.slots) Q (F0 m (pc + 3) ls (rv.toList ++ rest))) : W p l e R s m args below meth c H locs cells slots Q (F0 m pc ls st0) := by
  have hrc := va_recv hK hP hci he
  rw [hqc] at hrc
  have hsub := kA_sub hD hS hA
  exact k_runVX hM hI hlk hrc hT hx hb hml hown hts hR hcs hK hP hD hS hA hZ hsz hn hst h8 hdg
    (fun E ce q9 H1 locs1 hE h1 h2 _ h3 => kx E ce q9 H1 locs1 hE h1 (h2.weaken (fun _ q _ h => hsub q.1 h)) h3)
    (fun H1 locs1 hC h1 h2 _ h3 => kk H1 locs1 hC h1 (h2.weaken (fun _ q _ h => hsub q.1 h)) h3)
/-- a return of a method that may throw -/
theorem x_ret {Qc : Array Value → State → Outcome → State → Prop} {X : String → State → State → Prop} {free : Addr → Prop} {g : JFrame} {mc ms : Nat} (k : W p l e R s m args below meth c H locs cells slots (MQ below Qc args s mc ms free) g) : W p l e R s m args below meth c H locs cells slots (xMQ below Qc X args s mc ms free) g := by
  intro T hT S
  obtain ⟨t, a1, o, b1, b2, b3⟩ := k T hT S
  exact ⟨t, a1, o, b1, b2, Or.inl b3⟩
theorem x_widen {g : JFrame} {q : Addr} {k n : Nat} (h1 : cells ≤ k) (h2 : slots ≤ n) (kk : xW p l e R s m args below meth c H locs k n Q g q) : xW p l e R s m args below meth c H locs cells slots Q g q := fun T hT S => kk T hT (stand_widen S h1 h2)
/-- not caught here -/
theorem k_out {Qc : Array Value → State → Outcome → State → Prop} {E : String} {ce : Cell} {q : Addr} {mc ms : Nat} (hex : ∀ x ∈ c.exceptionTable.toList, False) (hlocks : meth.locks = false) (hK : va_K D cl tys s) (hP : va_P D cl w H) (hD : va_D A w) (hS : va_S A s.heap H locs) (hE : EX E) (hw : w = wx) (hcell : H[q]? = some ce) (hv : ce.vm = .none) (hcl : s.vm.findClass E = some ce.cls) (hc : cells ≤ mc) (hs : slots ≤ ms) :
    xW p l e R s m args below meth c H locs cells slots (xMQ below Qc (kX D cl tys A EX wx) args s mc ms A) (F0 m pc ls rest) q := by
  subst hw
  refine x_widen hc hs ?_
  intro T hT S
  obtain ⟨st1, hrun, hend, hW, hsm⟩ := S.leaveThrown q (g := F0 m pc ls rest) rfl rfl rfl (fun x h => (hex x h).elim) hlocks
  have hh : (T.setFrames (.throwing q :: below)).heap = H := hT
  refine ⟨_, st1, .threw q, hrun, hend, Or.inr ⟨q, rfl, E, ce, locs, ⟨⟨hE, ⟨by rw [hh]; exact hP, va_K.moved hW.alike hK, hD⟩, hS.F hh⟩, by rw [hh]; exact hcell, hv, hcl⟩, hW, hsm, hS.2.2⟩⟩
theorem kNest_on {w : Cond} (h : kNest w = true) : w.onTables = true := by
  cases w <;> first | rfl | (simp [kNest] at h)
def kCodeW : Cond → Bool
  | .code .. => true
  | .codeSync .. => true
  | _ => false
theorem x_mem {L : List Cond} (ps : List Nat) (h1 : L.filter kCodeW = ps.filterMap (fun i => lw_tbl[i]?)) (h2 : (L.filter (fun w => !kCodeW w)).all (fun w => decide (w ∈ lw_tbl) && (goodWord w || kNest w)) = true) : ∀ w ∈ L, w ∈ kGW ∨ w ∈ kNW := by
  intro w hw
  by_cases hc : kCodeW w = true
  · have h3 : w ∈ L.filter kCodeW := List.mem_filter.mpr ⟨hw, hc⟩
    rw [h1] at h3
    obtain ⟨i, -, hi⟩ := List.mem_filterMap.mp h3
    refine Or.inl (kGW_of (List.mem_of_getElem? hi) ?_)
    cases w <;> first | rfl | (simp [kCodeW] at hc)
  · have h3 := List.all_eq_true.mp h2 w (List.mem_filter.mpr ⟨hw, by simpa using hc⟩)
    simp only [Bool.and_eq_true, decide_eq_true_eq, Bool.or_eq_true] at h3
    exact h3.2.elim (fun h => Or.inl (kGW_of h3.1 h)) (fun h => Or.inr (kNW_of h3.1 h))
/-- the words of a throw that the tables decide -/
def xNo (w : Cond) : Bool := decide (w ≠ .isRef (.static Bundle.tN "UNASSIGNED_STACK" Bundle.steD)) && decide (w ≠ .isRef (.static Bundle.tN "SUPPRESSED_SENTINEL" Bundle.listD)) && decide (w ≠ .laysStatic Bundle.tN "UNASSIGNED_STACK" Bundle.steD) && decide (w ≠ .laysStatic Bundle.tN "SUPPRESSED_SENTINEL" Bundle.listD)
def xAt (own : String) (ic : Nat) (X : String) (names : List String) : List Cond := (Bundle.ownAtoms0 own ic X names).filter xNo
theorem xAt_all {own : String} {ic : Nat} {X : String} {names : List String} {b1 : Array Value} {s : State} (h : ∀ w ∈ xAt own ic X names, w.before b1 s = true) (hZ : kThr s) : ∀ w ∈ Bundle.ownAtoms0 own ic X names, w.before b1 s = true := by
  intro w hw
  have hm := fun (a : Nat) (cell : Cell) (hc : s.heap[a]? = some cell) (_ : cell.vm.isStatics = true) => hc
  have h1 := hZ ("UNASSIGNED_STACK", Bundle.steD) (by simp [kHW])
  have h2 := hZ ("SUPPRESSED_SENTINEL", Bundle.listD) (by simp [kHW])
  have g1 := kst_move (b2 := b1) (Vm.Alike.refl s.vm) hm h1.1 h1.2
  have g2 := kst_move (b2 := b1) (Vm.Alike.refl s.vm) hm h2.1 h2.2
  by_cases hno : xNo w = true
  · exact h w (List.mem_filter.mpr ⟨hw, hno⟩)
  · simp only [xNo, Bool.and_eq_true, decide_eq_true_eq, not_and, Classical.not_not] at hno
    by_cases a1 : w = .isRef (.static Bundle.tN "UNASSIGNED_STACK" Bundle.steD)
    · rw [a1]; exact g1.2
    by_cases a2 : w = .isRef (.static Bundle.tN "SUPPRESSED_SENTINEL" Bundle.listD)
    · rw [a2]; exact g2.2
    by_cases a3 : w = .laysStatic Bundle.tN "UNASSIGNED_STACK" Bundle.steD
    · rw [a3]; exact g1.1
    · rw [hno ⟨⟨a1, a2⟩, a3⟩]; exact g2.1
/-- the walk seen from here: as if the method had been entered in this heap -/
theorem x_base {T : State} (S : Stand p l e R s m args below meth c T locs cells slots) {R' : Room} (hf : R'.frames ≤ R.frames) (hl : R'.locals ≤ R.locals) (hc : cells + R'.cells ≤ R.cells) (hs : slots + R'.slots ≤ R.slots) : Stand p l e R' ({ s with heap := T.heap, slotsUsed := T.slotsUsed } : State) m args below meth c T [] 0 0 := by
  have hroom := S.room
  have hsz := S.heapSize
  have hus := S.used
  have hbk := S.book
  refine ⟨S.admits, S.cas, S.clock, S.frames, ?_, S.hears, S.method, S.code, S.here, S.tail, S.warmed, S.limits, S.bytes, ?_⟩
  · simp only [State.hasRoom, Bool.and_eq_true, decide_eq_true_eq] at hroom ⊢
    obtain ⟨⟨⟨⟨h1, h2, h3, h4, h5, h6⟩, h7⟩, h8⟩, h9⟩ := hroom
    refine ⟨⟨⟨⟨?_, ?_, ?_, ?_, ?_, h6⟩, ?_⟩, ?_⟩, hbk⟩
    · exact Nat.le_trans (Nat.add_le_add_right (Nat.add_le_add_left hl _) _) h1
    · exact Nat.le_trans (Nat.add_le_add_left hf _) h2
    · exact Nat.le_trans (Nat.add_le_add_left hf _) h3
    · exact Nat.le_trans (Nat.add_le_add_left hl _) h4
    · exact Nat.le_trans (Nat.add_le_add_left hl _) h5
    · show T.heap.size + R'.cells ≤ _
      omega
    · show T.slotsUsed + R'.slots ≤ _
      omega
  · refine ⟨?_, Nat.le_refl _, Nat.le_refl _, ?_, ?_, fun a c0 h0 => ⟨c0, h0, rfl, rfl, fun _ _ => rfl⟩⟩
    · exact S.same.1
    · show T.slotsUsed = T.slotsUsed + ((T.heap.toList.drop T.heap.size).map _).sum
      rw [List.drop_eq_nil_of_le (by simp)]; rfl
    · show ((T.heap.toList.drop T.heap.size).map _).sum ≤ 0
      rw [List.drop_eq_nil_of_le (by simp)]; exact Nat.le_refl _
/-- throw new E() -/
theorem k_throw {Qc : Array Value → State → Outcome → State → Prop} {cls : String} {names : List String} {ik ic mc ms : Nat} (hl : l.stackTraces = false) (hx : p.tables.exec = Jvm.exec) (hb : c.code = cc) (hown : s.vm.findClass own = some m.cls) (hT : ∀ w ∈ kGW, w ∈ Ts) (hts : ∀ w ∈ Ts, w.before args s = true)
    (hcls : Bundle.fit cls = true ∧ ∀ n ∈ names, Bundle.fit n = true) (hk : ∀ w ∈ Cond.classLink own ik cls :: Cond.initialized cls :: xAt own ic cls names, w ∈ kGW ∨ w ∈ kNW)
    (hZ : kZ tw A s) (hex : ∀ x ∈ c.exceptionTable.toList, False) (hlocks : meth.locks = false) (hK : va_K D cl tys s) (hP : va_P D cl w H) (hD : va_D A w) (hS : va_S A s.heap H locs) (hsize : ls.size = c.maxLocals) (hE : EX cls) (hw : w = wx)
    (d0 : decode cc pc = .ok (.new ik, 3)) (d3 : decode cc (pc + 3) = .ok (.dup, 1)) (d4 : decode cc (pc + 4) = .ok (.invokespecial ic, 3)) (d7 : decode cc (pc + 7) = .ok (.athrow, 1))
    (hR : names.length + 3 < R.frames ∧ (rest.map fun v => v.category).sum + (13 * (names.length + 1) + 42) ≤ R.locals) (hcs : cells + 1 ≤ R.cells ∧ slots + 6 ≤ R.slots) (hc : cells + 1 ≤ mc) (hs : slots + 6 ≤ ms) :
    W p l e R s m args below meth c H locs cells slots (xMQ below Qc (kX D cl tys A EX wx) args s mc ms A) (F0 m pc ls rest) := by
  subst hw
  intro T hTH S
  have htr : e.platform.stackTraces = false := (show e.platform.stackTraces = l.stackTraces by rw [S.admits.platform]).trans hl
  obtain ⟨s', hs'⟩ : ∃ s' : State, s' = ({ s with heap := T.heap, slotsUsed := T.slotsUsed } : State) := ⟨_, rfl⟩
  have S0 : Stand p l e { frames := R.frames, cells := 1, slots := 6, locals := R.locals } s' m args below meth c T [] 0 0 := by
    rw [hs']
    exact x_base S (Nat.le_refl _) (Nat.le_refl _) hcs.1 hcs.2
  have hvm : s'.vm = s.vm := by rw [hs']
  have hhp : s'.heap = H := by rw [hs']; exact hTH
  have hown' : s'.vm.findClass own = some m.cls := by rw [hvm]; exact hown
  have hup : ∀ w, (w ∈ kGW ∨ w ∈ kNW) → w.before args s' = true := fun w hw => by
    rcases hw with hw | hw
    · exact word_at (U := s') (by rw [hvm]; exact State.WarmedH.refl s) (good_of_word (List.mem_filter.mp hw).2) (hts _ (hT _ hw))
    · exact va_tabs (kNest_on (List.mem_filter.mp hw).2) hvm.symm (hZ.2.2.1 w hw)
  have hthr : kThr s' := kThr_move (by rw [hvm]; exact Vm.Alike.refl _) (fun a cell hc hst => by
    rw [hhp, hS.2.1 a (Array.getElem?_eq_some_iff.mp hc).1 (fun ha => by have := hZ.2.2.2.2 a ha cell hc; rw [hst] at this; cases this)]
    exact hc) hZ.1
  have hat : ∀ w ∈ Bundle.ownAtoms0 own ic cls names, w.before args s' = true := xAt_all (fun z hz => hup _ (hk _ (List.mem_cons_of_mem _ (List.mem_cons_of_mem _ hz)))) hthr
  have hins : (Cond.instantiable cls 6).before args s' = true := hat _ (by simp [Bundle.ownAtoms0])
  obtain ⟨vm₁, cX, kX0, hfX, hkX, -, -, X₁, st1⟩ := S0.newCold hx (own := own) (C := cls) (index := ik) (n := 6) hown' (hup _ (hk _ List.mem_cons_self)) hins (hup _ (hk _ (List.mem_cons_of_mem _ List.mem_cons_self))) (g := F0 m pc ls rest) rfl (by rw [hb]; exact d0) (Nat.le_refl _) (Nat.le_refl _)
  generalize hT9 : (T.setVm vm₁).pushCell { cls := cX, slots := kX0.instanceTypes.map defaultValue, vm := .none } = T9 at X₁ st1
  have hcellA : T9.heap[T.heap.size]? = some (freshCell cX kX0) := by rw [← hT9]; exact State.heap_pushCell_size _ _
  have hcat : (Value.ref T.heap.size).category = 1 := rfl
  have K : W p l e { frames := R.frames, cells := 1, slots := 6, locals := R.locals } s' m args below meth c T9.heap [] (0 + 1) (0 + 6) (fun U => U.status = .running ∧ Ended U below (.threw T.heap.size) ∧ s'.WarmedH U.vm ∧ s'.sameButNew ({ U with vm := s'.vm } : State) [] (0 + 1) (0 + 6) ∧ ∃ ce, U.heap[T.heap.size]? = some ce ∧ Bundle.OwnCell args s' cls T.heap.size .null ce) (F0 m (pc + 3) ls (.ref T.heap.size :: rest)) := by
    refine lv_dup hx hb d3 rfl ?_
    intro T2 hT2 X2
    exact X2.ctorThrow0 hx htr (own := own) (cls := cls) (names := names) (ic := ic) hown' hcls.1 hcls.2 hat (fun x hx => nomatch hx) hfX hkX (by rw [hT2]; exact hcellA) (by rw [hhp, hTH]; exact Nat.le_refl _)
      (g := F0 m (pc + 3 + 1) ls (.ref T.heap.size :: .ref T.heap.size :: rest)) rfl hsize rfl rfl (rest := rest) rfl (by rw [hb]; exact d4) (by rw [hb]; exact d7) (fun x h => (hex x h).elim) hR.1
      (by have h9 := hR.2; simp only [List.map_cons, List.sum_cons, hcat]; show 2 * 0 + _ + _ ≤ _; omega) hlocks
  obtain ⟨U, hsteps, hrun, hend, hW, hsame, ce, hce, hO⟩ := K T9 rfl X₁
  have hW1 : s.WarmedH U.vm := by rw [hs'] at hW; exact hW
  have hold : ∀ q : Nat, q < H.size → U.heap[q]? = H[q]? := fun q hq => by
    obtain ⟨-, -, -, -, -, h6⟩ := hsame
    have hc : s'.heap[q]? = some H[q] := by rw [hhp]; exact Array.getElem?_eq_getElem hq
    obtain ⟨c', hc', e1, e2, e3⟩ := h6 q _ hc
    have hce : c'.slots = (H[q]).slots := by
      apply Array.ext_getElem?
      intro i
      exact e3 i (fun h => nomatch h)
    rw [show U.heap[q]? = some c' from hc', e1, hce]
    exact (Array.getElem?_eq_getElem hq).symm
  have hszU : H.size ≤ U.heap.size := by rw [← hhp]; exact hsame.2.1
  have hsameS : s.sameButNew ({ U with vm := s.vm } : State) locs (cells + 1) (slots + 6) := by
    have h1 : (T.setVm s.vm).sameButNew ({ U with vm := s.vm } : State) [] 1 6 := by
      obtain ⟨h2, h3, h4, h5, h6, h7⟩ := hsame
      rw [hs'] at h2 h3 h4 h5 h6 h7
      refine ⟨?_, h3, h4, h5, h6, h7⟩
      have e9 : T.setVm s.vm = ({ s with heap := T.heap, slotsUsed := T.slotsUsed } : State).setFrames T.frames := S.same.1
      rw [e9, State.setFrames_setFrames]
      exact h2
    have h2 := S.same.trans h1
    rw [List.append_nil] at h2
    exact h2
  refine ⟨U, st1 _ hsteps, .threw T.heap.size, hrun, hend, Or.inr ⟨T.heap.size, rfl, cls, ce, locs, ⟨⟨hE, ⟨hP.kept (fun k q hq => hold q.1 (hP k q hq).lt), va_K.moved hW1.alike hK, hD⟩, Nat.le_trans hS.1 hszU, fun q g1 g2 => ?_⟩, hce, hO.vm, ?_⟩, hW1, hsameS.mono hc hs, hS.2.2⟩⟩
  · rw [hold q (Nat.lt_of_lt_of_le g1 hS.1)]; exact hS.2.1 q g1 g2
  · rw [← hvm]; exact hO.cls
end KXr

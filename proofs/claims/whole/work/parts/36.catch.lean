/-! CATCHING: a search that resolves the classes it comes to -/
section XCatch
variable {e : Env} {s : State} {f : JFrame} {a : Addr}
theorem x_goCold {E : CtlPost} {d : Bool} {acts : List Action} {Q : Handler → Pre} {x : ExceptionTableEntry} {t : List ExceptionTableEntry} {c : ClassId} {cell : Cell} {vm' : Vm} (hx : covers x f.pc = true) (h0 : x.catchType ≠ 0)
    (hg : (Jvm.resolveClass f.method.cls x.catchType).Gives e.toSetting s.vm (.ok c) vm') (hsz : vm'.classes.size ≤ s.vm.classes.size) (hcell : s.heap[a]? = some cell) (hobj : ∀ k, cell.vm ≠ .statics k)
    (hk : ∃ k, vm'.classes[cell.cls]? = some k) (hc : ∃ k, vm'.classes[c]? = some k) :
    wp (findHandler.go f a (x :: t)) Q E e d acts s ↔
      if vm'.assignable cell.cls c = true then Q (.found x.handlerPc) d acts (s.setVm vm') else wp (findHandler.go f a t) Q E e d acts (s.setVm vm') := by
  obtain ⟨ha, ht⟩ := hg.op (op := VmOp.resolveClass f.method.cls x.catchType) rfl
  simp only [covers] at hx
  cases hfit : vm'.assignable cell.cls c <;> simp [findHandler.go, hx, h0, ha, ht, hsz, hcell, hobj, hk, hc, hfit, VmOp.dirties, VmOp.acts]
def xFind (e : Env) (s : State) (f : JFrame) (a : Addr) (h : Handler) (vm' : Vm) : Prop := ∀ (Q : Handler → Pre) (E : CtlPost) (d : Bool) (acts : List Action), wp (findHandler f a) Q E e d acts s ↔ Q h d acts (s.setVm vm')
theorem x_stepCatch {r : List Frame} {pc : Nat} {vm' : Vm} (hfind : xFind e s f a (.found pc) vm') :
    (stepThrowing e s a (.java f :: r)).Is ((s.setVm vm').setFrames (.java { f with pc := pc, stack := [.ref a] } :: r)) [] := by
  simp only [stepThrowing, searchFrame, vmDo]
  generalize hr : Sem.go _ e false [] s = res
  obtain ⟨as, rfl, ha⟩ := Sem.eq_ok_of hr (a := Handler.found pc) (s' := s.setVm vm') (acts' := []) (by simp [hfind _ _ _ _])
  exact ⟨rfl, ha⟩
theorem x_caught {tb : Tables} {target : State} {g : JFrame} {c : Code} {below : List Frame} {vm' : Vm} (h : At s g.method c below) {pc : Nat} (hfind : xFind e ((s.setTop g).pushFrame (.throwing a)) g a (.found pc) vm')
    (hrest : Steps tb e below ((s.setVm vm').setTop { g with pc := pc, stack := [.ref a] }) target) :
    Steps tb e below ((s.setTop g).pushFrame (.throwing a)) target := by
  obtain ⟨hgo, hw⟩ := h.throwing a
  refine Steps.head hgo hw ?_
  rw [stepThread_throwing (frames_entered h.top _), (x_stepCatch (s := (s.setTop g).pushFrame (.throwing a)) hfind).1]
  obtain ⟨g₀, hg⟩ := Option.isSome_iff_exists.mp h.top
  obtain ⟨r, hr⟩ := State.topJava?_eq_some.mp hg
  have hr' : (s.setVm vm').frames = .java g₀ :: r := hr
  rw [State.setTop_of_frames _ hr'] at hrest
  have e1 : (((s.setTop g).pushFrame (.throwing a)).setVm vm').setFrames (.java { g with pc := pc, stack := [.ref a] } :: s.frames.tail) = (s.setVm vm').setFrames (.java { g with pc := pc, stack := [.ref a] } :: r) := by
    rw [State.pushFrame, State.setTop_of_frames _ hr, State.setFrames_setFrames, hr]
    show ((s.setFrames _).setFrames _).setVm vm' = _
    rw [State.setFrames_setFrames]
    rfl
  rw [e1]
  exact hrest
variable {p : Program} {l : Launch} {R : Room} {m : MethodId} {args : Array Value} {below : List Frame} {meth : Method} {c : Code} {T : State} {locs : List Loc} {cells slots : Nat}
/-- one entry that is come to: its class is resolved -/
theorem x_entry (X : Stand p l e R s m args below meth c T locs cells slots) {own nm : String} {index : Nat} (hown : s.vm.findClass own = some m.cls) (hlink : (Cond.classLink own index nm).before args s = true) :
    ∃ (vm' : Vm) (cT : ClassId), s.vm.findClass nm = some cT ∧ Stand p l e R s m args below meth c (T.setVm vm') locs cells slots ∧ (Jvm.resolveClass m.cls index).Gives e.toSetting T.vm (.ok cT) vm' ∧ vm'.classes.size ≤ T.vm.classes.size ∧ s.WarmedH vm' ∧ ∃ k, vm'.classes[cT]? = some k := by
  have hpl : e.platform.magicAccessors = ({} : Platform).magicAccessors := by rw [X.admits.platform]
  obtain ⟨cT, hc', hcl⟩ := Cond.classLink_spec hown hlink e.platform hpl
  obtain ⟨dk, _, _, kt, hd, _, _, _, _, hkt, _, hopen⟩ := hcl.here
  have hcl₀ := X.warmed.classLinks hcl
  have hW' : s.WarmedH (T.vm.noted m.cls index (.cls cT)) := X.warmed.noted hd hopen (State.rightAt_cls hcl)
  obtain ⟨kt', hkt', -⟩ := hW'.alike.2.2 _ _ hkt
  exact ⟨_, cT, hc', X.noted hW', resolveClass_links e.toSetting hcl₀, by no_record, hW', kt', hkt'⟩
theorem x_search (X : Stand p l e R s m args below meth c T locs cells slots) {g : JFrame} (hg : g.method = m) {own E : String} (hown : s.vm.findClass own = some m.cls) {cell : Cell} (hcell : T.heap[a]? = some cell) (hobj : cell.vm = .none) (hE : s.vm.findClass E = some cell.cls) :
    ∀ (pre : List (ExceptionTableEntry × String)) (T : State), T.heap[a]? = some cell → Stand p l e R s m args below meth c T locs cells slots → (∀ q ∈ pre, covers q.1 g.pc = true ∧ q.1.catchType ≠ 0 ∧ (Cond.classLink own q.1.catchType q.2).before args s = true ∧ va_Nc E q.2 s) →
      ∀ (x : ExceptionTableEntry) (rest : List ExceptionTableEntry), covers x g.pc = true → x.catchType ≠ 0 → (Cond.classLink own x.catchType E).before args s = true →
      ∃ vm', Stand p l e R s m args below meth c (T.setVm vm') locs cells slots ∧ ∀ (Q : Handler → Pre) (E : CtlPost) (d : Bool) (acts : List Action), wp (findHandler.go g a (pre.map (·.1) ++ x :: rest)) Q E e d acts ((T.setTop g).pushFrame (.throwing a)) ↔ Q (.found x.handlerPc) d acts (((T.setTop g).pushFrame (.throwing a)).setVm vm') := by
  intro pre
  subst hg
  induction pre with
  | nil =>
    intro T hc X _ x rest hx h0 hl
    obtain ⟨vm', cT, hf, X', hgv, hsz, hW', hk⟩ := x_entry X hown hl
    cases hE.symm.trans hf
    refine ⟨vm', X', fun Q E d acts => ?_⟩
    show wp (findHandler.go g a (x :: rest)) Q E e d acts ((T.setTop g).pushFrame (.throwing a)) ↔ _
    rw [x_goCold (cell := cell) (c := cell.cls) (vm' := vm') hx h0 (by rw [Stand.throwing_vm]; exact hgv) (by rw [Stand.throwing_vm]; exact hsz) (by rw [Stand.throwing_heap]; exact hc) (fun k h => by rw [hobj] at h; cases h) hk hk, if_pos (va_asg _ _)]
  | cons q pre ih =>
    intro T hc X hp x rest hx h0 hl
    obtain ⟨q1, q2, q3, q4⟩ := hp q List.mem_cons_self
    obtain ⟨vm₁, cT, hf, X₁, hgv, hsz, hW₁, hk⟩ := x_entry X hown q3
    obtain ⟨c0, t0, n1, n2, n3⟩ := q4
    cases hE.symm.trans n1
    cases hf.symm.trans n2
    obtain ⟨ks, hks, -⟩ := Vm.findClass_spec hE
    obtain ⟨ks', hks', -⟩ := hW₁.alike.2.2 _ _ hks
    obtain ⟨vm', X', hfin⟩ := ih (T.setVm vm₁) hc X₁ (fun q hq => hp q (List.mem_cons_of_mem _ hq)) x rest hx h0 hl
    refine ⟨vm', X', fun Q E d acts => ?_⟩
    show wp (findHandler.go g a (q.1 :: (pre.map (·.1) ++ x :: rest))) Q E e d acts ((T.setTop g).pushFrame (.throwing a)) ↔ _
    rw [x_goCold (cell := cell) (c := cT) (vm' := vm₁) q1 q2 (by rw [Stand.throwing_vm]; exact hgv) (by rw [Stand.throwing_vm]; exact hsz) (by rw [Stand.throwing_heap]; exact hc) (fun k h => by rw [hobj] at h; cases h) ⟨ks', hks'⟩ hk, if_neg (by rw [hW₁.alike.assignable, n3]; decide)]
    exact hfin Q E d acts
/-- the row: thrown over the frame, the walk goes on at the handler -/
theorem x_catch {H : Heap} {Q : State → Prop} {pc : Nat} {ls : Array Slot} {rest : List Value} {own E : String} {ce : Cell} (hown : s.vm.findClass own = some m.cls) (hc : H[a]? = some ce) (hv : ce.vm = .none) (hE : s.vm.findClass E = some ce.cls)
    (pre : List (ExceptionTableEntry × String)) (x : ExceptionTableEntry) (tl : List ExceptionTableEntry) (ht : c.exceptionTable.toList = pre.map (·.1) ++ x :: tl)
    (hp : ∀ q ∈ pre, covers q.1 pc = true ∧ q.1.catchType ≠ 0 ∧ (Cond.classLink own q.1.catchType q.2).before args s = true ∧ va_Nc E q.2 s) (hx : covers x pc = true) (h0 : x.catchType ≠ 0) (hl : (Cond.classLink own x.catchType E).before args s = true)
    (k : W p l e R s m args below meth c H locs cells slots Q (F0 m x.handlerPc ls [.ref a])) : xW p l e R s m args below meth c H locs cells slots Q (F0 m pc ls rest) a := by
  intro T hT X
  obtain ⟨vm', X', hfin⟩ := x_search X (g := F0 m pc ls rest) rfl hown (by rw [hT]; exact hc) hv hE pre T (by rw [hT]; exact hc) X hp x tl hx h0 hl
  obtain ⟨t, a1, b1⟩ := k (T.setVm vm') hT X'
  refine ⟨t, x_caught X.here (vm' := vm') (pc := x.handlerPc) (fun Q E d acts => ?_) a1, b1⟩
  rw [W.findHandler_eq (meth := meth) (code := c) (by rw [Stand.throwing_vm]; exact X.method') X.code, ht]
  exact hfin Q E d acts
end XCatch
/-! WORLDS IN TWO PARTS -/
theorem app_l {α : Type} {w w2 : List α} {i : Nat} {x : α} (h : w[i]? = some x) : (w ++ w2)[i]? = some x := by
  rw [List.getElem?_append_left (List.getElem?_eq_some_iff.mp h).1]; exact h
theorem app_r {α : Type} {w w2 : List α} {i : Nat} {x : α} (h : w2[i]? = some x) : (w ++ w2)[w.length + i]? = some x := by
  rw [List.getElem?_append_right (Nat.le_add_right _ _), Nat.add_sub_cancel_left]; exact h
def kSp (A : Nat → Prop) (w w2 : va_W) : Prop := va_D A w ∧ va_D A w2 ∧ ∀ (i j : Nat) (p q : Nat × va_E), w[i]? = some p → w2[j]? = some q → p.1 ≠ q.1
theorem kSp.swap {A : Nat → Prop} {w w2 : va_W} (h : kSp A w w2) : kSp A w2 w := ⟨h.2.1, h.1, fun i j p q hi hj e => h.2.2 j i q p hj hi e.symm⟩
theorem kSp_of {A : Nat → Prop} {w w2 : va_W} (h : va_D A (w ++ w2)) : kSp A w w2 :=
  ⟨⟨fun i j p q hi hj e => h.1 i j p q (app_l hi) (app_l hj) e, fun k q hk => h.2 k q (app_l hk)⟩, ⟨fun i j p q hi hj e => by have h9 := h.1 _ _ p q (app_r (w := w) hi) (app_r (w := w) hj) e; omega, fun k q hk => h.2 _ q (app_r hk)⟩, fun i j p q hi hj e => by
    have h9 := h.1 _ _ p q (app_l (w2 := w2) hi) (app_r (w := w) hj) e
    have h8 := (List.getElem?_eq_some_iff.mp hi).1
    omega⟩
theorem kSp_to {A : Nat → Prop} {w w2 : va_W} (h : kSp A w w2) : va_D A (w ++ w2) := va_D.app h.1 h.2.1 h.2.2
theorem kP_l {D : va_G} {cl : List vw_C} {w w2 : va_W} {H : Heap} (h : va_P D cl (w ++ w2) H) : va_P D cl w H := fun k q hk => h k q (app_l hk)
theorem kP_r {D : va_G} {cl : List vw_C} {w w2 : va_W} {H : Heap} (h : va_P D cl (w ++ w2) H) : va_P D cl w2 H := fun k q hk => h _ q (app_r hk)
theorem kSp_out {D : va_G} {cl : List vw_C} {A : Nat → Prop} {w w2 : va_W} {H : Heap} (h : kSp A w w2) (hP2 : va_P D cl w2 H) {j : Nat} {q : Nat × va_E} (hj : w2[j]? = some q) : q.1 < H.size ∧ ¬ va_A w H.size q.1 := by
  have hl := (hP2 j q hj).lt
  refine ⟨hl, fun z => ?_⟩
  rcases z with ⟨k, e, hk⟩ | z
  · exact h.2.2 k j _ q hk hj rfl
  · omega
theorem kSp_keep {D : va_G} {cl : List vw_C} {A : Nat → Prop} {w w2 : va_W} {H H1 : Heap} (h : kSp A w w2) (hP2 : va_P D cl w2 H) (hk : ∀ q : Nat, q < H.size → ¬ va_A w H.size q → H1[q]? = H[q]?) : va_P D cl w2 H1 :=
  hP2.kept (fun j q hj => hk _ (kSp_out h hP2 hj).1 (kSp_out h hP2 hj).2)
theorem kSp_new {D : va_G} {cl : List vw_C} {A : Nat → Prop} {w w' w2 : va_W} {H : Heap} (h : kSp A w w2) (hP2 : va_P D cl w2 H) (hA : ∀ q, va_A w H.size q → A q) (hD : va_D (va_A w H.size) w') : kSp A w' w2 :=
  ⟨hD.weaken (fun _ q _ h => hA q.1 h), h.2.1, fun i j p q hi hj e => (kSp_out h hP2 hj).2 (by rw [← e]; exact hD.2 i p hi)⟩
theorem kK_l {D : va_G} {cl : List vw_C} {t1 t2 : List (ClassId × FieldType)} {U : State} (h : va_K D cl (t1 ++ t2) U) : va_K D cl t1 U := ⟨h.1, fun k q hk => h.2 k q (app_l hk)⟩
theorem kK_r {D : va_G} {cl : List vw_C} {t1 t2 : List (ClassId × FieldType)} {U : State} (h : va_K D cl (t1 ++ t2) U) : va_K D cl t2 U := ⟨h.1, fun k q hk => h.2 _ q (app_r hk)⟩
/-! METHODS WITH HANDLERS -/
section HCore
variable {p : Program} {l : Launch} {e : Env} {R : Room} {s : State} {m : MethodId} {args : Array Value} {below : List Frame} {meth : Method} {c : Code} {locs : List Loc} {cells slots : Nat}
variable {y : MethodName} {ws : List Cond} {rm : Room} {Pc : Array Value → State → Prop} {Qc : Array Value → State → Outcome → State → Prop} {X : String → State → State → Prop} {mc ms : Nat} {free : Addr → Prop} {bytes : ByteArray} {maxL : Nat} {ret : Option FieldType} {hh : List (Nat × Nat × Nat × Nat)}
theorem h_core (hM : xMet l y ws rm Pc Qc X mc ms free) (hbl : FrameBlind Pc) (hrc : rm.cells = mc) (hrs : rm.slots = ms) (hfr0 : rm.frames + 1 ≤ R.frames) (hlo : 8 + (maxL + 11) + rm.locals ≤ R.locals)
    (hws : ∀ w ∈ ws, ∀ (a' : Array Value) (U : State), s.WarmedH U.vm → w.before a' U = true) (hcw : Cond.codeWith y bytes maxL ret hh ∈ ws) (hini : ∀ (a' : Array Value) (U : State), s.WarmedH U.vm → (Cond.initialized y.cls).before a' U = true)
    {U : State} (S0 : Stand p l e R s m args below meth c U locs cells slots) {g : JFrame} (hg : g.method = m) (hsize : g.locals.size = c.maxLocals) {ig : Instr} (hdg : decode c.code g.pc = .ok (ig, 3)) (hW : 2 * g.monitorRoom + (g.stack.map fun v => v.category).sum ≤ 8)
    {mk : MethodId} (hn : U.methodNamed? y = some mk) {a : Array Value} (hcs : cells + mc ≤ R.cells ∧ slots + ms ≤ R.slots) (hP : Pc a U) :
    (∃ (v : Option Value) (t T' : State) (L : List Loc), Stand p l e R s m args below meth c T' (locs ++ L) (cells + mc) (slots + ms) ∧ (∀ q ∈ L, free q.base) ∧ T'.heap = t.heap ∧ Qc a (U.calling g mk a) (.returned v) t ∧
      Steps p.tables e below (doInvoke e (U.setTop g) [] mk a).1 (T'.setTop { g with pc := g.pc + 3, stack := v.toList ++ g.stack })) ∨
    (∃ (q : Addr) (t T' : State) (L : List Loc) (E : String) (ce : Cell), Stand p l e R s m args below meth c T' (locs ++ L) (cells + mc) (slots + ms) ∧ (∀ z ∈ L, free z.base) ∧ T'.heap = t.heap ∧ X E (U.calling g mk a) t ∧ (t.heap[q]? = some ce ∧ ce.vm = .none ∧ U.vm.findClass E = some ce.cls) ∧
      Steps p.tables e below (doInvoke e (U.setTop g) [] mk a).1 ((T'.setTop g).pushFrame (.throwing q))) := by
  have hpre : (headSpec ws rm).pre.before a U = true := atoms_intro fun w hw => hws w hw _ _ S0.warmed
  have hc1 : (Cond.codeWith y bytes maxL ret hh).before a U = true := hws _ hcw _ _ S0.warmed
  obtain ⟨mY, methY, cY, hnY, hmY, hcY, -, hlY, -, -, -, -⟩ := Cond.codeWith_spec hc1
  cases hn.symm.trans hnY
  obtain ⟨kY, hkY, -⟩ := className_of_methodNamed hn
  have hinitY : kY.init = .initialized := Cond.initialized_spec (findClass_of_methodNamed hn) hkY (hini a U S0.warmed)
  have h : At U g.method c below := by rw [hg]; exact S0.here
  have happ : (headSpec ws rm).appliesLoose y e.platform (U.calling g mk a) = true := by
    refine Spec.appliesLoose_calling (g := g) h hdg hn hkY hinitY (S0.room_calling (g := g) (R' := (headSpec ws rm).room) hsize hmY hcY hfr0 ?_ ?_ ?_) hpre
    · have h9 : 8 + (maxL + 11) + (headSpec ws rm).room.locals ≤ R.locals := hlo
      rw [hlY]; omega
    · rw [show (headSpec ws rm).room.cells = mc from hrc]; exact hcs.1
    · rw [show (headSpec ws rm).room.slots = ms from hrs]; exact hcs.2
  obtain ⟨mid, hmid⟩ := h.above
  have hfr : (U.setTop g).frames = (.java g :: mid) ++ below := by rw [State.frames_setTop' g h.top, hmid]; rfl
  obtain ⟨o, s₂, hsteps, -, hend, hq⟩ := Steps.callFree hM p S0.admits S0.cas S0.clock (acts := []) hfr happ (hbl _ _ _ _ hP) trivial
  have hq' : xQ Qc X mc ms free a (U.calling g mk a) o s₂ := hq
  rw [State.frames_setTop' g h.top] at hend
  obtain ⟨L, hW', hsm, hL⟩ : ∃ L : List Loc, U.WarmedH s₂.vm ∧ (U.calling g mk a).sameButNew ({ s₂ with vm := (U.calling g mk a).vm } : State) L mc ms ∧ ∀ z ∈ L, free z.base := by
    rcases hq' with ⟨-, L, hfe, hL⟩ | ⟨q, -, E, ce, L, -, h1, h2, h3⟩
    · exact ⟨L, hfe.2.1, hfe.2.2, hL⟩
    · exact ⟨L, h1, h2, h3⟩
  obtain ⟨e2, q2, q3, q4, q5, q6⟩ := hsm
  have e3 : s₂ = ({ (U.calling g mk a).setFrames s₂.frames with heap := s₂.heap, slotsUsed := s₂.slotsUsed } : State).setVm s₂.vm := by
    have h9 : s₂ = ({ s₂ with vm := (U.calling g mk a).vm } : State).setVm s₂.vm := rfl
    rw [e2] at h9
    exact h9
  obtain ⟨g₀, hg0⟩ := Option.isSome_iff_exists.mp h.top
  obtain ⟨r, hr⟩ := State.topJava?_eq_some.mp hg0
  obtain ⟨T', hT'⟩ : ∃ T' : State, T' = (({ U with heap := s₂.heap, slotsUsed := s₂.slotsUsed } : State).setVm s₂.vm) := ⟨_, rfl⟩
  have hr' : T'.frames = .java g₀ :: r := by rw [hT']; exact hr
  have hsame : U.sameButNew ({ U with heap := s₂.heap, slotsUsed := s₂.slotsUsed } : State) L mc ms := by
    refine ⟨?_, q2, q3, q4, q5, q6⟩
    obtain ⟨t, ht, -⟩ := State.frames_cons hr
    show ({ U with heap := s₂.heap, slotsUsed := s₂.slotsUsed } : State) = { U.setFrames U.frames with heap := s₂.heap, slotsUsed := s₂.slotsUsed }
    rw [State.setFrames_self ht]
  have S1 : Stand p l e R s m args below meth c T' (locs ++ L) (cells + mc) (slots + ms) := by
    rw [hT']
    exact ⟨S0.admits, S0.cas, S0.clock, S0.frames, S0.room, S0.hears, S0.method, S0.code, (S0.here.setHeapUsed s₂.heap s₂.slotsUsed).setVm hW'.alike, S0.tail, State.WarmedH.trans S0.warmed hW', S0.limits, S0.bytes, S0.same.trans (hsame.setVm s.vm)⟩
  have hh : T'.heap = s₂.heap := by rw [hT']; rfl
  rcases hq' with ⟨hqc, L2, hfe, -⟩ | ⟨q, rfl, E, ce, L2, ⟨hX, hce⟩, -⟩
  · obtain ⟨⟨v, rfl⟩, -⟩ := hfe
    obtain ⟨c₂, i₂, len₂, hc₂, hd₂, hf₂⟩ := hend
    have hcc : c₂ = c := by
      have h1 : s₂.code? g.method = U.code? g.method := by
        rw [State.code?_eq, State.code?_eq, hW'.alike.method?]
      exact Option.some.inj (hc₂.symm.trans (h1.trans h.code))
    subst hcc
    have hlen : len₂ = 3 := by rw [hdg] at hd₂; cases hd₂; rfl
    subst hlen
    refine Or.inl ⟨v, s₂, T', L, S1, hL, hh, hqc, ?_⟩
    have hs₂ : s₂ = T'.setTop { g with pc := g.pc + 3, stack := v.toList ++ g.stack } := by
      refine e3.trans ?_
      rw [hf₂, State.calling_eq h.top, State.setFrames_setFrames, State.setTop_of_frames _ hr', hr, hT']
      rfl
    rw [← hs₂]
    exact hsteps
  · refine Or.inr ⟨q, s₂, T', L, E, ce, S1, hL, hh, hX, hce, ?_⟩
    have hf₂ : s₂.frames = .throwing q :: .java g :: U.frames.tail := hend
    have hs₂ : s₂ = (T'.setTop g).pushFrame (.throwing q) := by
      refine e3.trans ?_
      rw [hf₂, State.calling_eq h.top, State.setFrames_setFrames, State.pushFrame, State.frames_setTop _ hr', State.setTop_of_frames _ hr', State.setFrames_setFrames, hr, hT']
      rfl
    rw [← hs₂]
    exact hsteps
end HCore
/-- a method with handlers, that returns -/
def kMH (l : Launch) (y : MethodName) (cc : ByteArray) (n : Nat) (ret : Option FieldType) (hh : List (Nat × Nat × Nat × Nat)) (rm : Room) (D : va_G) (cl : List vw_C) (tys : List (ClassId × FieldType)) (tw : Nat) (as : List Value) (w : va_W) (rv : Option Value) (w' : va_W) : Prop :=
  ∀ sz, xMet l y (kWH y cc n ret hh) rm (kPc D cl tys tw as w sz) (kQ D cl tys (va_A w sz) True rv w') (fun _ _ _ => False) rm.cells rm.slots (va_A w sz)
theorem k_ofH {l : Launch} {y : MethodName} {cc : ByteArray} {n : Nat} {ret : Option FieldType} {hh : List (Nat × Nat × Nat × Nat)} {rm : Room} {D : va_G} {cl : List vw_C} {tys : List (ClassId × FieldType)} {tw : Nat} {as : List Value} {w : va_W} {rv : Option Value} {w' : va_W}
    (hy : plainName y.cls = true) (hn : (lg_sl as).length ≤ n)
    (body : ∀ (p : Program) (e : Env) (s : State) (m : MethodId) (below : List Frame) (meth : Method) (c : Code) (A : Nat → Prop) (ls : Array Slot), p.tables.exec = Jvm.exec → c.code = cc → meth.sig.returnType = ret → meth.locks = false → c.maxLocals = n → c.exceptionTable.toList = tableOf hh → (∀ w ∈ kWH y cc n ret hh, w.before as.toArray s = true) → s.vm.findClass y.cls = some m.cls → (∀ q, s.heap.size ≤ q → A q) → va_P D cl w s.heap → va_K D cl tys s → va_D A w → va_S A s.heap s.heap [] → kZ tw A s → lv_has ls n (lv_args 0 as) → W p l e rm s m as.toArray below meth c s.heap [] 0 0 (xMQ below (kQ D cl tys A True rv w') (fun _ _ _ => False) as.toArray s rm.cells rm.slots A) (F0 m 0 ls [])) : kMH l y cc n ret hh rm D cl tys tw as w rv w' := by
  intro sz
  refine MetFree.of_bodyS (code := cc) (maxLocals := n) (ret := ret) hy ?_ ?_
  · intro args s m h hn
    obtain ⟨m', meth, c, h0, h1, h2, h3, h4, -, h5, h6, -⟩ := Cond.codeWith_spec (atoms_spec (ws := kWH y cc n ret hh) h _ List.mem_cons_self)
    cases hn.symm.trans h0
    exact ⟨meth, c, h1, h2, h3, h4, h5, h6⟩
  · intro p e s m args' below meth c s₁ B hml hv _
    obtain ⟨rfl, hsz, ⟨hP, hK, hD0⟩, hZ⟩ := hv
    subst hsz
    have hl := lv_entry as (n := n) hn
    have hh0 : s₁.heap = s.heap := by rw [B.state]; rfl
    have hts := atoms_spec (ws := kWH y cc n ret hh) B.pre
    obtain ⟨m', meth', c', g0, g1, g2, -, -, g7, -⟩ := Cond.codeWith_spec (hts _ List.mem_cons_self)
    cases B.named.symm.trans g0
    cases B.method.symm.trans g1
    have hcc : meth.code = some c := (Stand.of_body B).code
    cases hcc.symm.trans g2
    have hex : c.exceptionTable.toList = tableOf hh := by rw [← g7]; exact (table_eq _).symm
    have hw := body p e s m below meth c _ _ B.exec B.bytes B.returns B.notSynchronized hml hex hts (findClass_of_methodNamed B.named) (fun q h => Or.inr h) hP hK hD0.self va_S.rf hZ hl
    rw [← lg_entry_eq] at hw
    obtain ⟨t, a1, o, b1, b2, b3⟩ := hw s₁ hh0 (Stand.of_body B)
    exact ⟨t, o, a1, b1, b2, b3⟩
def kIH (y : MethodName) (bytes : ByteArray) (maxL : Nat) (ret : Option FieldType) (hh : List (Nat × Nat × Nat × Nat)) (n : Nat) : Prop := Cond.codeWith y bytes maxL ret hh ∈ kGW ∧ Cond.initialized y.cls ∈ kGW ∧ (y.cls ≠ "java/lang/invoke/MethodHandle" ∧ y.cls ≠ "java/lang/invoke/VarHandle") ∧ (parseMethodDescriptor y.desc).map (fun d => d.parameters.length) = some n ∧ Cond.static y ∈ kGW
section KHc
variable {p : Program} {l : Launch} {e : Env} {R : Room} {s : State} {m : MethodId} {args : Array Value} {below : List Frame} {meth : Method} {c : Code} {H : Heap} {locs : List Loc} {cells slots : Nat} {Q : State → Prop}
variable {cc : ByteArray} {pc nL : Nat} {ls : Array Slot} {rest st0 : List Value} {D : va_G} {cl : List vw_C} {A : Nat → Prop} {tys : List (ClassId × FieldType)} {tw : Nat}
variable {y : MethodName} {bytes : ByteArray} {maxL n index : Nat} {ret : Option FieldType} {hh : List (Nat × Nat × Nat × Nat)} {rm : Room} {b : Nat} {As : List Value} {w w' wx w2 : va_W} {rv : Option Value} {C : Prop} {EX : String → Prop} {Ts : List Cond} {own : String}
/-- invokestatic of a method with handlers, on a part of the world -/
theorem k_callSH (hM : kMH l y bytes maxL ret hh rm D cl tys tw As w rv w') (hI : kIH y bytes maxL ret hh n) (hlk : Cond.methodLink own index y ∈ kGW)
    (hT : ∀ w ∈ kGW, w ∈ Ts) (hx : p.tables.exec = Jvm.exec) (hb : c.code = cc) (hml : c.maxLocals = nL) (hown : s.vm.findClass own = some m.cls) (hts : ∀ w ∈ Ts, w.before args s = true) (hR : rm.frames + 1 ≤ R.frames ∧ 8 + (maxL + 11) + rm.locals ≤ R.locals) (hcs : cells + rm.cells ≤ R.cells ∧ slots + rm.slots ≤ R.slots)
    (hK : va_K D cl tys s) (hP : va_P D cl w H) (hP2 : va_P D cl w2 H) (hD : kSp A w w2) (hS : va_S A s.heap H locs) (hA : ∀ q, s.heap.size ≤ q → A q) (hZ : kZ tw A s) (hsz : ls.size = nL) (hn : As.length = n) (hst : st0 = As.reverse ++ rest) (h8 : (rest.map fun v => v.category).sum ≤ 8) (hdg : decode cc pc = .ok (.invokestatic index, 3))
    (kk : ∀ (H1 : Heap) (locs1 : List Loc), va_P D cl w' H1 → va_P D cl w2 H1 → kSp A w' w2 → va_S A s.heap H1 locs1 → W p l e R s m args below meth c H1 locs1 (cells + rm.cells) (slots + rm.slots) Q (F0 m (pc + 3) ls (rv.toList ++ rest))) : W p l e R s m args below meth c H locs cells slots Q (F0 m pc ls st0) := by
  intro T hTH X
  subst hst
  have hsub := kA_sub hD.1 hS hA
  obtain ⟨hcode, hini, hy, hpd, hstc⟩ := hI
  obtain ⟨mk, methM, cM, hnamed, hmethM, -, -, -, -, -, -, hsigM⟩ := Cond.codeWith_spec (hts _ (hT _ hcode))
  have hstM := Cond.static_spec hnamed hmethM (hts _ (hT _ hstc))
  obtain ⟨kP, hkP, -⟩ := className_of_methodNamed hnamed
  have hkPi : kP.init = .initialized := Cond.initialized_spec (findClass_of_methodNamed hnamed) hkP (hts _ (hT _ hini))
  have hlen : As.length = methM.sig.parameters.length := by
    rw [hsigM] at hpd
    exact hn.trans (Option.some.inj hpd).symm
  obtain ⟨vm₁, X₁, hstep₁⟩ := X.invokestatic hx hown (hts _ (hT _ hlk)) hnamed hmethM hstM hkP hkPi hy (g := F0 m pc ls (As.reverse ++ rest)) rfl (argsL := As) (rest := rest) hlen rfl (by rw [hb]; exact hdg)
  have hpay := pay_in hts (kW_in hT hcode)
  have hinW : ∀ (a' : Array Value) (U : State), s.WarmedH U.vm → (Cond.initialized y.cls).before a' U = true := fun a' U hW => word_at hW (good_of_word (List.mem_filter.mp hini).2) (hts _ (hT _ hini))
  have hH1 : (T.setVm vm₁).heap = H := hTH
  rcases h_core (hM H.size) kPc_blind rfl rfl hR.1 hR.2 hpay List.mem_cons_self hinW X₁ (g := F0 m pc ls rest) rfl (hsz.trans hml.symm) (by rw [hb]; exact hdg) (lv_room h8) (X₁.named hnamed) hcs (k_pre hP hK hD.1 hS hA hZ (T.setVm vm₁) hH1 X₁.warmed) with ⟨v, t, T', L, S1, hL, e1, ⟨⟨-, hv⟩, ⟨hP1, -, hD1⟩, hF⟩, st⟩ | ⟨q, t, T', L, E, ce, S1, hL, e1, hE, -, st⟩
  · cases hv
    obtain ⟨k2, k3⟩ := k_keep (H := H) (T' := T') hH1 e1 hS hsub hsub hL hF
    obtain ⟨t2, a1, b1⟩ := kk T'.heap (locs ++ L) (by rw [e1]; exact hP1) (kSp_keep hD hP2 k2) (kSp_new hD hP2 hsub hD1) k3 T' rfl S1
    exact ⟨t2, hstep₁ _ fun acts => by rw [doInvoke_state]; exact st.trans a1, b1⟩
  · exact hE.elim
/-- invokevirtual on a part of the world; the callee may throw -/
theorem k_partVX (hM : kMX l y bytes maxL ret rm D cl tys tw (.ref b :: As) w C rv w' EX wx) (hI : kIV y bytes maxL ret n) (hlk : Cond.methodLink own index y ∈ kGW) (q0 ci : Nat) {fs : List Value} {q : vw_C} (hci : cl[ci]? = some q) (hqc : q.1 = y.cls) (he : w[q0]? = some (b, .inr (ci, fs)))
    (hT : ∀ w ∈ kGW, w ∈ Ts) (hx : p.tables.exec = Jvm.exec) (hb : c.code = cc) (hml : c.maxLocals = nL) (hown : s.vm.findClass own = some m.cls) (hts : ∀ w ∈ Ts, w.before args s = true) (hR : rm.frames + 1 ≤ R.frames ∧ 8 + (maxL + 11) + rm.locals ≤ R.locals) (hcs : cells + rm.cells ≤ R.cells ∧ slots + rm.slots ≤ R.slots)
    (hK : va_K D cl tys s) (hP : va_P D cl w H) (hP2 : va_P D cl w2 H) (hD : kSp A w w2) (hS : va_S A s.heap H locs) (hA : ∀ q, s.heap.size ≤ q → A q) (hZ : kZ tw A s) (hsz : ls.size = nL) (hn : As.length = n) (hst : st0 = As.reverse ++ .ref b :: rest) (h8 : (rest.map fun v => v.category).sum ≤ 8) (hdg : decode cc pc = .ok (.invokevirtual index, 3))
    (kx : ∀ (E : String) (ce : Cell) (q9 : Addr) (H1 : Heap) (locs1 : List Loc), EX E → va_P D cl (wx ++ w2) H1 → va_D A (wx ++ w2) → va_S A s.heap H1 locs1 → H1[q9]? = some ce → ce.vm = .none → s.vm.findClass E = some ce.cls → xW p l e R s m args below meth c H1 locs1 (cells + rm.cells) (slots + rm.slots) Q (F0 m pc ls rest) q9)
    (kk : ∀ (H1 : Heap) (locs1 : List Loc), C → va_P D cl (w' ++ w2) H1 → va_D A (w' ++ w2) → va_S A s.heap H1 locs1 → W p l e R s m args below meth c H1 locs1 (cells + rm.cells) (slots + rm.slots) Q (F0 m (pc + 3) ls (rv.toList ++ rest))) : W p l e R s m args below meth c H locs cells slots Q (F0 m pc ls st0) := by
  have hrc := va_recv hK hP hci he
  rw [hqc] at hrc
  have hsub := kA_sub hD.1 hS hA
  exact k_runVX hM hI hlk hrc hT hx hb hml hown hts hR hcs hK hP hD.1 hS hA hZ hsz hn hst h8 hdg
    (fun E ce q9 H1 locs1 hE h1 h2 h4 h3 => kx E ce q9 H1 locs1 hE (h1.app (kSp_keep hD hP2 h4)) (kSp_to (kSp_new hD hP2 hsub h2)) h3)
    (fun H1 locs1 hC h1 h2 h4 h3 => kk H1 locs1 hC (h1.app (kSp_keep hD hP2 h4)) (kSp_to (kSp_new hD hP2 hsub h2)) h3)
/-- .. that returns -/
theorem k_partV (hM : kM l y bytes maxL ret rm D cl tys tw (.ref b :: As) w rv w') (hI : kIV y bytes maxL ret n) (hlk : Cond.methodLink own index y ∈ kGW) (q0 ci : Nat) {fs : List Value} {q : vw_C} (hci : cl[ci]? = some q) (hqc : q.1 = y.cls) (he : w[q0]? = some (b, .inr (ci, fs)))
    (hT : ∀ w ∈ kGW, w ∈ Ts) (hx : p.tables.exec = Jvm.exec) (hb : c.code = cc) (hml : c.maxLocals = nL) (hown : s.vm.findClass own = some m.cls) (hts : ∀ w ∈ Ts, w.before args s = true) (hR : rm.frames + 1 ≤ R.frames ∧ 8 + (maxL + 11) + rm.locals ≤ R.locals) (hcs : cells + rm.cells ≤ R.cells ∧ slots + rm.slots ≤ R.slots)
    (hK : va_K D cl tys s) (hP : va_P D cl w H) (hP2 : va_P D cl w2 H) (hD : kSp A w w2) (hS : va_S A s.heap H locs) (hA : ∀ q, s.heap.size ≤ q → A q) (hZ : kZ tw A s) (hsz : ls.size = nL) (hn : As.length = n) (hst : st0 = As.reverse ++ .ref b :: rest) (h8 : (rest.map fun v => v.category).sum ≤ 8) (hdg : decode cc pc = .ok (.invokevirtual index, 3))
    (kk : ∀ (H1 : Heap) (locs1 : List Loc), va_P D cl w' H1 → va_P D cl w2 H1 → kSp A w' w2 → va_S A s.heap H1 locs1 → W p l e R s m args below meth c H1 locs1 (cells + rm.cells) (slots + rm.slots) Q (F0 m (pc + 3) ls (rv.toList ++ rest))) : W p l e R s m args below meth c H locs cells slots Q (F0 m pc ls st0) := by
  have hrc := va_recv hK hP hci he
  rw [hqc] at hrc
  have hsub := kA_sub hD.1 hS hA
  have hr : va_Run p l e R s m args below meth c H locs cells slots rm.cells rm.slots (F0 m pc ls st0) rest (kQ D cl tys (va_A w H.size) True rv w' (Value.ref b :: As).toArray) (va_A w H.size) := va_runV (As := As) (rest := rest) (C := y.cls) ⟨hx, hb, hml, hown, hts⟩ (hM H.size) ⟨k_cb hI.1 hT hts hlk hR, hts _ (hT _ hI.2.1), hts _ (hT _ hI.2.2)⟩ ⟨kPc_blind, hrc, k_pre hP hK hD.1 hS hA hZ⟩ rfl hn hsz hst (lv_room h8) hdg hcs
  intro T hT9 X
  obtain ⟨v, st₀, t, T', L, h0, X', hL, e1, e2, ⟨⟨-, hv⟩, ⟨hP1, -, hD1⟩, hF⟩, st⟩ := hr T hT9 X
  cases hv
  obtain ⟨k2, k3⟩ := k_keep h0 e1 hS hsub hsub hL hF
  obtain ⟨t2, a1, b1⟩ := kk T'.heap (locs ++ L) (by rw [e1]; exact hP1) (kSp_keep hD hP2 k2) (kSp_new hD hP2 hsub hD1) k3 T' rfl X'
  exact ⟨t2, st t2 a1, b1⟩
end KHc

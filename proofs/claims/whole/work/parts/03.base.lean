/-! ONE LIST OF WORDS FOR EVERY METHOD: all good words of the tables; the nest's words come with the world's statics (kZ). -/
def kGW : List Cond := lw_tbl.filter goodWord
theorem kGW_of {w : Cond} (h : w ∈ lw_tbl) (hg : goodWord w = true) : w ∈ kGW := List.mem_filter.mpr ⟨h, hg⟩
theorem kGW_tbl {w : Cond} (h : w ∈ kGW) : w ∈ lw_tbl := (List.mem_filter.mp h).1
abbrev kW (y : MethodName) (cc : ByteArray) (n : Nat) (ret : Option FieldType) : List Cond := Cond.code y cc n ret :: kGW
abbrev kWH (y : MethodName) (cc : ByteArray) (n : Nat) (ret : Option FieldType) (hh : List (Nat × Nat × Nat × Nat)) : List Cond := Cond.codeWith y cc n ret hh :: kGW
theorem kW_in {Ts : List Cond} (hT : ∀ w ∈ kGW, w ∈ Ts) {c0 : Cond} (h : c0 ∈ kGW) : GoodIn Ts (c0 :: kGW) := by
  intro w hw
  rcases List.mem_cons.mp hw with e | h1
  · subst e
    exact ⟨hT _ h, good_of_word (List.mem_filter.mp h).2⟩
  · exact ⟨hT _ h1, good_of_word (List.mem_filter.mp h1).2⟩
def kNest : Cond → Bool
  | .fieldLinkNest .. => true
  | .methodLinkNest .. => true
  | .declares .. => true
  | .castable .. => true
  | _ => false
def kNW : List Cond := lw_tbl.filter kNest
theorem kNW_of {w : Cond} (h : w ∈ lw_tbl) (hg : kNest w = true) : w ∈ kNW := List.mem_filter.mpr ⟨h, hg⟩
def kN (U : State) : Prop := ∀ w ∈ kNW, va_Nw w U
theorem kN_warm {s U : State} (hW : s.WarmedH U.vm) (h : kN s) : kN U := by
  intro w hw
  have h1 := h w hw
  have h2 := (List.mem_filter.mp hw).2
  cases w with
  | fieldLinkNest a i b n d h => exact va_Nw.warmF hW h1
  | methodLinkNest a i x h => exact va_Nw.warmM hW h1
  | declares x => exact va_Nw.warmD hW h1
  | castable x y => exact va_tabs rfl (rfl : (s.setVm U.vm).vm = U.vm) (by rw [Cond.castable_setVm hW.alike]; exact h1)
  | _ => simp [kNest] at h2
theorem kN_same {u U : State} (e : u.vm = U.vm) (h : kN u) : kN U := by
  intro w hw
  have h1 := h w hw
  have h2 := (List.mem_filter.mp hw).2
  cases w with
  | fieldLinkNest a i b n d h => exact va_Nw.same rfl e h1
  | methodLinkNest a i x h => exact va_Nw.same rfl e h1
  | declares x => exact va_Nw.same rfl e h1
  | castable x y => exact va_Nw.same rfl e h1
  | _ => simp [kNest] at h2
theorem kN_of {args : Array Value} {s : State} (hts : ∀ w ∈ lw_tbl, w.before args s = true) : kN s := by
  intro w hw
  have h1 := hts w (List.mem_filter.mp hw).1
  have h2 := (List.mem_filter.mp hw).2
  cases w with
  | fieldLinkNest a i b n d h => exact va_Nw.of rfl h1
  | methodLinkNest a i x h => exact va_Nw.of rfl h1
  | declares x => exact va_Nw.of rfl h1
  | castable x y => exact va_Nw.of rfl h1
  | _ => simp [kNest] at h2
/-! WHAT NO METHOD WRITES: the statics that a throw reads, the table of widths, the nest's words, which exceptions are not which -/
def kHW : List (String × String) := [("UNASSIGNED_STACK", Bundle.steD), ("SUPPRESSED_SENTINEL", Bundle.listD)]
def kThr (U : State) : Prop := ∀ q ∈ kHW, (Cond.laysStatic Bundle.tN q.1 q.2).before #[] U = true ∧ (Cond.isRef (.static Bundle.tN q.1 q.2)).before #[] U = true
theorem kst_move {s U : State} {C n d : String} {b1 b2 : Array Value} (hal : s.vm.Alike U.vm) (hh : ∀ (a : Nat) (cell : Cell), s.heap[a]? = some cell → cell.vm.isStatics = true → U.heap[a]? = some cell)
    (h1 : (Cond.laysStatic C n d).before b1 s = true) (h2 : (Cond.isRef (.static C n d)).before b1 s = true) : (Cond.laysStatic C n d).before b2 U = true ∧ (Cond.isRef (.static C n d)).before b2 U = true := by
  obtain ⟨c, k, i, f, a, cell, hc, hi, hst, ha, hcell, hs, hcls, hlt, hty⟩ := Cond.laysStatic_spec h1
  obtain ⟨k', hi', hek⟩ := State.fieldFound?_setVm hal hi
  have hi2 : U.fieldFound? C n d = some (c, k', i, f) := hi'
  have hc2 : U.vm.findClass C = some c := by rw [hal.findClass]; exact hc
  have hcell2 := hh a cell hcell hs
  refine ⟨Cond.laysStatic_of hc2 hi2 hst (by rw [hek]; exact ha) hcell2 hs hcls hlt (by rw [hek]; exact hty), ?_⟩
  cases hv : (Term.static C n d).eval b1 s none [] s with
  | none => simp [Cond.before, Cond.holds, Cond.value, hv] at h2
  | some v =>
    obtain ⟨hst', a', cell', ha', hcell', hs', hslot⟩ := Term.static_spec hi hv
    cases ha.symm.trans ha'
    cases hcell.symm.trans hcell'
    have hv2 : (Term.static C n d).eval b2 U none [] U = some v := Term.static_eval hi2 hst (by rw [hek]; exact ha) hcell2 hs hslot
    simp only [Cond.before, Cond.holds, Cond.value, hv] at h2
    simp only [Cond.before, Cond.holds, Cond.value, hv2]
    exact h2
theorem kThr_move {s U : State} (hal : s.vm.Alike U.vm) (hh : ∀ (a : Nat) (cell : Cell), s.heap[a]? = some cell → cell.vm.isStatics = true → U.heap[a]? = some cell) (h : kThr s) : kThr U :=
  fun q hq => kst_move hal hh (h q hq).1 (h q hq).2
/-- the cells that may be written hold no statics -/
def kNS (A : Nat → Prop) (s : State) : Prop := ∀ q, A q → ∀ cell, s.heap[q]? = some cell → cell.vm.isStatics = false
theorem kNS_of {D : va_G} {cl : List vw_C} {w : va_W} {s : State} {sz : Nat} (hP : va_P D cl w s.heap) (hsz : s.heap.size = sz) : kNS (va_A w sz) s := by
  intro q hq cell hc
  rcases hq with ⟨k, e, hk⟩ | hq
  · have h := hP k (q, e) hk
    cases e with
    | inl a =>
      have h1 : s.heap[q]? = some (vp_cell a.1 a.2) := h
      cases hc.symm.trans h1
      obtain ⟨cA, n, f⟩ := a
      rcases f with f | f | f | f | f <;> rfl
    | inr o =>
      obtain ⟨r, -, cell', h1, h2, h3, -⟩ := h
      cases hc.symm.trans h1
      rw [h3]; rfl
  · have := (Array.getElem?_eq_some_iff.mp hc).1
    omega
def kWd (j : Nat) : Nat := ([1, 2, 4, 8, 4, 4, 4] : List Nat).getD j 0
/-- pairs of an exception and a class that it is not -/
def kNcL : List (String × String) := [("java/lang/IllegalArgumentException", "java/lang/IllegalStateException"), ("java/lang/IllegalArgumentException", "java/util/NoSuchElementException"), ("java/lang/IllegalArgumentException", "java/lang/UnsupportedOperationException"), ("java/lang/IllegalArgumentException", "java/lang/IndexOutOfBoundsException"), ("java/lang/IllegalStateException", "java/lang/IllegalArgumentException"), ("java/lang/IllegalStateException", "java/util/NoSuchElementException"), ("java/lang/IllegalStateException", "java/lang/UnsupportedOperationException"), ("java/lang/IllegalStateException", "java/lang/IndexOutOfBoundsException"), ("java/util/NoSuchElementException", "java/lang/IllegalArgumentException"), ("java/util/NoSuchElementException", "java/lang/IllegalStateException"), ("java/util/NoSuchElementException", "java/lang/UnsupportedOperationException"), ("java/util/NoSuchElementException", "java/lang/IndexOutOfBoundsException"), ("java/lang/UnsupportedOperationException", "java/lang/IllegalArgumentException"), ("java/lang/UnsupportedOperationException", "java/lang/IllegalStateException"), ("java/lang/UnsupportedOperationException", "java/util/NoSuchElementException"), ("java/lang/UnsupportedOperationException", "java/lang/IndexOutOfBoundsException"), ("java/lang/IndexOutOfBoundsException", "java/lang/IllegalArgumentException"), ("java/lang/IndexOutOfBoundsException", "java/lang/IllegalStateException"), ("java/lang/IndexOutOfBoundsException", "java/util/NoSuchElementException"), ("java/lang/IndexOutOfBoundsException", "java/lang/UnsupportedOperationException")]
def kZ (tw : Nat) (A : Nat → Prop) (U : State) : Prop :=
  kThr U ∧ (va_Z "FlatStore" "WIDTHS" "[I" (.ref tw) A U U.heap ∧ va_T .int tw 7 (fun j => .int (nI (kWd j))) A U U.heap) ∧ kN U ∧ (∀ q ∈ kNcL, va_Nc q.1 q.2 U) ∧ kNS A U
theorem kZ_call {tw : Nat} {A B : Nat → Prop} {s U : State} {H : Heap} {locs : List Loc} (h : kZ tw A s) (hS : va_S A s.heap H locs) (hW : s.WarmedH U.vm) (hU : U.heap = H) (hB : ∀ q, B q → A q) (hN : kNS B U) : kZ tw B U := by
  obtain ⟨h1, ⟨h3, h4⟩, h5, h6, h7⟩ := h
  refine ⟨kThr_move hW.alike (fun a cell hc hs => ?_) h1, ⟨?_, ?_⟩, kN_warm hW h5, fun q hq => (h6 q hq).moved hW.alike, hN⟩
  · rw [hU, hS.2.1 a (Array.getElem?_eq_some_iff.mp hc).1 (fun ha => by have := h7 a ha cell hc; rw [hs] at this; cases this)]
    exact hc
  · rw [hU]; exact ((h3.kept hS.2.1).narrow hB).moved hW.alike
  · rw [hU]; exact ((h4.kept hS.2.1).narrow hB).moved hW.alike
theorem kZ_vm {tw : Nat} {A : Nat → Prop} {u U : State} (e : u.vm = U.vm) (eh : u.heap = U.heap) (h : kZ tw A u) : kZ tw A U := by
  have ha : u.vm.Alike U.vm := by rw [e]; exact Vm.Alike.refl _
  obtain ⟨h1, ⟨h3, h4⟩, h5, h6, h7⟩ := h
  exact ⟨kThr_move ha (fun a cell hc _ => by rw [← eh]; exact hc) h1, ⟨by rw [← eh]; exact h3.moved ha, by rw [← eh]; exact h4.moved ha⟩, kN_same e h5, fun q hq => (h6 q hq).moved ha, fun q hq cell hc => h7 q hq cell (by rw [eh]; exact hc)⟩
/-! THE STANDARD CONTRACT: arguments, world before, answer, world behind; any start -/
def kAt (D : va_G) (cl : List vw_C) (tys : List (ClassId × FieldType)) (A : Nat → Prop) (w : va_W) (t : State) : Prop := va_P D cl w t.heap ∧ va_K D cl tys t ∧ va_D A w
def kQ (D : va_G) (cl : List vw_C) (tys : List (ClassId × FieldType)) (A : Nat → Prop) (C : Prop) (rv : Option Value) (w : va_W) : Array Value → State → Outcome → State → Prop := fun _ st oc t => (C ∧ oc = .returned rv) ∧ kAt D cl tys A w t ∧ va_F A st t
def kX (D : va_G) (cl : List vw_C) (tys : List (ClassId × FieldType)) (A : Nat → Prop) (EX : String → Prop) (w : va_W) : String → State → State → Prop := fun E st t => EX E ∧ kAt D cl tys A w t ∧ va_F A st t
def kPc (D : va_G) (cl : List vw_C) (tys : List (ClassId × FieldType)) (tw : Nat) (as : List Value) (w : va_W) (sz : Nat) : Array Value → State → Prop := fun v U => v = as.toArray ∧ U.heap.size = sz ∧ kAt D cl tys (fun _ => True) w U ∧ kZ tw (va_A w sz) U
theorem kPc_blind {D : va_G} {cl : List vw_C} {tys : List (ClassId × FieldType)} {tw : Nat} {as : List Value} {w : va_W} {sz : Nat} : FrameBlind (kPc D cl tys tw as w sz) := by
  intro a U g mk h
  obtain ⟨h1, h2, ⟨h3, h4, h5⟩, h6⟩ := h
  exact ⟨h1, h2, ⟨h3, va_K.moved (u := U) (U := U.calling g mk a) (Vm.Alike.refl U.vm) h4, h5⟩, kZ_vm (u := U) (U := U.calling g mk a) rfl rfl h6⟩
/-- a method that returns -/
def kM (l : Launch) (y : MethodName) (cc : ByteArray) (n : Nat) (ret : Option FieldType) (rm : Room) (D : va_G) (cl : List vw_C) (tys : List (ClassId × FieldType)) (tw : Nat) (as : List Value) (w : va_W) (rv : Option Value) (w' : va_W) : Prop :=
  ∀ sz, Met l y (kW y cc n ret) rm (kPc D cl tys tw as w sz) (kQ D cl tys (va_A w sz) True rv w') rm.cells rm.slots (va_A w sz)
theorem kA_sub {A : Nat → Prop} {w : va_W} {H0 H : Heap} {locs : List Loc} (hD : va_D A w) (hS : va_S A H0 H locs) (hA : ∀ q, H0.size ≤ q → A q) : ∀ q, va_A w H.size q → A q := by
  intro q h
  rcases h with ⟨k, e, h⟩ | h
  · exact hD.2 k (q, e) h
  · exact hA q (Nat.le_trans hS.1 h)
/-- the entry of a method that returns -/
theorem k_of {l : Launch} {y : MethodName} {cc : ByteArray} {n : Nat} {ret : Option FieldType} {rm : Room} {D : va_G} {cl : List vw_C} {tys : List (ClassId × FieldType)} {tw : Nat} {as : List Value} {w : va_W} {rv : Option Value} {w' : va_W}
    (hy : plainName y.cls = true) (hn : (lg_sl as).length ≤ n)
    (body : ∀ (p : Program) (e : Env) (s : State) (m : MethodId) (below : List Frame) (meth : Method) (c : Code) (A : Nat → Prop) (ls : Array Slot), p.tables.exec = Jvm.exec → c.code = cc → meth.sig.returnType = ret → meth.locks = false → c.maxLocals = n → (∀ w ∈ kW y cc n ret, w.before as.toArray s = true) → s.vm.findClass y.cls = some m.cls → (y.name = "<init>" → meth.name = "<init>") → (∀ q, s.heap.size ≤ q → A q) → va_P D cl w s.heap → va_K D cl tys s → va_D A w → va_S A s.heap s.heap [] → kZ tw A s → lv_has ls n (lv_args 0 as) → W p l e rm s m as.toArray below meth c s.heap [] 0 0 (MQ below (kQ D cl tys A True rv w') as.toArray s rm.cells rm.slots A) (F0 m 0 ls [])) : kM l y cc n ret rm D cl tys tw as w rv w' := by
  intro sz
  refine Met.ofW (cc := cc) (maxL := n) (ret := ret) hy rfl ?_
  intro p e s m args' below meth c s₁ B hml hv
  obtain ⟨rfl, hsz, ⟨hP, hK, hD0⟩, hZ⟩ := hv
  subst hsz
  have hl := lv_entry as (n := n) hn
  rw [lg_entry_eq]
  exact body p e s m below meth c _ _ B.exec B.bytes B.returns B.notSynchronized hml (atoms_spec (ws := kW y cc n ret) B.pre) (findClass_of_methodNamed B.named) (fun h => (name_of_methodNamed B.named B.method).1.trans h) (fun q h => Or.inr h) hP hK hD0.self va_S.rf hZ hl
theorem i_F : ∀ w ∈ u_ws R_F T_F 8, w ∈ kGW := by decide +kernel
theorem i_S : ∀ w ∈ u_ws R_S T_S 4, w ∈ kGW := by decide +kernel
theorem i_R : ∀ w ∈ u_ws R_R T_R 7, w ∈ kGW := by decide +kernel
theorem i_P : ∀ w ∈ u_ws R_P T_P 2, w ∈ kGW := by decide +kernel
theorem i_D : ∀ w ∈ u_ws R_D T_D 2, w ∈ kGW := by decide +kernel
theorem i_B : ∀ w ∈ u_ws R_B T_B 12, w ∈ kGW := by decide +kernel
theorem i_V : ∀ w ∈ u_ws R_V T_V 3, w ∈ kGW := by decide +kernel
theorem i_C : ∀ w ∈ u_ws R_C T_C 5, w ∈ kGW := by decide +kernel
theorem i_M : ∀ w ∈ u_ws R_M T_M 39, w ∈ kGW := by decide +kernel

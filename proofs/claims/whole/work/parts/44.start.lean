theorem wd_51f989b9 : Cond.instantiable R_F 8 ∈ kGW := kGW_of (List.mem_of_getElem? (i := 68) (by decide +kernel)) (by decide)
theorem wd_a871626b : Cond.instantiable R_M 39 ∈ kGW := kGW_of (List.mem_of_getElem? (i := 813) (by decide +kernel)) (by decide)
theorem wd_0a1b33b7 : Cond.classLink R_L 8 "FlatStore" ∈ kGW := kGW_of (List.mem_of_getElem? (i := 67) (by decide +kernel)) (by decide)
set_option maxRecDepth 20000 in
theorem wd_1ec02a73 : Cond.code y_F_init b_F_init 1 none ∈ kGW := kGW_of (List.mem_of_getElem? (i := 71) (by rfl)) (by decide)
theorem wd_f311ef98 : Cond.instanceMethod y_F_init ∈ kGW := kGW_of (List.mem_of_getElem? (i := 70) (by decide +kernel)) (by decide)
theorem wd_12b63a47 : Cond.methodLink R_L 80 y_F_init ∈ kGW := kGW_of (List.mem_of_getElem? (i := 69) (by decide +kernel)) (by decide)
theorem wd_b578e8c3 : Cond.classLink R_L 81 "FlatStoreModel" ∈ kGW := kGW_of (List.mem_of_getElem? (i := 812) (by decide +kernel)) (by decide)
set_option maxRecDepth 20000 in
theorem wd_bbaef9d1 : Cond.code y_M_init b_M_init 1 none ∈ kGW := kGW_of (List.mem_of_getElem? (i := 816) (by rfl)) (by decide)
theorem wd_7bddef4d : Cond.instanceMethod y_M_init ∈ kGW := kGW_of (List.mem_of_getElem? (i := 815) (by decide +kernel)) (by decide)
theorem wd_4348d6b9 : Cond.methodLink R_L 83 y_M_init ∈ kGW := kGW_of (List.mem_of_getElem? (i := 814) (by decide +kernel)) (by decide)
theorem st_nc : ∀ q ∈ kNcL, Cond.not (Cond.castable q.1 q.2) ∈ flatC (Jvm.Cond.and given_1 narrow_1) := by decide +kernel
theorem st_Z {s : State} {b : Nat} (hts : ∀ w ∈ lw_tbl, w.before #[Value.ref b] s = true) (hgv : (Jvm.Cond.and given_1 narrow_1).before #[Value.ref b] s = true) : ∃ tw, kZ tw (fun q : Nat => s.heap.size ≤ q) s := by
  have kT : ∀ w ∈ kGW, w ∈ lw_tbl := fun w h => kGW_tbl h
  have hf := flat_of_before _ hgv
  have hA : ∀ a : Nat, a < s.heap.size → ¬ (fun q : Nat => s.heap.size ≤ q) a := fun a h => Nat.not_le.mpr h
  obtain ⟨tw, hv, hT⟩ := va_Tof (tm := (.static "FlatStore" "WIDTHS" "[I")) (ty := .int) (N := 7) (f := fun j => .int (nI (kWd j))) (A := fun q : Nat => s.heap.size ≤ q) (by decide) (hf _ (by decide +kernel)) (va_eqt (hf (Cond.eq (.length (.static "FlatStore" "WIDTHS" "[I")) (.int 7)) (by decide +kernel))) (fun j hj => by
    rcases (show j = 0 ∨ j = 1 ∨ j = 2 ∨ j = 3 ∨ j = 4 ∨ j = 5 ∨ j = 6 by omega) with rfl | rfl | rfl | rfl | rfl | rfl | rfl
    · exact va_eqt (hf (Cond.eq (.elem (.static "FlatStore" "WIDTHS" "[I") (.int 0)) (.int 1)) (by decide +kernel))
    · exact va_eqt (hf (Cond.eq (.elem (.static "FlatStore" "WIDTHS" "[I") (.int 1)) (.int 2)) (by decide +kernel))
    · exact va_eqt (hf (Cond.eq (.elem (.static "FlatStore" "WIDTHS" "[I") (.int 2)) (.int 4)) (by decide +kernel))
    · exact va_eqt (hf (Cond.eq (.elem (.static "FlatStore" "WIDTHS" "[I") (.int 3)) (.int 8)) (by decide +kernel))
    · exact va_eqt (hf (Cond.eq (.elem (.static "FlatStore" "WIDTHS" "[I") (.int 4)) (.int 4)) (by decide +kernel))
    · exact va_eqt (hf (Cond.eq (.elem (.static "FlatStore" "WIDTHS" "[I") (.int 5)) (.int 4)) (by decide +kernel))
    · exact va_eqt (hf (Cond.eq (.elem (.static "FlatStore" "WIDTHS" "[I") (.int 6)) (.int 4)) (by decide +kernel))) hA
  refine ⟨tw, fun q hq => ?_, ⟨va_Zof (hts _ (List.mem_of_getElem? (i := 593) (by decide +kernel))) (hts _ (kT _ wd_c1885a87)) hv hA, hT⟩, kN_of hts, fun q hq => va_Nc.of (hf _ (st_nc q hq)), fun q h cell hc => absurd (Array.getElem?_eq_some_iff.mp hc).1 (Nat.not_lt.mpr h)⟩
  simp only [kHW, List.mem_cons, List.not_mem_nil, or_false] at hq
  rcases hq with rfl | rfl
  · exact kst_move (Vm.Alike.refl s.vm) (fun a cell hc _ => hc) (hts _ (List.mem_of_getElem? (i := 324) (by decide +kernel))) (hf _ (by decide +kernel))
  · exact kst_move (Vm.Alike.refl s.vm) (fun a cell hc _ => hc) (hts _ (List.mem_of_getElem? (i := 326) (by decide +kernel))) (hf _ (by decide +kernel))
theorem st_K {s : State} {b : Nat} (hts : ∀ w ∈ lw_tbl, w.before #[Value.ref b] s = true) : ∃ D : va_G, va_K D vwCl [] s := by
  have kT : ∀ w ∈ kGW, w ∈ lw_tbl := fun w h => kGW_tbl h
  obtain ⟨c0, i0, hK0⟩ := u_known (C := R_F) (T := T_F) (N := 8) (n := 8) hts (fun w h => kT w (i_F w h)) (hts _ (kT _ wd_51f989b9))
  obtain ⟨c1, i1, hK1⟩ := u_known (C := R_S) (T := T_S) (N := 4) (n := 4) hts (fun w h => kT w (i_S w h)) (hts _ (kT _ wd_7e3d33b1))
  obtain ⟨c2, i2, hK2⟩ := u_known (C := R_R) (T := T_R) (N := 7) (n := 7) hts (fun w h => kT w (i_R w h)) (hts _ (kT _ wd_fcab8c62))
  obtain ⟨c3, i3, hK3⟩ := u_known (C := R_P) (T := T_P) (N := 2) (n := 2) hts (fun w h => kT w (i_P w h)) (hts _ (kT _ wd_aa10c0c5))
  obtain ⟨c4, i4, hK4⟩ := u_known (C := R_D) (T := T_D) (N := 2) (n := 2) hts (fun w h => kT w (i_D w h)) (hts _ (kT _ wd_0569a742))
  obtain ⟨c5, i5, hK5⟩ := u_known (C := R_B) (T := T_B) (N := 12) (n := 12) hts (fun w h => kT w (i_B w h)) (hts _ (kT _ wd_ce843939))
  obtain ⟨c6, i6, hK6⟩ := u_known (C := R_V) (T := T_V) (N := 3) (n := 3) hts (fun w h => kT w (i_V w h)) (hts _ (kT _ wd_cd637ebc))
  obtain ⟨c7, i7, hK7⟩ := u_known (C := R_C) (T := T_C) (N := 5) (n := 5) hts (fun w h => kT w (i_C w h)) (hts _ (kT _ wd_bb56fa83))
  obtain ⟨c8, i8, hK8⟩ := u_known (C := R_M) (T := T_M) (N := 39) (n := 39) hts (fun w h => kT w (i_M w h)) (hts _ (kT _ wd_a871626b))
  refine ⟨(fun k => ([c0, c1, c2, c3, c4, c5, c6, c7, c8] : List ClassId).getD k 0, fun k => ([i0, i1, i2, i3, i4, i5, i6, i7, i8] : List (Nat → Nat)).getD k (fun _ => 0)), fun k q hq => ?_, fun k q h => by simp at h⟩
  match k, hq with
  | 0, hq => cases hq; exact hK0
  | 1, hq => cases hq; exact hK1
  | 2, hq => cases hq; exact hK2
  | 3, hq => cases hq; exact hK3
  | 4, hq => cases hq; exact hK4
  | 5, hq => cases hq; exact hK5
  | 6, hq => cases hq; exact hK6
  | 7, hq => cases hq; exact hK7
  | 8, hq => cases hq; exact hK8
  | k + 9, hq => simp [vwCl] at hq
theorem st_inv : RI (SR.mk (fun _ => 0 : Nat → Nat) (fun _ => 0 : Nat → Nat) (fun _ => 0 : Nat → Int32) (fun _ => false) (fun _ => 0 : Nat → Nat) (fun _ => false) (fun _ => 0 : Nat → Int64) (fun _ => 0 : Nat → Nat) (fun _ => 0 : Nat → Nat) (fun _ => 0 : Nat → Int32)) 0 (fun _ => 0 : Nat → Int64) ∧ PI (fun _ => 0 : Nat → Int32) 0 ∧ DI (fun _ => 0 : Nat → Nat) 0 ∧ CI (SR.mk (fun _ => 0 : Nat → Nat) (fun _ => 0 : Nat → Nat) (fun _ => 0 : Nat → Int32) (fun _ => false) (fun _ => 0 : Nat → Nat) (fun _ => false) (fun _ => 0 : Nat → Int64) (fun _ => 0 : Nat → Nat) (fun _ => 0 : Nat → Nat) (fun _ => 0 : Nat → Int32)) (fun _ => 0 : Nat → Nat) 0 false 0 0 0 0 ∧ OI (fun _ => 0 : Nat → Nat) (fun _ => 0 : Nat → Nat) ∧ ∀ i, (fun _ => 0 : Nat → Nat) i < 256 := by
  exact ⟨⟨⟨fun _ => (by decide : (0 : Nat) ≤ 6), fun _ => (by decide : (0 : Nat) < 7), fun _ => (by decide : (0 : Nat) < 4), fun _ => (by decide : (0 : Nat) ≤ 12), fun _ => (by decide : (0 : Nat) < 16), fun r f _ _ h => (by cases h), fun _ => rfl⟩, by decide, fun r f _ _ h => (by cases h), fun r f _ _ h => (by cases h), fun j h => (by cases h)⟩, ⟨by decide, fun _ => rfl⟩, ⟨fun _ => (by decide : (0 : Nat) < 256), by decide⟩, ⟨by decide, by decide, by decide, by decide, fun h => (by cases h)⟩, fun _ => ⟨(by decide : (0 : Nat) < 100000), (by decide : (0 : Nat) < 100000)⟩, fun _ => (by decide : (0 : Nat) < 256)⟩
set_option maxHeartbeats 4000000 in
set_option maxRecDepth 100000 in
theorem whole_start {p : Program} {e : Env} {s : State} {m : MethodId} {below : List Frame} {meth : Method} {c : Code} (l : Launch) (hl0 : l.stackTraces = false) {b L : Nat} {xs : Nat → Int32} (hL : L ≤ 2560) (C0 : lw_At p s m meth c b L xs) : W p l e room_1 s m #[Value.ref b] below meth c s.heap [] 0 0 (lw_Z below #[Value.ref b] s) (entryFrame m ([Value.ref b] : List Value).toArray 8) := by
  obtain ⟨hx, hb, hr, hml, hown, hts, hX, hbl, hlocks, hgv⟩ := C0
  have kT : ∀ w ∈ kGW, w ∈ lw_tbl := fun w h => kGW_tbl h
  obtain ⟨tw, hZ⟩ := st_Z hts hgv
  obtain ⟨D, hK⟩ := st_K hts
  generalize hAe : (fun q : Nat => s.heap.size ≤ q) = A at hZ
  have hA : ∀ q : Nat, s.heap.size ≤ q → A q := fun q h => by rw [← hAe]; exact h
  have hA2 : ∀ q : Nat, A q → s.heap.size ≤ q := fun q h => by rw [← hAe] at h; exact h
  have hS : va_S A s.heap s.heap [] := va_S.rf
  have hP : va_P D vwCl [] s.heap := fun k q h => by simp at h
  have hD : va_D A [] := ⟨fun i j p q h => by simp at h, fun k q h => by simp at h⟩
  have hl := lv_entry ([.ref b]) (n := 8) (Nat.le_of_ble_eq_true rfl)
  rw [lg_entry_eq]
  generalize (lg_sl ([.ref b]) ++ List.replicate (8 - (lg_sl ([.ref b])).length) Slot.unset).toArray = ls at hl ⊢
  have hl : lv_has ls 8 [(0, .ref b)] := hl
  refine va_new (ci := 0) (fs := [.null, .null, .null, .null, .null, .null, .null, .int 0]) (C := R_F) (T := T_F) (N := 8) hx hb hts (fun w h => kT w (i_F w h)) ty_F tyk_F hown (hts _ (kT _ wd_0a1b33b7)) (hts _ (kT _ wd_51f989b9)) (hts _ (kT _ wd_c1885a87)) hK hP hD hS hA rfl (fun j hj => by rcases (show j = 0 ∨ j = 1 ∨ j = 2 ∨ j = 3 ∨ j = 4 ∨ j = 5 ∨ j = 6 ∨ j = 7 by omega) with rfl | rfl | rfl | rfl | rfl | rfl | rfl | rfl <;> rfl) (Nat.le_of_ble_eq_true rfl) (Nat.le_of_ble_eq_true rfl) d_L_law_0 (fun q0 H hP hD hS => ?_)
  have hP : va_P D vwCl (([] : va_W) ++ [(q0, .inr (0, [.null, .null, .null, .null, .null, .null, .null, .int 0]))]) H := hP
  have hD : va_D A (([] : va_W) ++ [(q0, .inr (0, [.null, .null, .null, .null, .null, .null, .null, .int 0]))]) := hD
  refine lv_dup hx hb d_L_law_3 rfl ?_
  refine k_partI (n := 0) (n_F l D tw q0) ⟨wd_1ec02a73, wd_c1885a87, ⟨by decide, by decide⟩, by decide +kernel⟩ rfl wd_f311ef98 wd_12b63a47 kT hx hb hml hown hts ⟨Nat.le_of_ble_eq_true rfl, Nat.le_of_ble_eq_true rfl⟩ ⟨Nat.le_of_ble_eq_true rfl, Nat.le_of_ble_eq_true rfl⟩ (hK.sub (tys' := []) [] rfl) (kP_r hP) (kP_l hP) (kSp_of hD).swap hS hA hZ hl.1 rfl rfl (Nat.le_of_ble_eq_true rfl) d_L_law_4 (fun H locs w9 t9 hp9 hP hK9 hD hS => ?_)
  obtain ⟨a, g, rfl, rfl, e0⟩ := hp9
  have hKf : va_K D vwCl (WdT g) s := hK9
  have hP : va_P D vwCl (Wd a g (fun _ => 0) (fun _ => 0) (fun _ => 0) (fun _ => false) (fun _ => 0) (fun _ => false) (fun _ => 0) (fun _ => 0) (fun _ => 0) (fun _ => 0) 0 (fun _ => 0) 0 (fun _ => 0) 0 (fun _ => 0) (fun _ => false) (fun _ => 0) (fun _ => 0) (fun _ => 0) (fun _ => 0) (fun _ => 0) 0 0 0 0 false 0 0 0 0 (-1)) H := hP
  have hD : va_D A (Wd a g (fun _ => 0) (fun _ => 0) (fun _ => 0) (fun _ => false) (fun _ => 0) (fun _ => false) (fun _ => 0) (fun _ => 0) (fun _ => 0) (fun _ => 0) 0 (fun _ => 0) 0 (fun _ => 0) 0 (fun _ => 0) (fun _ => false) (fun _ => 0) (fun _ => 0) (fun _ => 0) (fun _ => 0) (fun _ => 0) 0 0 0 0 false 0 0 0 0 (-1)) := hD
  refine W.eq (g2 := F0 m 7 ls [.ref (a 0)]) (by rw [e0]) ?_
  refine lv_astore_n (lv' := [(1, .ref (a 0)), (0, .ref b)]) hx hb d_L_law_7 rfl hl (by decide) rfl (fun ls hl => ?_)
  refine va_new (ci := 8) (fs := [.int 0, .null, .null, .null, .null, .null, .int 0, .null, .null, .null, .null, .null, .int 0, .null, .int 0, .int 0, .int 0, .null, .null, .null, .null, .null, .null, .int 0, .null, .null, .int 0, .int 0, .int 0, .int 0, .int 0, .int 0, .int 0, .int 0, .int 0, .int 0, .null, .null, .null]) (C := R_M) (T := T_M) (N := 39) hx hb hts (fun w h => kT w (i_M w h)) ty_M tyk_M hown (hts _ (kT _ wd_b578e8c3)) (hts _ (kT _ wd_a871626b)) (hts _ (kT _ wd_5cde94ae)) hK hP hD hS hA rfl (fun j hj => by rcases (show j = 0 ∨ j = 1 ∨ j = 2 ∨ j = 3 ∨ j = 4 ∨ j = 5 ∨ j = 6 ∨ j = 7 ∨ j = 8 ∨ j = 9 ∨ j = 10 ∨ j = 11 ∨ j = 12 ∨ j = 13 ∨ j = 14 ∨ j = 15 ∨ j = 16 ∨ j = 17 ∨ j = 18 ∨ j = 19 ∨ j = 20 ∨ j = 21 ∨ j = 22 ∨ j = 23 ∨ j = 24 ∨ j = 25 ∨ j = 26 ∨ j = 27 ∨ j = 28 ∨ j = 29 ∨ j = 30 ∨ j = 31 ∨ j = 32 ∨ j = 33 ∨ j = 34 ∨ j = 35 ∨ j = 36 ∨ j = 37 ∨ j = 38 by omega) with rfl | rfl | rfl | rfl | rfl | rfl | rfl | rfl | rfl | rfl | rfl | rfl | rfl | rfl | rfl | rfl | rfl | rfl | rfl | rfl | rfl | rfl | rfl | rfl | rfl | rfl | rfl | rfl | rfl | rfl | rfl | rfl | rfl | rfl | rfl | rfl | rfl | rfl | rfl <;> rfl) (Nat.le_of_ble_eq_true rfl) (Nat.le_of_ble_eq_true rfl) d_L_law_8 (fun q1 H hP hD hS => ?_)
  have hP : va_P D vwCl ((Wd a g (fun _ => 0) (fun _ => 0) (fun _ => 0) (fun _ => false) (fun _ => 0) (fun _ => false) (fun _ => 0) (fun _ => 0) (fun _ => 0) (fun _ => 0) 0 (fun _ => 0) 0 (fun _ => 0) 0 (fun _ => 0) (fun _ => false) (fun _ => 0) (fun _ => 0) (fun _ => 0) (fun _ => 0) (fun _ => 0) 0 0 0 0 false 0 0 0 0 (-1)) ++ [(q1, .inr (8, [.int 0, .null, .null, .null, .null, .null, .int 0, .null, .null, .null, .null, .null, .int 0, .null, .int 0, .int 0, .int 0, .null, .null, .null, .null, .null, .null, .int 0, .null, .null, .int 0, .int 0, .int 0, .int 0, .int 0, .int 0, .int 0, .int 0, .int 0, .int 0, .null, .null, .null]))]) H := hP
  have hD : va_D A ((Wd a g (fun _ => 0) (fun _ => 0) (fun _ => 0) (fun _ => false) (fun _ => 0) (fun _ => false) (fun _ => 0) (fun _ => 0) (fun _ => 0) (fun _ => 0) 0 (fun _ => 0) 0 (fun _ => 0) 0 (fun _ => 0) (fun _ => false) (fun _ => 0) (fun _ => 0) (fun _ => 0) (fun _ => 0) (fun _ => 0) 0 0 0 0 false 0 0 0 0 (-1)) ++ [(q1, .inr (8, [.int 0, .null, .null, .null, .null, .null, .int 0, .null, .null, .null, .null, .null, .int 0, .null, .int 0, .int 0, .int 0, .null, .null, .null, .null, .null, .null, .int 0, .null, .null, .int 0, .int 0, .int 0, .int 0, .int 0, .int 0, .int 0, .int 0, .int 0, .int 0, .null, .null, .null]))]) := hD
  refine lv_dup hx hb d_L_law_11 rfl ?_
  refine k_partI (n := 0) (n_M l D tw q1) ⟨wd_bbaef9d1, wd_5cde94ae, ⟨by decide, by decide⟩, by decide +kernel⟩ rfl wd_7bddef4d wd_4348d6b9 kT hx hb hml hown hts ⟨Nat.le_of_ble_eq_true rfl, Nat.le_of_ble_eq_true rfl⟩ ⟨Nat.le_of_ble_eq_true rfl, Nat.le_of_ble_eq_true rfl⟩ (hK.sub (tys' := []) [] rfl) (kP_r hP) (kP_l hP) (kSp_of hD).swap hS hA hZ hl.1 rfl rfl (Nat.le_of_ble_eq_true rfl) d_L_law_12 (fun H locs w9 t9 hp9 hP hK9 hD hS => ?_)
  obtain ⟨am, gm, rfl, rfl, e1⟩ := hp9
  have hKm : va_K D vwCl (WmT gm) s := hK9
  have hP : va_P D vwCl ((Wd a g (fun _ => 0) (fun _ => 0) (fun _ => 0) (fun _ => false) (fun _ => 0) (fun _ => false) (fun _ => 0) (fun _ => 0) (fun _ => 0) (fun _ => 0) 0 (fun _ => 0) 0 (fun _ => 0) 0 (fun _ => 0) (fun _ => false) (fun _ => 0) (fun _ => 0) (fun _ => 0) (fun _ => 0) (fun _ => 0) 0 0 0 0 false 0 0 0 0 (-1)) ++ (Wm am gm (fun _ => 0) (fun _ => 0) (fun _ => 0) (fun _ => false) (fun _ => 0) (fun _ => false) (fun _ => 0) (fun _ => 0) (fun _ => 0) 0 (fun _ => 0) 0 (fun _ => 0) 0 false 0 0 0 0 (-1) 0 (fun _ => 0) 0 0 false (fun _ => 0) (fun _ => 0) (fun _ => 0) (fun _ => 0) (fun _ => 0) (fun _ => 0) 0 (fun _ => false) 0 0 0 (fun _ => 0) (fun _ => 0) (fun _ => 0))) H := hP
  have hD : va_D A ((Wd a g (fun _ => 0) (fun _ => 0) (fun _ => 0) (fun _ => false) (fun _ => 0) (fun _ => false) (fun _ => 0) (fun _ => 0) (fun _ => 0) (fun _ => 0) 0 (fun _ => 0) 0 (fun _ => 0) 0 (fun _ => 0) (fun _ => false) (fun _ => 0) (fun _ => 0) (fun _ => 0) (fun _ => 0) (fun _ => 0) 0 0 0 0 false 0 0 0 0 (-1)) ++ (Wm am gm (fun _ => 0) (fun _ => 0) (fun _ => 0) (fun _ => false) (fun _ => 0) (fun _ => false) (fun _ => 0) (fun _ => 0) (fun _ => 0) 0 (fun _ => 0) 0 (fun _ => 0) 0 false 0 0 0 0 (-1) 0 (fun _ => 0) 0 0 false (fun _ => 0) (fun _ => 0) (fun _ => 0) (fun _ => 0) (fun _ => 0) (fun _ => 0) 0 (fun _ => false) 0 0 0 (fun _ => 0) (fun _ => 0) (fun _ => 0))) := hD
  refine W.eq (g2 := F0 m 15 ls [.ref (am 0)]) (by rw [e1]) ?_
  refine lv_astore_n (lv' := [(2, .ref (am 0)), (1, .ref (a 0)), (0, .ref b)]) hx hb d_L_law_15 rfl hl (by decide) rfl (fun ls hl => ?_)
  refine lv_iconst (v := 1) hx hb d_L_law_16 (by decide) ?_
  refine va_newa (atype := .long) (a0 := (1, .inr (.inl (fun _ => 0)))) hx hb (hts _ (kT _ wd_f2af499d)) rfl (hK.sub (tys' := []) [] rfl) hP hD hS hA (fun _ => rfl) (by decide) (by decide) (by decide) (Nat.le_of_ble_eq_true rfl) (Nat.le_of_ble_eq_true rfl) d_L_law_17 (fun qo co H hKo hP hD hS => ?_)
  have hD := hD.swap
  have hPo : va_P D vwCl (Wo (fun z => if z = 27 then qo else a z) (fun z => if z = 19 then co else g z) (fun _ => 0) (fun _ => 0) (fun _ => 0) (fun _ => false) (fun _ => 0) (fun _ => false) (fun _ => 0) (fun _ => 0) (fun _ => 0) (fun _ => 0) 0 (fun _ => 0) 0 (fun _ => 0) 0 (fun _ => 0) (fun _ => false) (fun _ => 0) (fun _ => 0) (fun _ => 0) (fun _ => 0) (fun _ => 0) 0 0 0 0 false 0 0 0 0 (-1) (fun _ => 0)) H := (kP_l (kP_l hP)).app (kP_r hP)
  have hPm : va_P D vwCl (Wm am gm (fun _ => 0) (fun _ => 0) (fun _ => 0) (fun _ => false) (fun _ => 0) (fun _ => false) (fun _ => 0) (fun _ => 0) (fun _ => 0) 0 (fun _ => 0) 0 (fun _ => 0) 0 false 0 0 0 0 (-1) 0 (fun _ => 0) 0 0 false (fun _ => 0) (fun _ => 0) (fun _ => 0) (fun _ => 0) (fun _ => 0) (fun _ => 0) 0 (fun _ => false) 0 0 0 (fun _ => 0) (fun _ => 0) (fun _ => 0)) H := kP_r (kP_l hP)
  have hD : kSp A (Wo (fun z => if z = 27 then qo else a z) (fun z => if z = 19 then co else g z) (fun _ => 0) (fun _ => 0) (fun _ => 0) (fun _ => false) (fun _ => 0) (fun _ => false) (fun _ => 0) (fun _ => 0) (fun _ => 0) (fun _ => 0) 0 (fun _ => 0) 0 (fun _ => 0) 0 (fun _ => 0) (fun _ => false) (fun _ => 0) (fun _ => 0) (fun _ => 0) (fun _ => 0) (fun _ => 0) 0 0 0 0 false 0 0 0 0 (-1) (fun _ => 0)) (Wm am gm (fun _ => 0) (fun _ => 0) (fun _ => 0) (fun _ => false) (fun _ => 0) (fun _ => false) (fun _ => 0) (fun _ => 0) (fun _ => 0) 0 (fun _ => 0) 0 (fun _ => 0) 0 false 0 0 0 0 (-1) 0 (fun _ => 0) 0 0 false (fun _ => 0) (fun _ => 0) (fun _ => 0) (fun _ => 0) (fun _ => 0) (fun _ => 0) 0 (fun _ => false) 0 0 0 (fun _ => 0) (fun _ => 0) (fun _ => 0)) := kSp_of hD
  have hKo : va_K D vwCl (WoT (fun z => if z = 19 then co else g z)) s := hKf.app hKo
  refine lv_astore_n (lv' := [(3, .ref qo), (2, .ref (am 0)), (1, .ref (a 0)), (0, .ref b)]) hx hb d_L_law_19 rfl hl (by decide) rfl (fun ls hl => ?_)
  refine lv_iconst (v := nI 0) hx hb d_L_law_20 (by decide) ?_
  refine lv_istore (lv' := [(4, .int (nI 0)), (3, .ref qo), (2, .ref (am 0)), (1, .ref (a 0)), (0, .ref b)]) hx hb d_L_law_21 hl (by decide) rfl (fun ls hl => ?_)
  have hl : lv_has ls 8 (LV b (fun z => if z = 27 then qo else a z) am 0) := lv_sub hl [0, 4, 3, 2, 1] rfl
  refine W.widen (k := 200 + 3 * 0) (n := 20000 + 18 * 0) (Nat.le_of_ble_eq_true rfl) (Nat.le_of_ble_eq_true rfl) ?_
  exact lw_loop l hl0 hL hx hb hr hlocks hml hown hts hX hbl hA hA2 D (fun z => if z = 27 then qo else a z) am (fun z => if z = 19 then co else g z) gm tw hKo hKm hZ (L + 6) 0 (by omega) (by omega) H locs ls ⟨(fun _ => 0), (fun _ => 0), (fun _ => 0), (fun _ => false), (fun _ => 0), (fun _ => false), (fun _ => 0), (fun _ => 0), (fun _ => 0), (fun _ => 0), 0, (fun _ => 0), 0, (fun _ => 0), 0, (fun _ => 0), (fun _ => false), (fun _ => 0), (fun _ => 0), (fun _ => 0), (fun _ => 0), (fun _ => 0), 0, 0, 0, 0, false, 0, 0, 0, 0, (-1), (fun _ => 0), (fun _ => 0), 0, (fun _ => 0), 0, 0, false, (fun _ => 0), (fun _ => 0), (fun _ => 0), (fun _ => 0), (fun _ => 0), (fun _ => 0), 0, (fun _ => false), 0, 0, 0, (fun _ => 0), (fun _ => 0), (fun _ => 0), st_inv, hPo, hPm, hD⟩ hS hl

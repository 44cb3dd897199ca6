/-! what is required -/
def msR (q : SR) (r f : Nat) : Bool := !(q.rFil (r * 6 + f)) && q.sMust (q.rTab r * 6 + f)
def okR (q : SR) (r : Nat) : Nat → Bool
  | 0 => true
  | f + 1 => okR q r f && !(msR q r f)
def mkR (q : SR) (r f : Nat) (rea : Nat → Bool) : Nat → Bool := if q.rFil (r * 6 + f) = true ∧ q.sKind (q.rTab r * 6 + f) = 6 then va_up rea (q.rLnk (r * 6 + f)) true else rea
def haR (q : SR) (r : Nat) (rea : Nat → Bool) : Nat → (Nat → Bool)
  | 0 => rea
  | f + 1 => if okR q r (f + 1) = true then mkR q r f (haR q r rea f) else haR q r rea f
theorem ha_a {q : SR} {r f : Nat} {rea : Nat → Bool} (hok : okR q r f = true) (h : q.rFil (r * 6 + f) = false) (h2 : q.sMust (q.rTab r * 6 + f) = false) : okR q r (f + 1) = true ∧ haR q r rea (f + 1) = haR q r rea f := by
  have h3 : okR q r (f + 1) = true := by show (okR q r f && !(!(q.rFil (r * 6 + f)) && q.sMust (q.rTab r * 6 + f))) = true; rw [hok, h, h2]; rfl
  exact ⟨h3, by rw [haR, if_pos h3, mkR, if_neg (by rw [h]; simp)]⟩
theorem ha_b {q : SR} {r f : Nat} {rea : Nat → Bool} (hok : okR q r f = true) (h : q.rFil (r * 6 + f) = true) (h2 : ¬ q.sKind (q.rTab r * 6 + f) = 6) : okR q r (f + 1) = true ∧ haR q r rea (f + 1) = haR q r rea f := by
  have h3 : okR q r (f + 1) = true := by show (okR q r f && !(!(q.rFil (r * 6 + f)) && q.sMust (q.rTab r * 6 + f))) = true; rw [hok, h]; rfl
  exact ⟨h3, by rw [haR, if_pos h3, mkR, if_neg (fun z => h2 z.2)]⟩
theorem ha_c {q : SR} {r f : Nat} {rea : Nat → Bool} (hok : okR q r f = true) (h : q.rFil (r * 6 + f) = true) (h2 : q.sKind (q.rTab r * 6 + f) = 6) : okR q r (f + 1) = true ∧ haR q r rea (f + 1) = va_up (haR q r rea f) (q.rLnk (r * 6 + f)) true := by
  have h3 : okR q r (f + 1) = true := by show (okR q r f && !(!(q.rFil (r * 6 + f)) && q.sMust (q.rTab r * 6 + f))) = true; rw [hok, h]; rfl
  exact ⟨h3, by rw [haR, if_pos h3, mkR, if_pos ⟨h, h2⟩]⟩
theorem ha_n {q : SR} {r f : Nat} {rea : Nat → Bool} (h : q.rFil (r * 6 + f) = false) (h2 : q.sMust (q.rTab r * 6 + f) = true) : ∀ n, f < n → okR q r n = false ∧ haR q r rea n = haR q r rea f := by
  intro n
  induction n with
  | zero => intro h; omega
  | succ n ih =>
    intro hn
    by_cases e : f = n
    · subst e
      have h3 : okR q r (f + 1) = false := by show (okR q r f && !(!(q.rFil (r * 6 + f)) && q.sMust (q.rTab r * 6 + f))) = false; rw [h, h2]; simp
      exact ⟨h3, by rw [haR, if_neg (by simp [h3])]⟩
    · have h4 := ih (by omega)
      have h3 : okR q r (n + 1) = false := by rw [okR, h4.1]; rfl
      exact ⟨h3, by rw [haR, if_neg (by simp [h3]), h4.2]⟩
def rcR (fs : Nat) (rea : Nat → Bool) : Nat → (Nat → Bool)
  | 0 => rea
  | i + 1 => va_up (rcR fs rea i) i (decide (i = fs))
def whR (q : SR) (fs : Nat) (rea : Nat → Bool) : Nat → Bool × (Nat → Bool)
  | 0 => (true, rea)
  | j + 1 => if (whR q fs rea j).1 = true ∧ (whR q fs rea j).2 (fs + 1 - j - 1) = true then (okR q (fs + 1 - j - 1) (q.sLen (q.rTab (fs + 1 - j - 1))), haR q (fs + 1 - j - 1) (whR q fs rea j).2 (q.sLen (q.rTab (fs + 1 - j - 1)))) else whR q fs rea j
theorem wh_a {q : SR} {fs : Nat} {rea : Nat → Bool} {j : Nat} (h : (whR q fs rea j).2 (fs + 1 - j - 1) = false) : whR q fs rea (j + 1) = whR q fs rea j := by rw [whR, if_neg (by rw [h]; simp)]
theorem wh_b {q : SR} {fs : Nat} {rea : Nat → Bool} {j : Nat} (h1 : (whR q fs rea j).1 = true) (h : (whR q fs rea j).2 (fs + 1 - j - 1) = true) : whR q fs rea (j + 1) = (okR q (fs + 1 - j - 1) (q.sLen (q.rTab (fs + 1 - j - 1))), haR q (fs + 1 - j - 1) (whR q fs rea j).2 (q.sLen (q.rTab (fs + 1 - j - 1)))) := by rw [whR, if_pos ⟨h1, h⟩]
theorem wh_s {q : SR} {fs : Nat} {rea : Nat → Bool} {j : Nat} (h : (whR q fs rea j).1 = false) : ∀ n, j ≤ n → whR q fs rea n = whR q fs rea j := by
  intro n
  induction n with
  | zero => intro h; rw [show j = 0 by omega]
  | succ n ih =>
    intro hn
    by_cases e : j = n + 1
    · rw [e]
    · have h2 := ih (by omega)
      rw [whR, if_neg (by rw [h2, h]; simp), h2]
theorem wd_bf45e2dc : Cond.fieldLink R_B 84 R_B "offsetsKept" "I" ∈ kGW := kGW_of (List.mem_of_getElem? (i := 179) (by decide +kernel)) (by decide)
theorem wd_baf457c8 : Cond.fieldLink R_B 29 R_B "offsets" "[I" ∈ kGW := kGW_of (List.mem_of_getElem? (i := 177) (by decide +kernel)) (by decide)
theorem wd_ce464abb : Cond.fieldLink R_B 32 R_B "offsetsPlaces" "[I" ∈ kGW := kGW_of (List.mem_of_getElem? (i := 178) (by decide +kernel)) (by decide)
theorem wd_a1b55481 : Cond.methodLink R_B 152 y_B_isSameAsDraft ∈ kGW := kGW_of (List.mem_of_getElem? (i := 602) (by decide +kernel)) (by decide)
theorem wd_7e3d3552 : Cond.fieldLink R_B 15 R_B "reached" "[Z" ∈ kGW := kGW_of (List.mem_of_getElem? (i := 173) (by decide +kernel)) (by decide)
theorem wd_1a4a5b18 : Cond.methodLink R_B 65 y_S_requires ∈ kGW := kGW_of (List.mem_of_getElem? (i := 533) (by decide +kernel)) (by decide)
theorem wd_f1d2aca5 : Cond.methodLink R_B 43 y_B_hasAllRequired ∈ kGW := kGW_of (List.mem_of_getElem? (i := 526) (by decide +kernel)) (by decide)
set_option maxRecDepth 20000 in
theorem wd_46add175 : Cond.code y_B_draftOffsets b_B_draftOffsets 8 none ∈ kGW := kGW_of (List.mem_of_getElem? (i := 597) (by rfl)) (by decide)
theorem wd_4c1c9dd2 : Cond.instanceMethod y_B_draftOffsets ∈ kGW := kGW_of (List.mem_of_getElem? (i := 596) (by decide +kernel)) (by decide)
theorem wd_5f9a77b5 : Cond.selects R_B y_B_draftOffsets y_B_draftOffsets ∈ kGW := kGW_of (List.mem_of_getElem? (i := 12) (by decide +kernel)) (by decide)
set_option maxRecDepth 20000 in
theorem wd_55c97db0 : Cond.code y_B_isSameAsDraft b_B_isSameAsDraft 4 (some .boolean) ∈ kGW := kGW_of (List.mem_of_getElem? (i := 605) (by rfl)) (by decide)
theorem wd_5645e79a : Cond.instanceMethod y_B_isSameAsDraft ∈ kGW := kGW_of (List.mem_of_getElem? (i := 604) (by decide +kernel)) (by decide)
theorem wd_ebeec7f5 : Cond.selects R_B y_B_isSameAsDraft y_B_isSameAsDraft ∈ kGW := kGW_of (List.mem_of_getElem? (i := 14) (by decide +kernel)) (by decide)
set_option maxRecDepth 20000 in
theorem wd_f5b70d06 : Cond.code y_B_placeOfDraft b_B_placeOfDraft 3 (some .int) ∈ kGW := kGW_of (List.mem_of_getElem? (i := 601) (by rfl)) (by decide)
theorem wd_6ecac37f : Cond.instanceMethod y_B_placeOfDraft ∈ kGW := kGW_of (List.mem_of_getElem? (i := 600) (by decide +kernel)) (by decide)
theorem wd_975f40ba : Cond.selects R_B y_B_placeOfDraft y_B_placeOfDraft ∈ kGW := kGW_of (List.mem_of_getElem? (i := 13) (by decide +kernel)) (by decide)
set_option maxRecDepth 20000 in
theorem wd_fc770d9e : Cond.code y_B_hasAllRequired b_B_hasAllRequired 5 (some .boolean) ∈ kGW := kGW_of (List.mem_of_getElem? (i := 529) (by rfl)) (by decide)
theorem wd_a031ccf7 : Cond.instanceMethod y_B_hasAllRequired ∈ kGW := kGW_of (List.mem_of_getElem? (i := 528) (by decide +kernel)) (by decide)
theorem wd_7a8459e4 : Cond.selects R_B y_B_hasAllRequired y_B_hasAllRequired ∈ kGW := kGW_of (List.mem_of_getElem? (i := 2) (by decide +kernel)) (by decide)
set_option maxRecDepth 20000 in
theorem wd_5bffc818 : Cond.code y_B_isWhole b_B_isWhole 3 (some .boolean) ∈ kGW := kGW_of (List.mem_of_getElem? (i := 525) (by rfl)) (by decide)
theorem wd_e0293bc7 : Cond.instanceMethod y_B_isWhole ∈ kGW := kGW_of (List.mem_of_getElem? (i := 523) (by decide +kernel)) (by decide)
theorem wd_3ae35d4d : Cond.selects R_B y_B_isWhole y_B_isWhole ∈ kGW := kGW_of (List.mem_of_getElem? (i := 524) (by decide +kernel)) (by decide)
theorem d_B_draftOffsets_0 : decode b_B_draftOffsets 0 = .ok (.aload_n 0, 1) := by decide +kernel
theorem d_B_draftOffsets_1 : decode b_B_draftOffsets 1 = .ok (.getfield 84, 3) := by decide +kernel
theorem d_B_draftOffsets_4 : decode b_B_draftOffsets 4 = .ok (.bipush 8, 2) := by decide +kernel
theorem d_B_draftOffsets_6 : decode b_B_draftOffsets 6 = .ok (.imul, 1) := by decide +kernel
theorem d_B_draftOffsets_7 : decode b_B_draftOffsets 7 = .ok (.istore 4, 2) := by decide +kernel
theorem d_B_draftOffsets_9 : decode b_B_draftOffsets 9 = .ok (.iconst 0, 1) := by decide +kernel
theorem d_B_draftOffsets_10 : decode b_B_draftOffsets 10 = .ok (.istore 5, 2) := by decide +kernel
theorem d_B_draftOffsets_12 : decode b_B_draftOffsets 12 = .ok (.iconst 0, 1) := by decide +kernel
theorem d_B_draftOffsets_13 : decode b_B_draftOffsets 13 = .ok (.istore 6, 2) := by decide +kernel
theorem d_B_draftOffsets_15 : decode b_B_draftOffsets 15 = .ok (.iload 6, 2) := by decide +kernel
theorem d_B_draftOffsets_17 : decode b_B_draftOffsets 17 = .ok (.iload_n 1, 1) := by decide +kernel
theorem d_B_draftOffsets_18 : decode b_B_draftOffsets 18 = .ok (.if_icmp .ge 67, 3) := by decide +kernel
theorem d_B_draftOffsets_21 : decode b_B_draftOffsets 21 = .ok (.aload_n 0, 1) := by decide +kernel
theorem d_B_draftOffsets_22 : decode b_B_draftOffsets 22 = .ok (.getfield 26, 3) := by decide +kernel
theorem d_B_draftOffsets_25 : decode b_B_draftOffsets 25 = .ok (.iload 6, 2) := by decide +kernel
theorem d_B_draftOffsets_27 : decode b_B_draftOffsets 27 = .ok (.iaload, 1) := by decide +kernel
theorem d_B_draftOffsets_28 : decode b_B_draftOffsets 28 = .ok (.ifCond .eq 7, 3) := by decide +kernel
theorem d_B_draftOffsets_31 : decode b_B_draftOffsets 31 = .ok (.iconst 1, 1) := by decide +kernel
theorem d_B_draftOffsets_32 : decode b_B_draftOffsets 32 = .ok (.goto 4, 3) := by decide +kernel
theorem d_B_draftOffsets_35 : decode b_B_draftOffsets 35 = .ok (.iconst 0, 1) := by decide +kernel
theorem d_B_draftOffsets_36 : decode b_B_draftOffsets 36 = .ok (.istore 7, 2) := by decide +kernel
theorem d_B_draftOffsets_38 : decode b_B_draftOffsets 38 = .ok (.aload_n 0, 1) := by decide +kernel
theorem d_B_draftOffsets_39 : decode b_B_draftOffsets 39 = .ok (.getfield 29, 3) := by decide +kernel
theorem d_B_draftOffsets_42 : decode b_B_draftOffsets 42 = .ok (.iload 4, 2) := by decide +kernel
theorem d_B_draftOffsets_44 : decode b_B_draftOffsets 44 = .ok (.iconst 2, 1) := by decide +kernel
theorem d_B_draftOffsets_45 : decode b_B_draftOffsets 45 = .ok (.iadd, 1) := by decide +kernel
theorem d_B_draftOffsets_46 : decode b_B_draftOffsets 46 = .ok (.iload 6, 2) := by decide +kernel
theorem d_B_draftOffsets_48 : decode b_B_draftOffsets 48 = .ok (.iadd, 1) := by decide +kernel
theorem d_B_draftOffsets_49 : decode b_B_draftOffsets 49 = .ok (.iload 7, 2) := by decide +kernel
theorem d_B_draftOffsets_51 : decode b_B_draftOffsets 51 = .ok (.ifCond .eq 15, 3) := by decide +kernel
theorem d_B_draftOffsets_54 : decode b_B_draftOffsets 54 = .ok (.iload_n 3, 1) := by decide +kernel
theorem d_B_draftOffsets_55 : decode b_B_draftOffsets 55 = .ok (.aload_n 0, 1) := by decide +kernel
theorem d_B_draftOffsets_56 : decode b_B_draftOffsets 56 = .ok (.getfield 26, 3) := by decide +kernel
theorem d_B_draftOffsets_59 : decode b_B_draftOffsets 59 = .ok (.iload 6, 2) := by decide +kernel
theorem d_B_draftOffsets_61 : decode b_B_draftOffsets 61 = .ok (.iaload, 1) := by decide +kernel
theorem d_B_draftOffsets_62 : decode b_B_draftOffsets 62 = .ok (.isub, 1) := by decide +kernel
theorem d_B_draftOffsets_63 : decode b_B_draftOffsets 63 = .ok (.goto 4, 3) := by decide +kernel
theorem d_B_draftOffsets_66 : decode b_B_draftOffsets 66 = .ok (.iconst 0, 1) := by decide +kernel
theorem d_B_draftOffsets_67 : decode b_B_draftOffsets 67 = .ok (.iastore, 1) := by decide +kernel
theorem d_B_draftOffsets_68 : decode b_B_draftOffsets 68 = .ok (.iload 7, 2) := by decide +kernel
theorem d_B_draftOffsets_70 : decode b_B_draftOffsets 70 = .ok (.ifCond .eq 9, 3) := by decide +kernel
theorem d_B_draftOffsets_73 : decode b_B_draftOffsets 73 = .ok (.iload 6, 2) := by decide +kernel
theorem d_B_draftOffsets_75 : decode b_B_draftOffsets 75 = .ok (.iconst 1, 1) := by decide +kernel
theorem d_B_draftOffsets_76 : decode b_B_draftOffsets 76 = .ok (.iadd, 1) := by decide +kernel
theorem d_B_draftOffsets_77 : decode b_B_draftOffsets 77 = .ok (.istore 5, 2) := by decide +kernel
theorem d_B_draftOffsets_79 : decode b_B_draftOffsets 79 = .ok (.iinc 6 1, 3) := by decide +kernel
theorem d_B_draftOffsets_82 : decode b_B_draftOffsets 82 = .ok (.goto (-67), 3) := by decide +kernel
theorem d_B_draftOffsets_85 : decode b_B_draftOffsets 85 = .ok (.aload_n 0, 1) := by decide +kernel
theorem d_B_draftOffsets_86 : decode b_B_draftOffsets 86 = .ok (.getfield 29, 3) := by decide +kernel
theorem d_B_draftOffsets_89 : decode b_B_draftOffsets 89 = .ok (.iload 4, 2) := by decide +kernel
theorem d_B_draftOffsets_91 : decode b_B_draftOffsets 91 = .ok (.iconst 2, 1) := by decide +kernel
theorem d_B_draftOffsets_92 : decode b_B_draftOffsets 92 = .ok (.iconst 2, 1) := by decide +kernel
theorem d_B_draftOffsets_93 : decode b_B_draftOffsets 93 = .ok (.iload 5, 2) := by decide +kernel
theorem d_B_draftOffsets_95 : decode b_B_draftOffsets 95 = .ok (.iadd, 1) := by decide +kernel
theorem d_B_draftOffsets_96 : decode b_B_draftOffsets 96 = .ok (.imul, 1) := by decide +kernel
theorem d_B_draftOffsets_97 : decode b_B_draftOffsets 97 = .ok (.iastore, 1) := by decide +kernel
theorem d_B_draftOffsets_98 : decode b_B_draftOffsets 98 = .ok (.aload_n 0, 1) := by decide +kernel
theorem d_B_draftOffsets_99 : decode b_B_draftOffsets 99 = .ok (.getfield 29, 3) := by decide +kernel
theorem d_B_draftOffsets_102 : decode b_B_draftOffsets 102 = .ok (.iload 4, 2) := by decide +kernel
theorem d_B_draftOffsets_104 : decode b_B_draftOffsets 104 = .ok (.iconst 1, 1) := by decide +kernel
theorem d_B_draftOffsets_105 : decode b_B_draftOffsets 105 = .ok (.iadd, 1) := by decide +kernel
theorem d_B_draftOffsets_106 : decode b_B_draftOffsets 106 = .ok (.iload_n 3, 1) := by decide +kernel
theorem d_B_draftOffsets_107 : decode b_B_draftOffsets 107 = .ok (.iload_n 2, 1) := by decide +kernel
theorem d_B_draftOffsets_108 : decode b_B_draftOffsets 108 = .ok (.isub, 1) := by decide +kernel
theorem d_B_draftOffsets_109 : decode b_B_draftOffsets 109 = .ok (.iastore, 1) := by decide +kernel
theorem d_B_draftOffsets_110 : decode b_B_draftOffsets 110 = .ok (.return_, 1) := by decide +kernel
theorem d_B_isSameAsDraft_0 : decode b_B_isSameAsDraft 0 = .ok (.aload_n 0, 1) := by decide +kernel
theorem d_B_isSameAsDraft_1 : decode b_B_isSameAsDraft 1 = .ok (.getfield 84, 3) := by decide +kernel
theorem d_B_isSameAsDraft_4 : decode b_B_isSameAsDraft 4 = .ok (.bipush 8, 2) := by decide +kernel
theorem d_B_isSameAsDraft_6 : decode b_B_isSameAsDraft 6 = .ok (.imul, 1) := by decide +kernel
theorem d_B_isSameAsDraft_7 : decode b_B_isSameAsDraft 7 = .ok (.istore_n 2, 1) := by decide +kernel
theorem d_B_isSameAsDraft_8 : decode b_B_isSameAsDraft 8 = .ok (.iconst 0, 1) := by decide +kernel
theorem d_B_isSameAsDraft_9 : decode b_B_isSameAsDraft 9 = .ok (.istore_n 3, 1) := by decide +kernel
theorem d_B_isSameAsDraft_10 : decode b_B_isSameAsDraft 10 = .ok (.iload_n 3, 1) := by decide +kernel
theorem d_B_isSameAsDraft_11 : decode b_B_isSameAsDraft 11 = .ok (.aload_n 0, 1) := by decide +kernel
theorem d_B_isSameAsDraft_12 : decode b_B_isSameAsDraft 12 = .ok (.getfield 29, 3) := by decide +kernel
theorem d_B_isSameAsDraft_15 : decode b_B_isSameAsDraft 15 = .ok (.iload_n 2, 1) := by decide +kernel
theorem d_B_isSameAsDraft_16 : decode b_B_isSameAsDraft 16 = .ok (.iaload, 1) := by decide +kernel
theorem d_B_isSameAsDraft_17 : decode b_B_isSameAsDraft 17 = .ok (.iconst 2, 1) := by decide +kernel
theorem d_B_isSameAsDraft_18 : decode b_B_isSameAsDraft 18 = .ok (.idiv, 1) := by decide +kernel
theorem d_B_isSameAsDraft_19 : decode b_B_isSameAsDraft 19 = .ok (.if_icmp .ge 33, 3) := by decide +kernel
theorem d_B_isSameAsDraft_22 : decode b_B_isSameAsDraft 22 = .ok (.aload_n 0, 1) := by decide +kernel
theorem d_B_isSameAsDraft_23 : decode b_B_isSameAsDraft 23 = .ok (.getfield 29, 3) := by decide +kernel
theorem d_B_isSameAsDraft_26 : decode b_B_isSameAsDraft 26 = .ok (.iload_n 1, 1) := by decide +kernel
theorem d_B_isSameAsDraft_27 : decode b_B_isSameAsDraft 27 = .ok (.bipush 8, 2) := by decide +kernel
theorem d_B_isSameAsDraft_29 : decode b_B_isSameAsDraft 29 = .ok (.imul, 1) := by decide +kernel
theorem d_B_isSameAsDraft_30 : decode b_B_isSameAsDraft 30 = .ok (.iload_n 3, 1) := by decide +kernel
theorem d_B_isSameAsDraft_31 : decode b_B_isSameAsDraft 31 = .ok (.iadd, 1) := by decide +kernel
theorem d_B_isSameAsDraft_32 : decode b_B_isSameAsDraft 32 = .ok (.iaload, 1) := by decide +kernel
theorem d_B_isSameAsDraft_33 : decode b_B_isSameAsDraft 33 = .ok (.aload_n 0, 1) := by decide +kernel
theorem d_B_isSameAsDraft_34 : decode b_B_isSameAsDraft 34 = .ok (.getfield 29, 3) := by decide +kernel
theorem d_B_isSameAsDraft_37 : decode b_B_isSameAsDraft 37 = .ok (.iload_n 2, 1) := by decide +kernel
theorem d_B_isSameAsDraft_38 : decode b_B_isSameAsDraft 38 = .ok (.iload_n 3, 1) := by decide +kernel
theorem d_B_isSameAsDraft_39 : decode b_B_isSameAsDraft 39 = .ok (.iadd, 1) := by decide +kernel
theorem d_B_isSameAsDraft_40 : decode b_B_isSameAsDraft 40 = .ok (.iaload, 1) := by decide +kernel
theorem d_B_isSameAsDraft_41 : decode b_B_isSameAsDraft 41 = .ok (.if_icmp .eq 5, 3) := by decide +kernel
theorem d_B_isSameAsDraft_44 : decode b_B_isSameAsDraft 44 = .ok (.iconst 0, 1) := by decide +kernel
theorem d_B_isSameAsDraft_45 : decode b_B_isSameAsDraft 45 = .ok (.ireturn, 1) := by decide +kernel
theorem d_B_isSameAsDraft_46 : decode b_B_isSameAsDraft 46 = .ok (.iinc 3 1, 3) := by decide +kernel
theorem d_B_isSameAsDraft_49 : decode b_B_isSameAsDraft 49 = .ok (.goto (-39), 3) := by decide +kernel
theorem d_B_isSameAsDraft_52 : decode b_B_isSameAsDraft 52 = .ok (.iconst 1, 1) := by decide +kernel
theorem d_B_isSameAsDraft_53 : decode b_B_isSameAsDraft 53 = .ok (.ireturn, 1) := by decide +kernel
theorem d_B_placeOfDraft_0 : decode b_B_placeOfDraft 0 = .ok (.iconst 0, 1) := by decide +kernel
theorem d_B_placeOfDraft_1 : decode b_B_placeOfDraft 1 = .ok (.istore_n 1, 1) := by decide +kernel
theorem d_B_placeOfDraft_2 : decode b_B_placeOfDraft 2 = .ok (.iload_n 1, 1) := by decide +kernel
theorem d_B_placeOfDraft_3 : decode b_B_placeOfDraft 3 = .ok (.aload_n 0, 1) := by decide +kernel
theorem d_B_placeOfDraft_4 : decode b_B_placeOfDraft 4 = .ok (.getfield 84, 3) := by decide +kernel
theorem d_B_placeOfDraft_7 : decode b_B_placeOfDraft 7 = .ok (.if_icmp .ge 24, 3) := by decide +kernel
theorem d_B_placeOfDraft_10 : decode b_B_placeOfDraft 10 = .ok (.aload_n 0, 1) := by decide +kernel
theorem d_B_placeOfDraft_11 : decode b_B_placeOfDraft 11 = .ok (.iload_n 1, 1) := by decide +kernel
theorem d_B_placeOfDraft_12 : decode b_B_placeOfDraft 12 = .ok (.invokevirtual 152, 3) := by decide +kernel
theorem d_B_placeOfDraft_15 : decode b_B_placeOfDraft 15 = .ok (.ifCond .eq 10, 3) := by decide +kernel
theorem d_B_placeOfDraft_18 : decode b_B_placeOfDraft 18 = .ok (.aload_n 0, 1) := by decide +kernel
theorem d_B_placeOfDraft_19 : decode b_B_placeOfDraft 19 = .ok (.getfield 32, 3) := by decide +kernel
theorem d_B_placeOfDraft_22 : decode b_B_placeOfDraft 22 = .ok (.iload_n 1, 1) := by decide +kernel
theorem d_B_placeOfDraft_23 : decode b_B_placeOfDraft 23 = .ok (.iaload, 1) := by decide +kernel
theorem d_B_placeOfDraft_24 : decode b_B_placeOfDraft 24 = .ok (.ireturn, 1) := by decide +kernel
theorem d_B_placeOfDraft_25 : decode b_B_placeOfDraft 25 = .ok (.iinc 1 1, 3) := by decide +kernel
theorem d_B_placeOfDraft_28 : decode b_B_placeOfDraft 28 = .ok (.goto (-26), 3) := by decide +kernel
theorem d_B_placeOfDraft_31 : decode b_B_placeOfDraft 31 = .ok (.aload_n 0, 1) := by decide +kernel
theorem d_B_placeOfDraft_32 : decode b_B_placeOfDraft 32 = .ok (.getfield 84, 3) := by decide +kernel
theorem d_B_placeOfDraft_35 : decode b_B_placeOfDraft 35 = .ok (.bipush 8, 2) := by decide +kernel
theorem d_B_placeOfDraft_37 : decode b_B_placeOfDraft 37 = .ok (.imul, 1) := by decide +kernel
theorem d_B_placeOfDraft_38 : decode b_B_placeOfDraft 38 = .ok (.istore_n 1, 1) := by decide +kernel
theorem d_B_placeOfDraft_39 : decode b_B_placeOfDraft 39 = .ok (.aload_n 0, 1) := by decide +kernel
theorem d_B_placeOfDraft_40 : decode b_B_placeOfDraft 40 = .ok (.getfield 29, 3) := by decide +kernel
theorem d_B_placeOfDraft_43 : decode b_B_placeOfDraft 43 = .ok (.iload_n 1, 1) := by decide +kernel
theorem d_B_placeOfDraft_44 : decode b_B_placeOfDraft 44 = .ok (.iaload, 1) := by decide +kernel
theorem d_B_placeOfDraft_45 : decode b_B_placeOfDraft 45 = .ok (.iconst 2, 1) := by decide +kernel
theorem d_B_placeOfDraft_46 : decode b_B_placeOfDraft 46 = .ok (.idiv, 1) := by decide +kernel
theorem d_B_placeOfDraft_47 : decode b_B_placeOfDraft 47 = .ok (.iconst 1, 1) := by decide +kernel
theorem d_B_placeOfDraft_48 : decode b_B_placeOfDraft 48 = .ok (.isub, 1) := by decide +kernel
theorem d_B_placeOfDraft_49 : decode b_B_placeOfDraft 49 = .ok (.istore_n 2, 1) := by decide +kernel
theorem d_B_placeOfDraft_50 : decode b_B_placeOfDraft 50 = .ok (.iload_n 2, 1) := by decide +kernel
theorem d_B_placeOfDraft_51 : decode b_B_placeOfDraft 51 = .ok (.ifCond .lt 23, 3) := by decide +kernel
theorem d_B_placeOfDraft_54 : decode b_B_placeOfDraft 54 = .ok (.aload_n 0, 1) := by decide +kernel
theorem d_B_placeOfDraft_55 : decode b_B_placeOfDraft 55 = .ok (.aload_n 0, 1) := by decide +kernel
theorem d_B_placeOfDraft_56 : decode b_B_placeOfDraft 56 = .ok (.getfield 29, 3) := by decide +kernel
theorem d_B_placeOfDraft_59 : decode b_B_placeOfDraft 59 = .ok (.iload_n 1, 1) := by decide +kernel
theorem d_B_placeOfDraft_60 : decode b_B_placeOfDraft 60 = .ok (.iload_n 2, 1) := by decide +kernel
theorem d_B_placeOfDraft_61 : decode b_B_placeOfDraft 61 = .ok (.iadd, 1) := by decide +kernel
theorem d_B_placeOfDraft_62 : decode b_B_placeOfDraft 62 = .ok (.iaload, 1) := by decide +kernel
theorem d_B_placeOfDraft_63 : decode b_B_placeOfDraft 63 = .ok (.i2l, 1) := by decide +kernel
theorem d_B_placeOfDraft_64 : decode b_B_placeOfDraft 64 = .ok (.iconst 2, 1) := by decide +kernel
theorem d_B_placeOfDraft_65 : decode b_B_placeOfDraft 65 = .ok (.invokevirtual 101, 3) := by decide +kernel
theorem d_B_placeOfDraft_68 : decode b_B_placeOfDraft 68 = .ok (.iinc 2 (-1), 3) := by decide +kernel
theorem d_B_placeOfDraft_71 : decode b_B_placeOfDraft 71 = .ok (.goto (-21), 3) := by decide +kernel
theorem d_B_placeOfDraft_74 : decode b_B_placeOfDraft 74 = .ok (.aload_n 0, 1) := by decide +kernel
theorem d_B_placeOfDraft_75 : decode b_B_placeOfDraft 75 = .ok (.getfield 32, 3) := by decide +kernel
theorem d_B_placeOfDraft_78 : decode b_B_placeOfDraft 78 = .ok (.aload_n 0, 1) := by decide +kernel
theorem d_B_placeOfDraft_79 : decode b_B_placeOfDraft 79 = .ok (.getfield 84, 3) := by decide +kernel
theorem d_B_placeOfDraft_82 : decode b_B_placeOfDraft 82 = .ok (.aload_n 0, 1) := by decide +kernel
theorem d_B_placeOfDraft_83 : decode b_B_placeOfDraft 83 = .ok (.getfield 88, 3) := by decide +kernel
theorem d_B_placeOfDraft_86 : decode b_B_placeOfDraft 86 = .ok (.iastore, 1) := by decide +kernel
theorem d_B_placeOfDraft_87 : decode b_B_placeOfDraft 87 = .ok (.aload_n 0, 1) := by decide +kernel
theorem d_B_placeOfDraft_88 : decode b_B_placeOfDraft 88 = .ok (.dup, 1) := by decide +kernel
theorem d_B_placeOfDraft_89 : decode b_B_placeOfDraft 89 = .ok (.getfield 84, 3) := by decide +kernel
theorem d_B_placeOfDraft_92 : decode b_B_placeOfDraft 92 = .ok (.iconst 1, 1) := by decide +kernel
theorem d_B_placeOfDraft_93 : decode b_B_placeOfDraft 93 = .ok (.iadd, 1) := by decide +kernel
theorem d_B_placeOfDraft_94 : decode b_B_placeOfDraft 94 = .ok (.putfield 84, 3) := by decide +kernel
theorem d_B_placeOfDraft_97 : decode b_B_placeOfDraft 97 = .ok (.aload_n 0, 1) := by decide +kernel
theorem d_B_placeOfDraft_98 : decode b_B_placeOfDraft 98 = .ok (.getfield 88, 3) := by decide +kernel
theorem d_B_placeOfDraft_101 : decode b_B_placeOfDraft 101 = .ok (.ireturn, 1) := by decide +kernel
theorem d_B_hasAllRequired_0 : decode b_B_hasAllRequired 0 = .ok (.aload_n 0, 1) := by decide +kernel
theorem d_B_hasAllRequired_1 : decode b_B_hasAllRequired 1 = .ok (.getfield 39, 3) := by decide +kernel
theorem d_B_hasAllRequired_4 : decode b_B_hasAllRequired 4 = .ok (.iload_n 1, 1) := by decide +kernel
theorem d_B_hasAllRequired_5 : decode b_B_hasAllRequired 5 = .ok (.invokevirtual 47, 3) := by decide +kernel
theorem d_B_hasAllRequired_8 : decode b_B_hasAllRequired 8 = .ok (.istore_n 2, 1) := by decide +kernel
theorem d_B_hasAllRequired_9 : decode b_B_hasAllRequired 9 = .ok (.iconst 0, 1) := by decide +kernel
theorem d_B_hasAllRequired_10 : decode b_B_hasAllRequired 10 = .ok (.istore_n 3, 1) := by decide +kernel
theorem d_B_hasAllRequired_11 : decode b_B_hasAllRequired 11 = .ok (.iload_n 3, 1) := by decide +kernel
theorem d_B_hasAllRequired_12 : decode b_B_hasAllRequired 12 = .ok (.aload_n 0, 1) := by decide +kernel
theorem d_B_hasAllRequired_13 : decode b_B_hasAllRequired 13 = .ok (.getfield 35, 3) := by decide +kernel
theorem d_B_hasAllRequired_16 : decode b_B_hasAllRequired 16 = .ok (.iload_n 2, 1) := by decide +kernel
theorem d_B_hasAllRequired_17 : decode b_B_hasAllRequired 17 = .ok (.invokevirtual 53, 3) := by decide +kernel
theorem d_B_hasAllRequired_20 : decode b_B_hasAllRequired 20 = .ok (.if_icmp .ge 73, 3) := by decide +kernel
theorem d_B_hasAllRequired_23 : decode b_B_hasAllRequired 23 = .ok (.iload_n 1, 1) := by decide +kernel
theorem d_B_hasAllRequired_24 : decode b_B_hasAllRequired 24 = .ok (.iload_n 3, 1) := by decide +kernel
theorem d_B_hasAllRequired_25 : decode b_B_hasAllRequired 25 = .ok (.invokestatic 58, 3) := by decide +kernel
theorem d_B_hasAllRequired_28 : decode b_B_hasAllRequired 28 = .ok (.istore 4, 2) := by decide +kernel
theorem d_B_hasAllRequired_30 : decode b_B_hasAllRequired 30 = .ok (.aload_n 0, 1) := by decide +kernel
theorem d_B_hasAllRequired_31 : decode b_B_hasAllRequired 31 = .ok (.getfield 39, 3) := by decide +kernel
theorem d_B_hasAllRequired_34 : decode b_B_hasAllRequired 34 = .ok (.getfield 62, 3) := by decide +kernel
theorem d_B_hasAllRequired_37 : decode b_B_hasAllRequired 37 = .ok (.iload 4, 2) := by decide +kernel
theorem d_B_hasAllRequired_39 : decode b_B_hasAllRequired 39 = .ok (.baload, 1) := by decide +kernel
theorem d_B_hasAllRequired_40 : decode b_B_hasAllRequired 40 = .ok (.ifCond .ne 17, 3) := by decide +kernel
theorem d_B_hasAllRequired_43 : decode b_B_hasAllRequired 43 = .ok (.aload_n 0, 1) := by decide +kernel
theorem d_B_hasAllRequired_44 : decode b_B_hasAllRequired 44 = .ok (.getfield 35, 3) := by decide +kernel
theorem d_B_hasAllRequired_47 : decode b_B_hasAllRequired 47 = .ok (.iload_n 2, 1) := by decide +kernel
theorem d_B_hasAllRequired_48 : decode b_B_hasAllRequired 48 = .ok (.iload_n 3, 1) := by decide +kernel
theorem d_B_hasAllRequired_49 : decode b_B_hasAllRequired 49 = .ok (.invokevirtual 65, 3) := by decide +kernel
theorem d_B_hasAllRequired_52 : decode b_B_hasAllRequired 52 = .ok (.ifCond .eq 35, 3) := by decide +kernel
theorem d_B_hasAllRequired_55 : decode b_B_hasAllRequired 55 = .ok (.iconst 0, 1) := by decide +kernel
theorem d_B_hasAllRequired_56 : decode b_B_hasAllRequired 56 = .ok (.ireturn, 1) := by decide +kernel
theorem d_B_hasAllRequired_57 : decode b_B_hasAllRequired 57 = .ok (.aload_n 0, 1) := by decide +kernel
theorem d_B_hasAllRequired_58 : decode b_B_hasAllRequired 58 = .ok (.getfield 35, 3) := by decide +kernel
theorem d_B_hasAllRequired_61 : decode b_B_hasAllRequired 61 = .ok (.iload_n 2, 1) := by decide +kernel
theorem d_B_hasAllRequired_62 : decode b_B_hasAllRequired 62 = .ok (.iload_n 3, 1) := by decide +kernel
theorem d_B_hasAllRequired_63 : decode b_B_hasAllRequired 63 = .ok (.invokevirtual 69, 3) := by decide +kernel
theorem d_B_hasAllRequired_66 : decode b_B_hasAllRequired 66 = .ok (.bipush 6, 2) := by decide +kernel
theorem d_B_hasAllRequired_68 : decode b_B_hasAllRequired 68 = .ok (.if_icmp .ne 19, 3) := by decide +kernel
theorem d_B_hasAllRequired_71 : decode b_B_hasAllRequired 71 = .ok (.aload_n 0, 1) := by decide +kernel
theorem d_B_hasAllRequired_72 : decode b_B_hasAllRequired 72 = .ok (.getfield 15, 3) := by decide +kernel
theorem d_B_hasAllRequired_75 : decode b_B_hasAllRequired 75 = .ok (.aload_n 0, 1) := by decide +kernel
theorem d_B_hasAllRequired_76 : decode b_B_hasAllRequired 76 = .ok (.getfield 39, 3) := by decide +kernel
theorem d_B_hasAllRequired_79 : decode b_B_hasAllRequired 79 = .ok (.getfield 72, 3) := by decide +kernel
theorem d_B_hasAllRequired_82 : decode b_B_hasAllRequired 82 = .ok (.iload 4, 2) := by decide +kernel
theorem d_B_hasAllRequired_84 : decode b_B_hasAllRequired 84 = .ok (.iaload, 1) := by decide +kernel
theorem d_B_hasAllRequired_85 : decode b_B_hasAllRequired 85 = .ok (.iconst 1, 1) := by decide +kernel
theorem d_B_hasAllRequired_86 : decode b_B_hasAllRequired 86 = .ok (.bastore, 1) := by decide +kernel
theorem d_B_hasAllRequired_87 : decode b_B_hasAllRequired 87 = .ok (.iinc 3 1, 3) := by decide +kernel
theorem d_B_hasAllRequired_90 : decode b_B_hasAllRequired 90 = .ok (.goto (-79), 3) := by decide +kernel
theorem d_B_hasAllRequired_93 : decode b_B_hasAllRequired 93 = .ok (.iconst 1, 1) := by decide +kernel
theorem d_B_hasAllRequired_94 : decode b_B_hasAllRequired 94 = .ok (.ireturn, 1) := by decide +kernel
theorem d_B_isWhole_0 : decode b_B_isWhole 0 = .ok (.iconst 0, 1) := by decide +kernel
theorem d_B_isWhole_1 : decode b_B_isWhole 1 = .ok (.istore_n 2, 1) := by decide +kernel
theorem d_B_isWhole_2 : decode b_B_isWhole 2 = .ok (.iload_n 2, 1) := by decide +kernel
theorem d_B_isWhole_3 : decode b_B_isWhole 3 = .ok (.bipush 16, 2) := by decide +kernel
theorem d_B_isWhole_5 : decode b_B_isWhole 5 = .ok (.if_icmp .ge 25, 3) := by decide +kernel
theorem d_B_isWhole_8 : decode b_B_isWhole 8 = .ok (.aload_n 0, 1) := by decide +kernel
theorem d_B_isWhole_9 : decode b_B_isWhole 9 = .ok (.getfield 15, 3) := by decide +kernel
theorem d_B_isWhole_12 : decode b_B_isWhole 12 = .ok (.iload_n 2, 1) := by decide +kernel
theorem d_B_isWhole_13 : decode b_B_isWhole 13 = .ok (.iload_n 2, 1) := by decide +kernel
theorem d_B_isWhole_14 : decode b_B_isWhole 14 = .ok (.iload_n 1, 1) := by decide +kernel
theorem d_B_isWhole_15 : decode b_B_isWhole 15 = .ok (.if_icmp .ne 7, 3) := by decide +kernel
theorem d_B_isWhole_18 : decode b_B_isWhole 18 = .ok (.iconst 1, 1) := by decide +kernel
theorem d_B_isWhole_19 : decode b_B_isWhole 19 = .ok (.goto 4, 3) := by decide +kernel
theorem d_B_isWhole_22 : decode b_B_isWhole 22 = .ok (.iconst 0, 1) := by decide +kernel
theorem d_B_isWhole_23 : decode b_B_isWhole 23 = .ok (.bastore, 1) := by decide +kernel
theorem d_B_isWhole_24 : decode b_B_isWhole 24 = .ok (.iinc 2 1, 3) := by decide +kernel
theorem d_B_isWhole_27 : decode b_B_isWhole 27 = .ok (.goto (-25), 3) := by decide +kernel
theorem d_B_isWhole_30 : decode b_B_isWhole 30 = .ok (.iload_n 1, 1) := by decide +kernel
theorem d_B_isWhole_31 : decode b_B_isWhole 31 = .ok (.istore_n 2, 1) := by decide +kernel
theorem d_B_isWhole_32 : decode b_B_isWhole 32 = .ok (.iload_n 2, 1) := by decide +kernel
theorem d_B_isWhole_33 : decode b_B_isWhole 33 = .ok (.ifCond .lt 28, 3) := by decide +kernel
theorem d_B_isWhole_36 : decode b_B_isWhole 36 = .ok (.aload_n 0, 1) := by decide +kernel
theorem d_B_isWhole_37 : decode b_B_isWhole 37 = .ok (.getfield 15, 3) := by decide +kernel
theorem d_B_isWhole_40 : decode b_B_isWhole 40 = .ok (.iload_n 2, 1) := by decide +kernel
theorem d_B_isWhole_41 : decode b_B_isWhole 41 = .ok (.baload, 1) := by decide +kernel
theorem d_B_isWhole_42 : decode b_B_isWhole 42 = .ok (.ifCond .eq 13, 3) := by decide +kernel
theorem d_B_isWhole_45 : decode b_B_isWhole 45 = .ok (.aload_n 0, 1) := by decide +kernel
theorem d_B_isWhole_46 : decode b_B_isWhole 46 = .ok (.iload_n 2, 1) := by decide +kernel
theorem d_B_isWhole_47 : decode b_B_isWhole 47 = .ok (.invokevirtual 43, 3) := by decide +kernel
theorem d_B_isWhole_50 : decode b_B_isWhole 50 = .ok (.ifCond .ne 5, 3) := by decide +kernel
theorem d_B_isWhole_53 : decode b_B_isWhole 53 = .ok (.iconst 0, 1) := by decide +kernel
theorem d_B_isWhole_54 : decode b_B_isWhole 54 = .ok (.ireturn, 1) := by decide +kernel
theorem d_B_isWhole_55 : decode b_B_isWhole 55 = .ok (.iinc 2 (-1), 3) := by decide +kernel
theorem d_B_isWhole_58 : decode b_B_isWhole 58 = .ok (.goto (-26), 3) := by decide +kernel
theorem d_B_isWhole_61 : decode b_B_isWhole 61 = .ok (.iconst 1, 1) := by decide +kernel
theorem d_B_isWhole_62 : decode b_B_isWhole 62 = .ok (.ireturn, 1) := by decide +kernel
theorem m_B_draftOffsets : kIV y_B_draftOffsets b_B_draftOffsets 8 none 3 := ⟨⟨wd_46add175, wd_5ef1b69f, ⟨by decide, by decide⟩, by decide +kernel⟩, wd_4c1c9dd2, wd_5f9a77b5⟩
theorem m_B_isSameAsDraft : kIV y_B_isSameAsDraft b_B_isSameAsDraft 4 (some .boolean) 1 := ⟨⟨wd_55c97db0, wd_5ef1b69f, ⟨by decide, by decide⟩, by decide +kernel⟩, wd_5645e79a, wd_ebeec7f5⟩
theorem m_B_placeOfDraft : kIV y_B_placeOfDraft b_B_placeOfDraft 3 (some .int) 0 := ⟨⟨wd_f5b70d06, wd_5ef1b69f, ⟨by decide, by decide⟩, by decide +kernel⟩, wd_6ecac37f, wd_975f40ba⟩
theorem m_B_hasAllRequired : kIV y_B_hasAllRequired b_B_hasAllRequired 5 (some .boolean) 1 := ⟨⟨wd_fc770d9e, wd_5ef1b69f, ⟨by decide, by decide⟩, by decide +kernel⟩, wd_a031ccf7, wd_7a8459e4⟩
theorem m_B_isWhole : kIV y_B_isWhole b_B_isWhole 3 (some .boolean) 1 := ⟨⟨wd_5bffc818, wd_5ef1b69f, ⟨by decide, by decide⟩, by decide +kernel⟩, wd_e0293bc7, wd_3ae35d4d⟩
set_option maxHeartbeats 4000000 in
set_option maxRecDepth 100000 in
theorem c_B_draftOffsets (l : Launch) (D : va_G) (a : Nat → Nat) (g : Nat → ClassId) (tw : Nat) (sLen sKind : Nat → Nat) (sExt : Nat → Int32) (sMust : Nat → Bool) (rTab : Nat → Nat) (rFil : Nat → Bool) (rNum : Nat → Int64) (rLnk rLen : Nat → Nat) (rItm : Nat → Int32) (made : Nat) (pItm : Nat → Int32) (held : Nat) (dByt : Nat → Nat) (dLen : Nat) (bByt : Nat → Nat) (bRea : Nat → Bool) (bRec bItm bFld bOff bOfp : Nat → Nat) (kept wrt wid ent : Nat) (ver : Bool) (fAdr fTab adr tab : Nat) (lf : Int32) (n0 : Nat) (bf : Nat) (pl : Nat)  (hk : kept < 16) (hn6 : n0 ≤ 6) (hbf : bf ≤ pl) (hpl : pl < 100000) (hfl : ∀ k, k < n0 → bFld k ≤ pl) : kM l y_B_draftOffsets b_B_draftOffsets 8 none ({ frames := 0, cells := 0, slots := 0, locals := 0 }) D vwCl (WdT g) tw [.ref (a 5), .int (nI n0), .int (nI bf), .int (nI pl)] (Wd a g sLen sKind sExt sMust rTab rFil rNum rLnk rLen rItm made pItm held dByt dLen bByt bRea bRec bItm bFld bOff bOfp kept wrt wid ent ver fAdr fTab adr tab lf) none (Wd a g sLen sKind sExt sMust rTab rFil rNum rLnk rLen rItm made pItm held dByt dLen bByt bRea bRec bItm bFld (drP bOff (kept * 8) bFld n0 bf pl) bOfp kept wrt wid ent ver fAdr fTab adr tab lf) := by
  refine k_of (by decide) (Nat.le_of_ble_eq_true rfl) ?_
  intro p e s m below meth c A ls hx hb hr hlocks hml hts hown hin0 hA hP hK hD hS hZ hl
  have hl : lv_has ls 8 [(0, .ref (a 5)), (1, .int (nI n0)), (2, .int (nI bf)), (3, .int (nI pl))] := hl
  refine lv_aload_n hx hb d_B_draftOffsets_0 rfl (lv_at hl 0 rfl) ?_
  refine va_get (D := D) (ci := 5) (C := R_B) (T := T_B) (N := 12) hx hb hts (fun w h => kT w (i_B w h)) hown hK hP 5 rfl rfl 9 (by decide) (hts _ (kT _ wd_bf45e2dc)) (fun _ h9 => h9) rfl d_B_draftOffsets_1 ?_
  refine lv_bipush (v := nI 8) hx hb d_B_draftOffsets_4 (by decide) ?_
  refine lv_imul hx hb d_B_draftOffsets_6 ?_
  refine lv_eqi (pk_mul _ _) ?_
  refine lv_istore (lv' := [(4, .int (nI (kept * 8))), (0, .ref (a 5)), (1, .int (nI n0)), (2, .int (nI bf)), (3, .int (nI pl))]) hx hb d_B_draftOffsets_7 hl (by decide) rfl (fun ls hl => ?_)
  refine lv_iconst (v := nI 0) hx hb d_B_draftOffsets_9 (by decide) ?_
  refine lv_istore (lv' := [(5, .int (nI 0)), (4, .int (nI (kept * 8))), (0, .ref (a 5)), (1, .int (nI n0)), (2, .int (nI bf)), (3, .int (nI pl))]) hx hb d_B_draftOffsets_10 hl (by decide) rfl (fun ls hl => ?_)
  refine lv_iconst (v := nI 0) hx hb d_B_draftOffsets_12 (by decide) ?_
  refine lv_istore (lv' := [(6, .int (nI 0)), (5, .int (nI 0)), (4, .int (nI (kept * 8))), (0, .ref (a 5)), (1, .int (nI n0)), (2, .int (nI bf)), (3, .int (nI pl))]) hx hb d_B_draftOffsets_13 hl (by decide) rfl (fun ls hl => ?_)
  have e_5 : nI 0 = nI (tdR bFld 0) := rfl
  have hl : lv_has ls 8 [(6, .int (nI 0)), (5, .int (nI (tdR bFld 0))), (4, .int (nI (kept * 8))), (0, .ref (a 5)), (1, .int (nI n0)), (2, .int (nI bf)), (3, .int (nI pl))] := by rw [← e_5]; exact hl
  have hP : va_P D vwCl (Wd a g sLen sKind sExt sMust rTab rFil rNum rLnk rLen rItm made pItm held dByt dLen bByt bRea bRec bItm bFld (drR bOff (kept * 8) bFld pl 0) bOfp kept wrt wid ent ver fAdr fTab adr tab lf) _ := hP
  have hD : va_D A (Wd a g sLen sKind sExt sMust rTab rFil rNum rLnk rLen rItm made pItm held dByt dLen bByt bRea bRec bItm bFld (drR bOff (kept * 8) bFld pl 0) bOfp kept wrt wid ent ver fAdr fTab adr tab lf) := hD
  have L_15 : ∀ (n : Nat) (nn : Nat), (nn ≤ n0) → n0 - nn < n → ∀ (H : Heap) (locs : List Loc) (ls : Array Slot), va_P D vwCl (Wd a g sLen sKind sExt sMust rTab rFil rNum rLnk rLen rItm made pItm held dByt dLen bByt bRea bRec bItm bFld (drR bOff (kept * 8) bFld pl nn) bOfp kept wrt wid ent ver fAdr fTab adr tab lf) H → va_D A (Wd a g sLen sKind sExt sMust rTab rFil rNum rLnk rLen rItm made pItm held dByt dLen bByt bRea bRec bItm bFld (drR bOff (kept * 8) bFld pl nn) bOfp kept wrt wid ent ver fAdr fTab adr tab lf) → va_S A s.heap H locs → lv_has ls 8 [(6, .int (nI nn)), (5, .int (nI (tdR bFld nn))), (4, .int (nI (kept * 8))), (0, .ref (a 5)), (1, .int (nI n0)), (2, .int (nI bf)), (3, .int (nI pl))] → W p l e ({ frames := 0, cells := 0, slots := 0, locals := 0 }) s m ([.ref (a 5), .int (nI n0), .int (nI bf), .int (nI pl)] : List Value).toArray below meth c H locs 0 0 (MQ below (kQ D vwCl (WdT g) A True none (Wd a g sLen sKind sExt sMust rTab rFil rNum rLnk rLen rItm made pItm held dByt dLen bByt bRea bRec bItm bFld (drP bOff (kept * 8) bFld n0 bf pl) bOfp kept wrt wid ent ver fAdr fTab adr tab lf)) ([.ref (a 5), .int (nI n0), .int (nI bf), .int (nI pl)] : List Value).toArray s 0 0 A) (F0 m 15 ls []) := by
    intro n
    induction n with
    | zero => intro nn hnn hm; exact absurd hm (Nat.not_lt_zero _)
    | succ n ih_15 =>
      intro nn hnn hm_15 H locs ls hP hD hS hl
      refine lv_iload hx hb d_B_draftOffsets_15 (lv_at hl 0 rfl) ?_
      refine lv_iload_n hx hb d_B_draftOffsets_17 rfl (lv_at hl 4 rfl) ?_
      refine lv_icmp_ge (tgt := 85) hx hb d_B_draftOffsets_18 (by decide) (fun c_18 => ?_) (fun c_18 => ?_)
      · skip
        have c_18 := (nI_leI (by omega) (by omega)).mp c_18
        have h_nn : n0 = nn := by omega
        subst h_nn
        refine lv_aload_n hx hb d_B_draftOffsets_85 rfl (lv_at hl 3 rfl) ?_
        refine va_get (D := D) (ci := 5) (C := R_B) (T := T_B) (N := 12) hx hb hts (fun w h => kT w (i_B w h)) hown hK hP 5 rfl rfl 7 (by decide) (hts _ (kT _ wd_baf457c8)) (fun _ h9 => h9) rfl d_B_draftOffsets_86 ?_
        refine lv_iload hx hb d_B_draftOffsets_89 (lv_at hl 2 rfl) ?_
        refine lv_iconst (v := nI 2) hx hb d_B_draftOffsets_91 (by decide) ?_
        refine lv_iconst (v := nI 2) hx hb d_B_draftOffsets_92 (by decide) ?_
        refine lv_iload hx hb d_B_draftOffsets_93 (lv_at hl 1 rfl) ?_
        refine lv_iadd hx hb d_B_draftOffsets_95 ?_
        refine lv_eqi (nI_add _ _) ?_
        refine lv_imul hx hb d_B_draftOffsets_96 ?_
        refine lv_eqi (pk_mul _ _) ?_
        refine n_iast hx hb hK hP hD hS 25 17 rfl rfl (i := (kept * 8)) (by omega) (by decide) d_B_draftOffsets_97 (fun H locs hP hD hS => ?_)
        have hP : va_P D vwCl (Wd a g sLen sKind sExt sMust rTab rFil rNum rLnk rLen rItm made pItm held dByt dLen bByt bRea bRec bItm bFld (va_up (drR bOff (kept * 8) bFld pl n0) (kept * 8) (2 * (2 + (tdR bFld n0)))) bOfp kept wrt wid ent ver fAdr fTab adr tab lf) H := hP
        have hD : va_D A (Wd a g sLen sKind sExt sMust rTab rFil rNum rLnk rLen rItm made pItm held dByt dLen bByt bRea bRec bItm bFld (va_up (drR bOff (kept * 8) bFld pl n0) (kept * 8) (2 * (2 + (tdR bFld n0)))) bOfp kept wrt wid ent ver fAdr fTab adr tab lf) := hD
        refine lv_aload_n hx hb d_B_draftOffsets_98 rfl (lv_at hl 3 rfl) ?_
        refine va_get (D := D) (ci := 5) (C := R_B) (T := T_B) (N := 12) hx hb hts (fun w h => kT w (i_B w h)) hown hK hP 5 rfl rfl 7 (by decide) (hts _ (kT _ wd_baf457c8)) (fun _ h9 => h9) rfl d_B_draftOffsets_99 ?_
        refine lv_iload hx hb d_B_draftOffsets_102 (lv_at hl 2 rfl) ?_
        refine lv_iconst (v := nI 1) hx hb d_B_draftOffsets_104 (by decide) ?_
        refine lv_iadd hx hb d_B_draftOffsets_105 ?_
        refine lv_eqi (nI_add _ _) ?_
        refine lv_iload_n hx hb d_B_draftOffsets_106 rfl (lv_at hl 6 rfl) ?_
        refine lv_iload_n hx hb d_B_draftOffsets_107 rfl (lv_at hl 5 rfl) ?_
        refine lv_isub hx hb d_B_draftOffsets_108 ?_
        refine lv_eqi (pk_sub (by omega)) ?_
        refine n_iast hx hb hK hP hD hS 25 17 rfl rfl (i := ((kept * 8) + 1)) (by omega) (by decide) d_B_draftOffsets_109 (fun H locs hP hD hS => ?_)
        have hP : va_P D vwCl (Wd a g sLen sKind sExt sMust rTab rFil rNum rLnk rLen rItm made pItm held dByt dLen bByt bRea bRec bItm bFld (va_up (va_up (drR bOff (kept * 8) bFld pl n0) (kept * 8) (2 * (2 + (tdR bFld n0)))) ((kept * 8) + 1) (pl - bf)) bOfp kept wrt wid ent ver fAdr fTab adr tab lf) H := hP
        have hD : va_D A (Wd a g sLen sKind sExt sMust rTab rFil rNum rLnk rLen rItm made pItm held dByt dLen bByt bRea bRec bItm bFld (va_up (va_up (drR bOff (kept * 8) bFld pl n0) (kept * 8) (2 * (2 + (tdR bFld n0)))) ((kept * 8) + 1) (pl - bf)) bOfp kept wrt wid ent ver fAdr fTab adr tab lf) := hD
        exact k_vret hx hb hr hlocks hK hP hD hS (trivial) (rfl) d_B_draftOffsets_110
      · skip
        have c_18 := mt (nI_leI (by omega) (by omega)).mpr c_18
        have hf1 := hfl nn (by omega)
        refine lv_aload_n hx hb d_B_draftOffsets_21 rfl (lv_at hl 3 rfl) ?_
        refine va_get (D := D) (ci := 5) (C := R_B) (T := T_B) (N := 12) hx hb hts (fun w h => kT w (i_B w h)) hown hK hP 5 rfl rfl 6 (by decide) (hts _ (kT _ wd_7f09d0da)) (fun _ h9 => h9) rfl d_B_draftOffsets_22 ?_
        refine lv_iload hx hb d_B_draftOffsets_25 (lv_at hl 0 rfl) ?_
        refine n_iald hx hb hK hP 24 16 rfl rfl (i := nn) (by omega) (by decide) d_B_draftOffsets_27 ?_
        refine lv_if_eq (tgt := 35) hx hb d_B_draftOffsets_28 (by decide) (fun c_28 => ?_) (fun c_28 => ?_)
        · skip
          have c_28 := (z_eq (by omega)).mp c_28
          refine lv_iconst (v := nI 0) hx hb d_B_draftOffsets_35 (by decide) ?_
          refine lv_istore (lv' := [(7, .int (nI 0)), (6, .int (nI nn)), (5, .int (nI (tdR bFld nn))), (4, .int (nI (kept * 8))), (0, .ref (a 5)), (1, .int (nI n0)), (2, .int (nI bf)), (3, .int (nI pl))]) hx hb d_B_draftOffsets_36 hl (by decide) rfl (fun ls hl => ?_)
          refine lv_aload_n hx hb d_B_draftOffsets_38 rfl (lv_at hl 4 rfl) ?_
          refine va_get (D := D) (ci := 5) (C := R_B) (T := T_B) (N := 12) hx hb hts (fun w h => kT w (i_B w h)) hown hK hP 5 rfl rfl 7 (by decide) (hts _ (kT _ wd_baf457c8)) (fun _ h9 => h9) rfl d_B_draftOffsets_39 ?_
          refine lv_iload hx hb d_B_draftOffsets_42 (lv_at hl 3 rfl) ?_
          refine lv_iconst (v := nI 2) hx hb d_B_draftOffsets_44 (by decide) ?_
          refine lv_iadd hx hb d_B_draftOffsets_45 ?_
          refine lv_eqi (nI_add _ _) ?_
          refine lv_iload hx hb d_B_draftOffsets_46 (lv_at hl 1 rfl) ?_
          refine lv_iadd hx hb d_B_draftOffsets_48 ?_
          refine lv_eqi (nI_add _ _) ?_
          refine lv_iload hx hb d_B_draftOffsets_49 (lv_at hl 0 rfl) ?_
          refine lv_if_eq (tgt := 66) hx hb d_B_draftOffsets_51 (by decide) (fun _ => ?_) (fun c_51 => absurd (by decide) c_51)
          refine lv_iconst (v := nI 0) hx hb d_B_draftOffsets_66 (by decide) ?_
          refine n_iast hx hb hK hP hD hS 25 17 rfl rfl (i := (((kept * 8) + 2) + nn)) (by omega) (by decide) d_B_draftOffsets_67 (fun H locs hP hD hS => ?_)
          have hP : va_P D vwCl (Wd a g sLen sKind sExt sMust rTab rFil rNum rLnk rLen rItm made pItm held dByt dLen bByt bRea bRec bItm bFld (va_up (drR bOff (kept * 8) bFld pl nn) (((kept * 8) + 2) + nn) 0) bOfp kept wrt wid ent ver fAdr fTab adr tab lf) H := hP
          have hD : va_D A (Wd a g sLen sKind sExt sMust rTab rFil rNum rLnk rLen rItm made pItm held dByt dLen bByt bRea bRec bItm bFld (va_up (drR bOff (kept * 8) bFld pl nn) (((kept * 8) + 2) + nn) 0) bOfp kept wrt wid ent ver fAdr fTab adr tab lf) := hD
          refine lv_iload hx hb d_B_draftOffsets_68 (lv_at hl 0 rfl) ?_
          refine lv_if_eq (tgt := 79) hx hb d_B_draftOffsets_70 (by decide) (fun _ => ?_) (fun c_70 => absurd (by decide) c_70)
          refine lv_iinc (v := nI (nn + 1)) (lv' := [(6, .int (nI (nn + 1))), (7, .int (nI 0)), (5, .int (nI (tdR bFld nn))), (4, .int (nI (kept * 8))), (0, .ref (a 5)), (1, .int (nI n0)), (2, .int (nI bf)), (3, .int (nI pl))]) hx hb d_B_draftOffsets_79 hl (k := 1) rfl (nI_1 _) (by decide) rfl (fun ls hl => ?_)
          refine lv_goto (tgt := 15) hx hb d_B_draftOffsets_82 (by decide) ?_
          have e_5 : nI (tdR bFld nn) = nI (tdR bFld (nn + 1)) := by first | rw [tdR, if_pos c_28] | rw [tdR, if_neg c_28]
          have hl : lv_has ls 8 [(6, .int (nI (nn + 1))), (7, .int (nI 0)), (5, .int (nI (tdR bFld (nn + 1)))), (4, .int (nI (kept * 8))), (0, .ref (a 5)), (1, .int (nI n0)), (2, .int (nI bf)), (3, .int (nI pl))] := by rw [← e_5]; exact hl
          have ec_bOff : va_up (drR bOff (kept * 8) bFld pl nn) (((kept * 8) + 2) + nn) 0 = drR bOff (kept * 8) bFld pl (nn + 1) := by first | rw [drR, if_pos c_28] | rw [drR, if_neg c_28]
          have hP : va_P D vwCl (Wd a g sLen sKind sExt sMust rTab rFil rNum rLnk rLen rItm made pItm held dByt dLen bByt bRea bRec bItm bFld (drR bOff (kept * 8) bFld pl (nn + 1)) bOfp kept wrt wid ent ver fAdr fTab adr tab lf) H := by rw [← ec_bOff]; exact hP
          have hD : va_D A (Wd a g sLen sKind sExt sMust rTab rFil rNum rLnk rLen rItm made pItm held dByt dLen bByt bRea bRec bItm bFld (drR bOff (kept * 8) bFld pl (nn + 1)) bOfp kept wrt wid ent ver fAdr fTab adr tab lf) := by rw [← ec_bOff]; exact hD
          exact ih_15 (nn + 1) (by omega) (by omega) _ _ _ hP hD hS (lv_sub hl [0, 2, 3, 4, 5, 6, 7] rfl)
        · skip
          have c_28 := mt (z_eq (by omega)).mpr c_28
          refine lv_iconst (v := nI 1) hx hb d_B_draftOffsets_31 (by decide) ?_
          refine lv_goto (tgt := 36) hx hb d_B_draftOffsets_32 (by decide) ?_
          refine lv_istore (lv' := [(7, .int (nI 1)), (6, .int (nI nn)), (5, .int (nI (tdR bFld nn))), (4, .int (nI (kept * 8))), (0, .ref (a 5)), (1, .int (nI n0)), (2, .int (nI bf)), (3, .int (nI pl))]) hx hb d_B_draftOffsets_36 hl (by decide) rfl (fun ls hl => ?_)
          refine lv_aload_n hx hb d_B_draftOffsets_38 rfl (lv_at hl 4 rfl) ?_
          refine va_get (D := D) (ci := 5) (C := R_B) (T := T_B) (N := 12) hx hb hts (fun w h => kT w (i_B w h)) hown hK hP 5 rfl rfl 7 (by decide) (hts _ (kT _ wd_baf457c8)) (fun _ h9 => h9) rfl d_B_draftOffsets_39 ?_
          refine lv_iload hx hb d_B_draftOffsets_42 (lv_at hl 3 rfl) ?_
          refine lv_iconst (v := nI 2) hx hb d_B_draftOffsets_44 (by decide) ?_
          refine lv_iadd hx hb d_B_draftOffsets_45 ?_
          refine lv_eqi (nI_add _ _) ?_
          refine lv_iload hx hb d_B_draftOffsets_46 (lv_at hl 1 rfl) ?_
          refine lv_iadd hx hb d_B_draftOffsets_48 ?_
          refine lv_eqi (nI_add _ _) ?_
          refine lv_iload hx hb d_B_draftOffsets_49 (lv_at hl 0 rfl) ?_
          refine lv_if_eq (tgt := 66) hx hb d_B_draftOffsets_51 (by decide) (fun c_51 => absurd c_51 (by decide)) (fun _ => ?_)
          refine lv_iload_n hx hb d_B_draftOffsets_54 rfl (lv_at hl 7 rfl) ?_
          refine lv_aload_n hx hb d_B_draftOffsets_55 rfl (lv_at hl 4 rfl) ?_
          refine va_get (D := D) (ci := 5) (C := R_B) (T := T_B) (N := 12) hx hb hts (fun w h => kT w (i_B w h)) hown hK hP 5 rfl rfl 6 (by decide) (hts _ (kT _ wd_7f09d0da)) (fun _ h9 => h9) rfl d_B_draftOffsets_56 ?_
          refine lv_iload hx hb d_B_draftOffsets_59 (lv_at hl 1 rfl) ?_
          refine n_iald hx hb hK hP 24 16 rfl rfl (i := nn) (by omega) (by decide) d_B_draftOffsets_61 ?_
          refine lv_isub hx hb d_B_draftOffsets_62 ?_
          refine lv_eqi (pk_sub (by omega)) ?_
          refine lv_goto (tgt := 67) hx hb d_B_draftOffsets_63 (by decide) ?_
          refine n_iast hx hb hK hP hD hS 25 17 rfl rfl (i := (((kept * 8) + 2) + nn)) (by omega) (by decide) d_B_draftOffsets_67 (fun H locs hP hD hS => ?_)
          have hP : va_P D vwCl (Wd a g sLen sKind sExt sMust rTab rFil rNum rLnk rLen rItm made pItm held dByt dLen bByt bRea bRec bItm bFld (va_up (drR bOff (kept * 8) bFld pl nn) (((kept * 8) + 2) + nn) (pl - (bFld nn))) bOfp kept wrt wid ent ver fAdr fTab adr tab lf) H := hP
          have hD : va_D A (Wd a g sLen sKind sExt sMust rTab rFil rNum rLnk rLen rItm made pItm held dByt dLen bByt bRea bRec bItm bFld (va_up (drR bOff (kept * 8) bFld pl nn) (((kept * 8) + 2) + nn) (pl - (bFld nn))) bOfp kept wrt wid ent ver fAdr fTab adr tab lf) := hD
          refine lv_iload hx hb d_B_draftOffsets_68 (lv_at hl 0 rfl) ?_
          refine lv_if_eq (tgt := 79) hx hb d_B_draftOffsets_70 (by decide) (fun c_70 => absurd c_70 (by decide)) (fun _ => ?_)
          refine lv_iload hx hb d_B_draftOffsets_73 (lv_at hl 1 rfl) ?_
          refine lv_iconst (v := nI 1) hx hb d_B_draftOffsets_75 (by decide) ?_
          refine lv_iadd hx hb d_B_draftOffsets_76 ?_
          refine lv_eqi (nI_add _ _) ?_
          refine lv_istore (lv' := [(5, .int (nI (nn + 1))), (7, .int (nI 1)), (6, .int (nI nn)), (4, .int (nI (kept * 8))), (0, .ref (a 5)), (1, .int (nI n0)), (2, .int (nI bf)), (3, .int (nI pl))]) hx hb d_B_draftOffsets_77 hl (by decide) rfl (fun ls hl => ?_)
          refine lv_iinc (v := nI (nn + 1)) (lv' := [(6, .int (nI (nn + 1))), (5, .int (nI (nn + 1))), (7, .int (nI 1)), (4, .int (nI (kept * 8))), (0, .ref (a 5)), (1, .int (nI n0)), (2, .int (nI bf)), (3, .int (nI pl))]) hx hb d_B_draftOffsets_79 hl (k := 2) rfl (nI_1 _) (by decide) rfl (fun ls hl => ?_)
          refine lv_goto (tgt := 15) hx hb d_B_draftOffsets_82 (by decide) ?_
          have e_5 : nI (nn + 1) = nI (tdR bFld (nn + 1)) := by first | rw [tdR, if_pos c_28] | rw [tdR, if_neg c_28]
          have hl : lv_has ls 8 [(6, .int (nI (nn + 1))), (5, .int (nI (tdR bFld (nn + 1)))), (7, .int (nI 1)), (4, .int (nI (kept * 8))), (0, .ref (a 5)), (1, .int (nI n0)), (2, .int (nI bf)), (3, .int (nI pl))] := by rw [← e_5]; exact hl
          have ec_bOff : va_up (drR bOff (kept * 8) bFld pl nn) (((kept * 8) + 2) + nn) (pl - (bFld nn)) = drR bOff (kept * 8) bFld pl (nn + 1) := by first | rw [drR, if_pos c_28] | rw [drR, if_neg c_28]
          have hP : va_P D vwCl (Wd a g sLen sKind sExt sMust rTab rFil rNum rLnk rLen rItm made pItm held dByt dLen bByt bRea bRec bItm bFld (drR bOff (kept * 8) bFld pl (nn + 1)) bOfp kept wrt wid ent ver fAdr fTab adr tab lf) H := by rw [← ec_bOff]; exact hP
          have hD : va_D A (Wd a g sLen sKind sExt sMust rTab rFil rNum rLnk rLen rItm made pItm held dByt dLen bByt bRea bRec bItm bFld (drR bOff (kept * 8) bFld pl (nn + 1)) bOfp kept wrt wid ent ver fAdr fTab adr tab lf) := by rw [← ec_bOff]; exact hD
          exact ih_15 (nn + 1) (by omega) (by omega) _ _ _ hP hD hS (lv_sub hl [0, 1, 3, 4, 5, 6, 7] rfl)
  exact L_15 ((n0 - 0) + 1) 0 (by omega) (by omega) _ _ _ hP hD hS (lv_sub hl [0, 1, 2, 3, 4, 5, 6] rfl)
set_option maxHeartbeats 4000000 in
set_option maxRecDepth 100000 in
theorem c_B_isSameAsDraft (l : Launch) (D : va_G) (a : Nat → Nat) (g : Nat → ClassId) (tw : Nat) (sLen sKind : Nat → Nat) (sExt : Nat → Int32) (sMust : Nat → Bool) (rTab : Nat → Nat) (rFil : Nat → Bool) (rNum : Nat → Int64) (rLnk rLen : Nat → Nat) (rItm : Nat → Int32) (made : Nat) (pItm : Nat → Int32) (held : Nat) (dByt : Nat → Nat) (dLen : Nat) (bByt : Nat → Nat) (bRea : Nat → Bool) (bRec bItm bFld bOff bOfp : Nat → Nat) (kept wrt wid ent : Nat) (ver : Bool) (fAdr fTab adr tab : Nat) (lf : Int32) (i : Nat)  (hk : kept < 16) (hi : i < 16) (h16 : bOff (kept * 8) ≤ 16) (hO : ∀ j, bOff j < 100000) : kM l y_B_isSameAsDraft b_B_isSameAsDraft 4 (some .boolean) ({ frames := 0, cells := 0, slots := 0, locals := 0 }) D vwCl (WdT g) tw [.ref (a 5), .int (nI i)] (Wd a g sLen sKind sExt sMust rTab rFil rNum rLnk rLen rItm made pItm held dByt dLen bByt bRea bRec bItm bFld bOff bOfp kept wrt wid ent ver fAdr fTab adr tab lf) (some (.int (bI (smP bOff kept i)))) (Wd a g sLen sKind sExt sMust rTab rFil rNum rLnk rLen rItm made pItm held dByt dLen bByt bRea bRec bItm bFld bOff bOfp kept wrt wid ent ver fAdr fTab adr tab lf) := by
  refine k_of (by decide) (Nat.le_of_ble_eq_true rfl) ?_
  intro p e s m below meth c A ls hx hb hr hlocks hml hts hown hin0 hA hP hK hD hS hZ hl
  have hl : lv_has ls 4 [(0, .ref (a 5)), (1, .int (nI i))] := hl
  refine lv_aload_n hx hb d_B_isSameAsDraft_0 rfl (lv_at hl 0 rfl) ?_
  refine va_get (D := D) (ci := 5) (C := R_B) (T := T_B) (N := 12) hx hb hts (fun w h => kT w (i_B w h)) hown hK hP 5 rfl rfl 9 (by decide) (hts _ (kT _ wd_bf45e2dc)) (fun _ h9 => h9) rfl d_B_isSameAsDraft_1 ?_
  refine lv_bipush (v := nI 8) hx hb d_B_isSameAsDraft_4 (by decide) ?_
  refine lv_imul hx hb d_B_isSameAsDraft_6 ?_
  refine lv_eqi (pk_mul _ _) ?_
  refine lv_istore_n (lv' := [(2, .int (nI (kept * 8))), (0, .ref (a 5)), (1, .int (nI i))]) hx hb d_B_isSameAsDraft_7 rfl hl (by decide) rfl (fun ls hl => ?_)
  refine lv_iconst (v := nI 0) hx hb d_B_isSameAsDraft_8 (by decide) ?_
  refine lv_istore_n (lv' := [(3, .int (nI 0)), (2, .int (nI (kept * 8))), (0, .ref (a 5)), (1, .int (nI i))]) hx hb d_B_isSameAsDraft_9 rfl hl (by decide) rfl (fun ls hl => ?_)
  have L_10 : ∀ (n : Nat) (nn : Nat), (nn ≤ (bOff (kept * 8) / 2)) → (smA bOff (i * 8) (kept * 8) nn = true) → (bOff (kept * 8) / 2) - nn < n → ∀ (H : Heap) (locs : List Loc) (ls : Array Slot), va_P D vwCl (Wd a g sLen sKind sExt sMust rTab rFil rNum rLnk rLen rItm made pItm held dByt dLen bByt bRea bRec bItm bFld bOff bOfp kept wrt wid ent ver fAdr fTab adr tab lf) H → va_D A (Wd a g sLen sKind sExt sMust rTab rFil rNum rLnk rLen rItm made pItm held dByt dLen bByt bRea bRec bItm bFld bOff bOfp kept wrt wid ent ver fAdr fTab adr tab lf) → va_S A s.heap H locs → lv_has ls 4 [(3, .int (nI nn)), (2, .int (nI (kept * 8))), (0, .ref (a 5)), (1, .int (nI i))] → W p l e ({ frames := 0, cells := 0, slots := 0, locals := 0 }) s m ([.ref (a 5), .int (nI i)] : List Value).toArray below meth c H locs 0 0 (MQ below (kQ D vwCl (WdT g) A True (some (.int (bI (smP bOff kept i)))) (Wd a g sLen sKind sExt sMust rTab rFil rNum rLnk rLen rItm made pItm held dByt dLen bByt bRea bRec bItm bFld bOff bOfp kept wrt wid ent ver fAdr fTab adr tab lf)) ([.ref (a 5), .int (nI i)] : List Value).toArray s 0 0 A) (F0 m 10 ls []) := by
    intro n
    induction n with
    | zero => intro nn hnn hsm hm; exact absurd hm (Nat.not_lt_zero _)
    | succ n ih_10 =>
      intro nn hnn hsm hm_10 H locs ls hP hD hS hl
      refine lv_iload_n hx hb d_B_isSameAsDraft_10 rfl (lv_at hl 0 rfl) ?_
      refine lv_aload_n hx hb d_B_isSameAsDraft_11 rfl (lv_at hl 2 rfl) ?_
      refine va_get (D := D) (ci := 5) (C := R_B) (T := T_B) (N := 12) hx hb hts (fun w h => kT w (i_B w h)) hown hK hP 5 rfl rfl 7 (by decide) (hts _ (kT _ wd_baf457c8)) (fun _ h9 => h9) rfl d_B_isSameAsDraft_12 ?_
      refine lv_iload_n hx hb d_B_isSameAsDraft_15 rfl (lv_at hl 1 rfl) ?_
      refine n_iald hx hb hK hP 25 17 rfl rfl (i := (kept * 8)) (by omega) (by decide) d_B_isSameAsDraft_16 ?_
      refine lv_iconst (v := nI 2) hx hb d_B_isSameAsDraft_17 (by decide) ?_
      refine lv_idiv hx hb d_B_isSameAsDraft_18 (nI_ne0 (by omega) (by omega)) ?_
      refine lv_eqi (pk_div (by omega) (by omega) (by omega)) ?_
      refine lv_icmp_ge (tgt := 52) hx hb d_B_isSameAsDraft_19 (by decide) (fun c_19 => ?_) (fun c_19 => ?_)
      · skip
        have c_19 := (nI_leI (by omega) (by omega)).mp c_19
        refine lv_iconst (v := nI 1) hx hb d_B_isSameAsDraft_52 (by decide) ?_
        exact k_zret hx hb hr hlocks hK hP hD hS (trivial) (by rw [nI_bI1]; exact congrArg bI (by rw [smP, show (bOff (kept * 8) / 2) = nn by omega, hsm])) (rfl) (bI_nar _) d_B_isSameAsDraft_53
      · skip
        have c_19 := mt (nI_leI (by omega) (by omega)).mpr c_19
        have hO1 := hO (i * 8 + nn)
        have hO2 := hO (kept * 8 + nn)
        refine lv_aload_n hx hb d_B_isSameAsDraft_22 rfl (lv_at hl 2 rfl) ?_
        refine va_get (D := D) (ci := 5) (C := R_B) (T := T_B) (N := 12) hx hb hts (fun w h => kT w (i_B w h)) hown hK hP 5 rfl rfl 7 (by decide) (hts _ (kT _ wd_baf457c8)) (fun _ h9 => h9) rfl d_B_isSameAsDraft_23 ?_
        refine lv_iload_n hx hb d_B_isSameAsDraft_26 rfl (lv_at hl 3 rfl) ?_
        refine lv_bipush (v := nI 8) hx hb d_B_isSameAsDraft_27 (by decide) ?_
        refine lv_imul hx hb d_B_isSameAsDraft_29 ?_
        refine lv_eqi (pk_mul _ _) ?_
        refine lv_iload_n hx hb d_B_isSameAsDraft_30 rfl (lv_at hl 0 rfl) ?_
        refine lv_iadd hx hb d_B_isSameAsDraft_31 ?_
        refine lv_eqi (nI_add _ _) ?_
        refine n_iald hx hb hK hP 25 17 rfl rfl (i := ((i * 8) + nn)) (by omega) (by decide) d_B_isSameAsDraft_32 ?_
        refine lv_aload_n hx hb d_B_isSameAsDraft_33 rfl (lv_at hl 2 rfl) ?_
        refine va_get (D := D) (ci := 5) (C := R_B) (T := T_B) (N := 12) hx hb hts (fun w h => kT w (i_B w h)) hown hK hP 5 rfl rfl 7 (by decide) (hts _ (kT _ wd_baf457c8)) (fun _ h9 => h9) rfl d_B_isSameAsDraft_34 ?_
        refine lv_iload_n hx hb d_B_isSameAsDraft_37 rfl (lv_at hl 1 rfl) ?_
        refine lv_iload_n hx hb d_B_isSameAsDraft_38 rfl (lv_at hl 0 rfl) ?_
        refine lv_iadd hx hb d_B_isSameAsDraft_39 ?_
        refine lv_eqi (nI_add _ _) ?_
        refine n_iald hx hb hK hP 25 17 rfl rfl (i := ((kept * 8) + nn)) (by omega) (by decide) d_B_isSameAsDraft_40 ?_
        refine lv_icmp_eq (tgt := 46) hx hb d_B_isSameAsDraft_41 (by decide) (fun c_41 => ?_) (fun c_41 => ?_)
        · skip
          have c_41 := (nI_eq (by omega) (by omega)).mp c_41
          refine lv_iinc (v := nI (nn + 1)) (lv' := [(3, .int (nI (nn + 1))), (2, .int (nI (kept * 8))), (0, .ref (a 5)), (1, .int (nI i))]) hx hb d_B_isSameAsDraft_46 hl (k := 0) rfl (nI_1 _) (by decide) rfl (fun ls hl => ?_)
          refine lv_goto (tgt := 10) hx hb d_B_isSameAsDraft_49 (by decide) ?_
          exact ih_10 (nn + 1) (by omega) (by simp [smA, hsm, c_41]) (by omega) _ _ _ hP hD hS (lv_sub hl [0, 1, 2, 3] rfl)
        · skip
          have c_41 := mt (nI_eq (by omega) (by omega)).mpr c_41
          refine lv_iconst (v := nI 0) hx hb d_B_isSameAsDraft_44 (by decide) ?_
          exact k_zret hx hb hr hlocks hK hP hD hS (trivial) (by rw [nI_bI0]; exact congrArg bI (smA_no c_41 _ (by omega)).symm) (rfl) (bI_nar _) d_B_isSameAsDraft_45
  exact L_10 (((bOff (kept * 8) / 2) - 0) + 1) 0 (by omega) rfl (by omega) _ _ _ hP hD hS (lv_sub hl [0, 1, 2, 3] rfl)
set_option maxHeartbeats 4000000 in
set_option maxRecDepth 100000 in
theorem c_B_placeOfDraft (l : Launch) (D : va_G) (a : Nat → Nat) (g : Nat → ClassId) (tw : Nat) (sLen sKind : Nat → Nat) (sExt : Nat → Int32) (sMust : Nat → Bool) (rTab : Nat → Nat) (rFil : Nat → Bool) (rNum : Nat → Int64) (rLnk rLen : Nat → Nat) (rItm : Nat → Int32) (made : Nat) (pItm : Nat → Int32) (held : Nat) (dByt : Nat → Nat) (dLen : Nat) (bByt : Nat → Nat) (bRea : Nat → Bool) (bRec bItm bFld bOff bOfp : Nat → Nat) (kept wrt wid ent : Nat) (ver : Bool) (fAdr fTab adr tab : Nat) (lf : Int32)   (hk : kept < 16) (h16 : bOff (kept * 8) ≤ 16) (hO : ∀ j, bOff j < 100000) (hw : wrt < 50000) (hw4 : 4 ≤ wid) (hwd : wid < 100000) : kM l y_B_placeOfDraft b_B_placeOfDraft 3 (some .int) ({ frames := 3, cells := 0, slots := 0, locals := 67 }) D vwCl (WdT g) tw [.ref (a 5)] (Wd a g sLen sKind sExt sMust rTab rFil rNum rLnk rLen rItm made pItm held dByt dLen bByt bRea bRec bItm bFld bOff bOfp kept wrt wid ent ver fAdr fTab adr tab lf) (some (.int (nI (plD (BS.mk bByt bRec bItm bFld bOff bOfp kept wrt wid))))) (Wd a g sLen sKind sExt sMust rTab rFil rNum rLnk rLen rItm made pItm held dByt dLen ((pdP (BS.mk bByt bRec bItm bFld bOff bOfp kept wrt wid)).byt) bRea ((pdP (BS.mk bByt bRec bItm bFld bOff bOfp kept wrt wid)).rcp) ((pdP (BS.mk bByt bRec bItm bFld bOff bOfp kept wrt wid)).itm) ((pdP (BS.mk bByt bRec bItm bFld bOff bOfp kept wrt wid)).fld) ((pdP (BS.mk bByt bRec bItm bFld bOff bOfp kept wrt wid)).off) ((pdP (BS.mk bByt bRec bItm bFld bOff bOfp kept wrt wid)).ofp) ((pdP (BS.mk bByt bRec bItm bFld bOff bOfp kept wrt wid)).kept) ((pdP (BS.mk bByt bRec bItm bFld bOff bOfp kept wrt wid)).wrt) ((pdP (BS.mk bByt bRec bItm bFld bOff bOfp kept wrt wid)).wid) ent ver fAdr fTab adr tab lf) := by
  refine k_of (by decide) (Nat.le_of_ble_eq_true rfl) ?_
  intro p e s m below meth c A ls hx hb hr hlocks hml hts hown hin0 hA hP hK hD hS hZ hl
  have hl : lv_has ls 3 [(0, .ref (a 5))] := hl
  have hp2 : pow8 2 := Or.inr (Or.inl rfl)
  refine lv_iconst (v := nI 0) hx hb d_B_placeOfDraft_0 (by decide) ?_
  refine lv_istore_n (lv' := [(1, .int (nI 0)), (0, .ref (a 5))]) hx hb d_B_placeOfDraft_1 rfl hl (by decide) rfl (fun ls hl => ?_)
  have L_2 : ∀ (n : Nat) (ii : Nat), (ii ≤ kept) → (fsR bOff kept ii = ii) → kept - ii < n → ∀ (H : Heap) (locs : List Loc) (ls : Array Slot), va_P D vwCl (Wd a g sLen sKind sExt sMust rTab rFil rNum rLnk rLen rItm made pItm held dByt dLen bByt bRea bRec bItm bFld bOff bOfp kept wrt wid ent ver fAdr fTab adr tab lf) H → va_D A (Wd a g sLen sKind sExt sMust rTab rFil rNum rLnk rLen rItm made pItm held dByt dLen bByt bRea bRec bItm bFld bOff bOfp kept wrt wid ent ver fAdr fTab adr tab lf) → va_S A s.heap H locs → lv_has ls 3 [(1, .int (nI ii)), (0, .ref (a 5))] → W p l e ({ frames := 3, cells := 0, slots := 0, locals := 67 }) s m ([.ref (a 5)] : List Value).toArray below meth c H locs 0 0 (MQ below (kQ D vwCl (WdT g) A True (some (.int (nI (plD (BS.mk bByt bRec bItm bFld bOff bOfp kept wrt wid))))) (Wd a g sLen sKind sExt sMust rTab rFil rNum rLnk rLen rItm made pItm held dByt dLen ((pdP (BS.mk bByt bRec bItm bFld bOff bOfp kept wrt wid)).byt) bRea ((pdP (BS.mk bByt bRec bItm bFld bOff bOfp kept wrt wid)).rcp) ((pdP (BS.mk bByt bRec bItm bFld bOff bOfp kept wrt wid)).itm) ((pdP (BS.mk bByt bRec bItm bFld bOff bOfp kept wrt wid)).fld) ((pdP (BS.mk bByt bRec bItm bFld bOff bOfp kept wrt wid)).off) ((pdP (BS.mk bByt bRec bItm bFld bOff bOfp kept wrt wid)).ofp) ((pdP (BS.mk bByt bRec bItm bFld bOff bOfp kept wrt wid)).kept) ((pdP (BS.mk bByt bRec bItm bFld bOff bOfp kept wrt wid)).wrt) ((pdP (BS.mk bByt bRec bItm bFld bOff bOfp kept wrt wid)).wid) ent ver fAdr fTab adr tab lf)) ([.ref (a 5)] : List Value).toArray s 0 0 A) (F0 m 2 ls []) := by
    intro n
    induction n with
    | zero => intro ii hii hfs hm; exact absurd hm (Nat.not_lt_zero _)
    | succ n ih_2 =>
      intro ii hii hfs hm_2 H locs ls hP hD hS hl
      refine lv_iload_n hx hb d_B_placeOfDraft_2 rfl (lv_at hl 0 rfl) ?_
      refine lv_aload_n hx hb d_B_placeOfDraft_3 rfl (lv_at hl 1 rfl) ?_
      refine va_get (D := D) (ci := 5) (C := R_B) (T := T_B) (N := 12) hx hb hts (fun w h => kT w (i_B w h)) hown hK hP 5 rfl rfl 9 (by decide) (hts _ (kT _ wd_bf45e2dc)) (fun _ h9 => h9) rfl d_B_placeOfDraft_4 ?_
      refine lv_icmp_ge (tgt := 31) hx hb d_B_placeOfDraft_7 (by decide) (fun c_7 => ?_) (fun c_7 => ?_)
      · skip
        have c_7 := (nI_leI (by omega) (by omega)).mp c_7
        have h_ii : kept = ii := by omega
        subst h_ii
        have hfd : ¬ fsR bOff kept kept < kept := by omega
        refine lv_aload_n hx hb d_B_placeOfDraft_31 rfl (lv_at hl 1 rfl) ?_
        refine va_get (D := D) (ci := 5) (C := R_B) (T := T_B) (N := 12) hx hb hts (fun w h => kT w (i_B w h)) hown hK hP 5 rfl rfl 9 (by decide) (hts _ (kT _ wd_bf45e2dc)) (fun _ h9 => h9) rfl d_B_placeOfDraft_32 ?_
        refine lv_bipush (v := nI 8) hx hb d_B_placeOfDraft_35 (by decide) ?_
        refine lv_imul hx hb d_B_placeOfDraft_37 ?_
        refine lv_eqi (pk_mul _ _) ?_
        refine lv_istore_n (lv' := [(1, .int (nI (kept * 8))), (0, .ref (a 5))]) hx hb d_B_placeOfDraft_38 rfl hl (by decide) rfl (fun ls hl => ?_)
        refine lv_aload_n hx hb d_B_placeOfDraft_39 rfl (lv_at hl 1 rfl) ?_
        refine va_get (D := D) (ci := 5) (C := R_B) (T := T_B) (N := 12) hx hb hts (fun w h => kT w (i_B w h)) hown hK hP 5 rfl rfl 7 (by decide) (hts _ (kT _ wd_baf457c8)) (fun _ h9 => h9) rfl d_B_placeOfDraft_40 ?_
        refine lv_iload_n hx hb d_B_placeOfDraft_43 rfl (lv_at hl 0 rfl) ?_
        refine n_iald hx hb hK hP 25 17 rfl rfl (i := (kept * 8)) (by omega) (by decide) d_B_placeOfDraft_44 ?_
        refine lv_iconst (v := nI 2) hx hb d_B_placeOfDraft_45 (by decide) ?_
        refine lv_idiv hx hb d_B_placeOfDraft_46 (nI_ne0 (by omega) (by omega)) ?_
        refine lv_eqi (pk_div (by omega) (by omega) (by omega)) ?_
        refine lv_iconst (v := nI 1) hx hb d_B_placeOfDraft_47 (by decide) ?_
        refine lv_isub hx hb d_B_placeOfDraft_48 ?_
        refine lv_istore_n (lv' := [(2, .int ((nI ((bOff (kept * 8)) / 2)) - (nI 1))), (1, .int (nI (kept * 8))), (0, .ref (a 5))]) hx hb d_B_placeOfDraft_49 rfl hl (by decide) rfl (fun ls hl => ?_)
        have e_2 : (nI ((bOff (kept * 8)) / 2)) - (nI 1) = nI ((bOff (kept * 8) / 2) - 0) - 1 := by rw [nI_1e]; rfl
        have hl : lv_has ls 3 [(2, .int (nI ((bOff (kept * 8) / 2) - 0) - 1)), (1, .int (nI (kept * 8))), (0, .ref (a 5))] := by rw [← e_2]; exact hl
        have hP : va_P D vwCl (Wd a g sLen sKind sExt sMust rTab rFil rNum rLnk rLen rItm made pItm held dByt dLen ((nrS (pdV bOff kept) (bOff (kept * 8) / 2) bByt wrt 0).1) bRea bRec bItm bFld bOff bOfp kept ((nrS (pdV bOff kept) (bOff (kept * 8) / 2) bByt wrt 0).2) wid ent ver fAdr fTab adr tab lf) _ := hP
        have hD : va_D A (Wd a g sLen sKind sExt sMust rTab rFil rNum rLnk rLen rItm made pItm held dByt dLen ((nrS (pdV bOff kept) (bOff (kept * 8) / 2) bByt wrt 0).1) bRea bRec bItm bFld bOff bOfp kept ((nrS (pdV bOff kept) (bOff (kept * 8) / 2) bByt wrt 0).2) wid ent ver fAdr fTab adr tab lf) := hD
        have L_50 : ∀ (n : Nat) (nn : Nat), (nn ≤ (bOff (kept * 8) / 2)) → (bOff (kept * 8) / 2) - nn < n → ∀ (H : Heap) (locs : List Loc) (ls : Array Slot), va_P D vwCl (Wd a g sLen sKind sExt sMust rTab rFil rNum rLnk rLen rItm made pItm held dByt dLen ((nrS (pdV bOff kept) (bOff (kept * 8) / 2) bByt wrt nn).1) bRea bRec bItm bFld bOff bOfp kept ((nrS (pdV bOff kept) (bOff (kept * 8) / 2) bByt wrt nn).2) wid ent ver fAdr fTab adr tab lf) H → va_D A (Wd a g sLen sKind sExt sMust rTab rFil rNum rLnk rLen rItm made pItm held dByt dLen ((nrS (pdV bOff kept) (bOff (kept * 8) / 2) bByt wrt nn).1) bRea bRec bItm bFld bOff bOfp kept ((nrS (pdV bOff kept) (bOff (kept * 8) / 2) bByt wrt nn).2) wid ent ver fAdr fTab adr tab lf) → va_S A s.heap H locs → lv_has ls 3 [(2, .int (nI ((bOff (kept * 8) / 2) - nn) - 1)), (1, .int (nI (kept * 8))), (0, .ref (a 5))] → W p l e ({ frames := 3, cells := 0, slots := 0, locals := 67 }) s m ([.ref (a 5)] : List Value).toArray below meth c H locs 0 0 (MQ below (kQ D vwCl (WdT g) A True (some (.int (nI (plD (BS.mk bByt bRec bItm bFld bOff bOfp kept wrt wid))))) (Wd a g sLen sKind sExt sMust rTab rFil rNum rLnk rLen rItm made pItm held dByt dLen ((pdP (BS.mk bByt bRec bItm bFld bOff bOfp kept wrt wid)).byt) bRea ((pdP (BS.mk bByt bRec bItm bFld bOff bOfp kept wrt wid)).rcp) ((pdP (BS.mk bByt bRec bItm bFld bOff bOfp kept wrt wid)).itm) ((pdP (BS.mk bByt bRec bItm bFld bOff bOfp kept wrt wid)).fld) ((pdP (BS.mk bByt bRec bItm bFld bOff bOfp kept wrt wid)).off) ((pdP (BS.mk bByt bRec bItm bFld bOff bOfp kept wrt wid)).ofp) ((pdP (BS.mk bByt bRec bItm bFld bOff bOfp kept wrt wid)).kept) ((pdP (BS.mk bByt bRec bItm bFld bOff bOfp kept wrt wid)).wrt) ((pdP (BS.mk bByt bRec bItm bFld bOff bOfp kept wrt wid)).wid) ent ver fAdr fTab adr tab lf)) ([.ref (a 5)] : List Value).toArray s 0 0 A) (F0 m 50 ls []) := by
          intro n
          induction n with
          | zero => intro nn hnn0 hm; exact absurd hm (Nat.not_lt_zero _)
          | succ n ih_50 =>
            intro nn hnn0 hm_50 H locs ls hP hD hS hl
            have hnr := nrS_le (pdV bOff kept) (bOff (kept * 8) / 2) bByt wrt nn
            refine lv_iload_n hx hb d_B_placeOfDraft_50 rfl (lv_at hl 0 rfl) ?_
            refine lv_if_lt (tgt := 74) hx hb d_B_placeOfDraft_51 (by decide) (fun c_51 => ?_) (fun c_51 => ?_)
            · skip
              have h_nn : (bOff (kept * 8) / 2) = nn := by have := (dn_lt (by omega)).mp c_51; omega
              subst h_nn
              refine lv_aload_n hx hb d_B_placeOfDraft_74 rfl (lv_at hl 2 rfl) ?_
              refine va_get (D := D) (ci := 5) (C := R_B) (T := T_B) (N := 12) hx hb hts (fun w h => kT w (i_B w h)) hown hK hP 5 rfl rfl 8 (by decide) (hts _ (kT _ wd_ce464abb)) (fun _ h9 => h9) rfl d_B_placeOfDraft_75 ?_
              refine lv_aload_n hx hb d_B_placeOfDraft_78 rfl (lv_at hl 2 rfl) ?_
              refine va_get (D := D) (ci := 5) (C := R_B) (T := T_B) (N := 12) hx hb hts (fun w h => kT w (i_B w h)) hown hK hP 5 rfl rfl 9 (by decide) (hts _ (kT _ wd_bf45e2dc)) (fun _ h9 => h9) rfl d_B_placeOfDraft_79 ?_
              refine lv_aload_n hx hb d_B_placeOfDraft_82 rfl (lv_at hl 2 rfl) ?_
              refine va_get (D := D) (ci := 5) (C := R_B) (T := T_B) (N := 12) hx hb hts (fun w h => kT w (i_B w h)) hown hK hP 5 rfl rfl 10 (by decide) (hts _ (kT _ wd_0bdfa4a3)) (fun _ h9 => h9) rfl d_B_placeOfDraft_83 ?_
              refine n_iast hx hb hK hP hD hS 26 18 rfl rfl (i := kept) (by omega) (by decide) d_B_placeOfDraft_86 (fun H locs hP hD hS => ?_)
              have hP : va_P D vwCl (Wd a g sLen sKind sExt sMust rTab rFil rNum rLnk rLen rItm made pItm held dByt dLen ((nrS (pdV bOff kept) (bOff (kept * 8) / 2) bByt wrt ((bOff (kept * 8) / 2))).1) bRea bRec bItm bFld bOff (va_up bOfp kept ((nrS (pdV bOff kept) (bOff (kept * 8) / 2) bByt wrt ((bOff (kept * 8) / 2))).2)) kept ((nrS (pdV bOff kept) (bOff (kept * 8) / 2) bByt wrt ((bOff (kept * 8) / 2))).2) wid ent ver fAdr fTab adr tab lf) H := hP
              have hD : va_D A (Wd a g sLen sKind sExt sMust rTab rFil rNum rLnk rLen rItm made pItm held dByt dLen ((nrS (pdV bOff kept) (bOff (kept * 8) / 2) bByt wrt ((bOff (kept * 8) / 2))).1) bRea bRec bItm bFld bOff (va_up bOfp kept ((nrS (pdV bOff kept) (bOff (kept * 8) / 2) bByt wrt ((bOff (kept * 8) / 2))).2)) kept ((nrS (pdV bOff kept) (bOff (kept * 8) / 2) bByt wrt ((bOff (kept * 8) / 2))).2) wid ent ver fAdr fTab adr tab lf) := hD
              refine lv_aload_n hx hb d_B_placeOfDraft_87 rfl (lv_at hl 2 rfl) ?_
              refine lv_dup hx hb d_B_placeOfDraft_88 rfl ?_
              refine va_get (D := D) (ci := 5) (C := R_B) (T := T_B) (N := 12) hx hb hts (fun w h => kT w (i_B w h)) hown hK hP 5 rfl rfl 9 (by decide) (hts _ (kT _ wd_bf45e2dc)) (fun _ h9 => h9) rfl d_B_placeOfDraft_89 ?_
              refine lv_iconst (v := nI 1) hx hb d_B_placeOfDraft_92 (by decide) ?_
              refine lv_iadd hx hb d_B_placeOfDraft_93 ?_
              refine lv_eqi (nI_add _ _) ?_
              refine va_put (D := D) (ci := 5) (ty := .int) (C := R_B) (T := T_B) (N := 12) hx hb hts (fun w h => kT w (i_B w h)) ty_B tyk_B nm_B hown hK hP hD hS 5 rfl rfl 9 (by decide) (hts _ (kT _ wd_bf45e2dc)) (fun _ h9 => h9) rfl (by decide +kernel) rfl rfl (Nat.le_of_ble_eq_true rfl) d_B_placeOfDraft_94 (fun H locs hP hD hS => ?_)
              have hP : va_P D vwCl (Wd a g sLen sKind sExt sMust rTab rFil rNum rLnk rLen rItm made pItm held dByt dLen ((nrS (pdV bOff kept) (bOff (kept * 8) / 2) bByt wrt ((bOff (kept * 8) / 2))).1) bRea bRec bItm bFld bOff (va_up bOfp kept ((nrS (pdV bOff kept) (bOff (kept * 8) / 2) bByt wrt ((bOff (kept * 8) / 2))).2)) (kept + 1) ((nrS (pdV bOff kept) (bOff (kept * 8) / 2) bByt wrt ((bOff (kept * 8) / 2))).2) wid ent ver fAdr fTab adr tab lf) H := hP
              have hD : va_D A (Wd a g sLen sKind sExt sMust rTab rFil rNum rLnk rLen rItm made pItm held dByt dLen ((nrS (pdV bOff kept) (bOff (kept * 8) / 2) bByt wrt ((bOff (kept * 8) / 2))).1) bRea bRec bItm bFld bOff (va_up bOfp kept ((nrS (pdV bOff kept) (bOff (kept * 8) / 2) bByt wrt ((bOff (kept * 8) / 2))).2)) (kept + 1) ((nrS (pdV bOff kept) (bOff (kept * 8) / 2) bByt wrt ((bOff (kept * 8) / 2))).2) wid ent ver fAdr fTab adr tab lf) := hD
              refine lv_aload_n hx hb d_B_placeOfDraft_97 rfl (lv_at hl 2 rfl) ?_
              refine va_get (D := D) (ci := 5) (C := R_B) (T := T_B) (N := 12) hx hb hts (fun w h => kT w (i_B w h)) hown hK hP 5 rfl rfl 10 (by decide) (hts _ (kT _ wd_0bdfa4a3)) (fun _ h9 => h9) rfl d_B_placeOfDraft_98 ?_
              exact k_iret hx hb hr hlocks hK hP hD hS (trivial) (by rw [plD_n (b := (BS.mk bByt bRec bItm bFld bOff bOfp kept wrt wid)) hfd]; rfl) (by rw [pdP_n (b := (BS.mk bByt bRec bItm bFld bOff bOfp kept wrt wid)) hfd]; rfl) d_B_placeOfDraft_101
            · skip
              have hj : ¬ ((bOff (kept * 8) / 2) - nn) = 0 := mt (dn_lt (by omega)).mpr c_51
              have hl : lv_has ls 3 [(2, .int (nI (((bOff (kept * 8) / 2) - nn) - 1))), (1, .int (nI (kept * 8))), (0, .ref (a 5))] := by rw [← dn_in hj]; exact hl
              refine lv_aload_n hx hb d_B_placeOfDraft_54 rfl (lv_at hl 2 rfl) ?_
              refine lv_aload_n hx hb d_B_placeOfDraft_55 rfl (lv_at hl 2 rfl) ?_
              refine va_get (D := D) (ci := 5) (C := R_B) (T := T_B) (N := 12) hx hb hts (fun w h => kT w (i_B w h)) hown hK hP 5 rfl rfl 7 (by decide) (hts _ (kT _ wd_baf457c8)) (fun _ h9 => h9) rfl d_B_placeOfDraft_56 ?_
              refine lv_iload_n hx hb d_B_placeOfDraft_59 rfl (lv_at hl 1 rfl) ?_
              refine lv_iload_n hx hb d_B_placeOfDraft_60 rfl (lv_at hl 0 rfl) ?_
              refine lv_iadd hx hb d_B_placeOfDraft_61 ?_
              refine lv_eqi (nI_add _ _) ?_
              refine n_iald hx hb hK hP 25 17 rfl rfl (i := ((kept * 8) + (((bOff (kept * 8) / 2) - nn) - 1))) (by omega) (by decide) d_B_placeOfDraft_62 ?_
              refine lv_i2l hx hb d_B_placeOfDraft_63 rfl ?_
              refine lv_iconst (v := nI 2) hx hb d_B_placeOfDraft_64 (by decide) ?_
              refine k_callV (c_B_putNumber l D a g tw sLen sKind sExt sMust rTab rFil rNum rLnk rLen rItm made pItm held dByt dLen ((nrS (pdV bOff kept) (bOff (kept * 8) / 2) bByt wrt nn).1) bRea bRec bItm bFld bOff bOfp kept ((nrS (pdV bOff kept) (bOff (kept * 8) / 2) bByt wrt nn).2) wid ent ver fAdr fTab adr tab lf ((nI (bOff ((kept * 8) + (((bOff (kept * 8) / 2) - nn) - 1)))).toInt64) 2  hp2 (by omega) (by omega)) m_B_putNumber wd_252b710e 5 5 rfl rfl rfl kT hx hb hml hown hts ⟨Nat.le_of_ble_eq_true rfl, Nat.le_of_ble_eq_true rfl⟩ ⟨Nat.le_of_ble_eq_true rfl, Nat.le_of_ble_eq_true rfl⟩ hK hP hD hS hA hZ hl.1 rfl rfl (Nat.le_of_ble_eq_true rfl) d_B_placeOfDraft_65 (fun H locs hP hD hS => ?_)
              have hP : va_P D vwCl (Wd a g sLen sKind sExt sMust rTab rFil rNum rLnk rLen rItm made pItm held dByt dLen (wN ((nrS (pdV bOff kept) (bOff (kept * 8) / 2) bByt wrt nn).1) ((nrS (pdV bOff kept) (bOff (kept * 8) / 2) bByt wrt nn).2) ((nI (bOff ((kept * 8) + (((bOff (kept * 8) / 2) - nn) - 1)))).toInt64) 2) bRea bRec bItm bFld bOff bOfp kept (alN 2 ((nrS (pdV bOff kept) (bOff (kept * 8) / 2) bByt wrt nn).2) 0 + 2) (max wid 2) ent ver fAdr fTab adr tab lf) H := hP
              have hD : va_D A (Wd a g sLen sKind sExt sMust rTab rFil rNum rLnk rLen rItm made pItm held dByt dLen (wN ((nrS (pdV bOff kept) (bOff (kept * 8) / 2) bByt wrt nn).1) ((nrS (pdV bOff kept) (bOff (kept * 8) / 2) bByt wrt nn).2) ((nI (bOff ((kept * 8) + (((bOff (kept * 8) / 2) - nn) - 1)))).toInt64) 2) bRea bRec bItm bFld bOff bOfp kept (alN 2 ((nrS (pdV bOff kept) (bOff (kept * 8) / 2) bByt wrt nn).2) 0 + 2) (max wid 2) ent ver fAdr fTab adr tab lf) := hD
              refine W.eq (g2 := F0 m 68 ls []) rfl ?_
              refine lv_iinc (v := (nI (((bOff (kept * 8) / 2) - nn) - 1)) + (-1)) (lv' := [(2, .int ((nI (((bOff (kept * 8) / 2) - nn) - 1)) + (-1))), (1, .int (nI (kept * 8))), (0, .ref (a 5))]) hx hb d_B_placeOfDraft_68 hl (k := 0) rfl rfl (by decide) rfl (fun ls hl => ?_)
              refine lv_goto (tgt := 50) hx hb d_B_placeOfDraft_71 (by decide) ?_
              have e_2 : (nI (((bOff (kept * 8) / 2) - nn) - 1)) + (-1) = nI ((bOff (kept * 8) / 2) - (nn + 1)) - 1 := by rw [dn_step]; exact congrArg (· - 1) (nI_congr (by omega))
              have hl : lv_has ls 3 [(2, .int (nI ((bOff (kept * 8) / 2) - (nn + 1)) - 1)), (1, .int (nI (kept * 8))), (0, .ref (a 5))] := by rw [← e_2]; exact hl
              have ec_wid : max wid 2 = wid := by omega
              have hP : va_P D vwCl (Wd a g sLen sKind sExt sMust rTab rFil rNum rLnk rLen rItm made pItm held dByt dLen ((nrS (pdV bOff kept) (bOff (kept * 8) / 2) bByt wrt (nn + 1)).1) bRea bRec bItm bFld bOff bOfp kept ((nrS (pdV bOff kept) (bOff (kept * 8) / 2) bByt wrt (nn + 1)).2) wid ent ver fAdr fTab adr tab lf) H := by rw [← ec_wid]; exact hP
              have hD : va_D A (Wd a g sLen sKind sExt sMust rTab rFil rNum rLnk rLen rItm made pItm held dByt dLen ((nrS (pdV bOff kept) (bOff (kept * 8) / 2) bByt wrt (nn + 1)).1) bRea bRec bItm bFld bOff bOfp kept ((nrS (pdV bOff kept) (bOff (kept * 8) / 2) bByt wrt (nn + 1)).2) wid ent ver fAdr fTab adr tab lf) := by rw [← ec_wid]; exact hD
              exact ih_50 (nn + 1) (by omega) (by omega) _ _ _ hP hD hS (lv_sub hl [0, 1, 2] rfl)
        exact L_50 (((bOff (kept * 8) / 2) - 0) + 1) 0 (by omega) (by omega) _ _ _ hP hD hS (lv_sub hl [0, 1, 2] rfl)
      · skip
        have c_7 := mt (nI_leI (by omega) (by omega)).mpr c_7
        refine lv_aload_n hx hb d_B_placeOfDraft_10 rfl (lv_at hl 1 rfl) ?_
        refine lv_iload_n hx hb d_B_placeOfDraft_11 rfl (lv_at hl 0 rfl) ?_
        refine k_callV (c_B_isSameAsDraft l D a g tw sLen sKind sExt sMust rTab rFil rNum rLnk rLen rItm made pItm held dByt dLen bByt bRea bRec bItm bFld bOff bOfp kept wrt wid ent ver fAdr fTab adr tab lf ii  hk (by omega) h16 hO) m_B_isSameAsDraft wd_a1b55481 5 5 rfl rfl rfl kT hx hb hml hown hts ⟨Nat.le_of_ble_eq_true rfl, Nat.le_of_ble_eq_true rfl⟩ ⟨Nat.le_of_ble_eq_true rfl, Nat.le_of_ble_eq_true rfl⟩ hK hP hD hS hA hZ hl.1 rfl rfl (Nat.le_of_ble_eq_true rfl) d_B_placeOfDraft_12 (fun H locs hP hD hS => ?_)
        have hP : va_P D vwCl (Wd a g sLen sKind sExt sMust rTab rFil rNum rLnk rLen rItm made pItm held dByt dLen bByt bRea bRec bItm bFld bOff bOfp kept wrt wid ent ver fAdr fTab adr tab lf) H := hP
        have hD : va_D A (Wd a g sLen sKind sExt sMust rTab rFil rNum rLnk rLen rItm made pItm held dByt dLen bByt bRea bRec bItm bFld bOff bOfp kept wrt wid ent ver fAdr fTab adr tab lf) := hD
        refine W.eq (g2 := F0 m 15 ls [.int (bI (smP bOff kept ii))]) rfl ?_
        refine lv_if_eq (tgt := 25) hx hb d_B_placeOfDraft_15 (by decide) (fun c_15 => ?_) (fun c_15 => ?_)
        · skip
          have c_15 := (bI_0).mp c_15
          refine lv_iinc (v := nI (ii + 1)) (lv' := [(1, .int (nI (ii + 1))), (0, .ref (a 5))]) hx hb d_B_placeOfDraft_25 hl (k := 0) rfl (nI_1 _) (by decide) rfl (fun ls hl => ?_)
          refine lv_goto (tgt := 2) hx hb d_B_placeOfDraft_28 (by decide) ?_
          exact ih_2 (ii + 1) (by omega) (fsR_no hfs c_15) (by omega) _ _ _ hP hD hS (lv_sub hl [0, 1] rfl)
        · skip
          have c_15 := mt (bI_0).mpr c_15
          have c_15 := eq_true_of_ne_false c_15
          have hfs2 : fsR bOff kept kept = ii := fsR_yes hfs c_15 kept (by omega)
          have hfd : fsR bOff kept kept < kept := by omega
          refine lv_aload_n hx hb d_B_placeOfDraft_18 rfl (lv_at hl 1 rfl) ?_
          refine va_get (D := D) (ci := 5) (C := R_B) (T := T_B) (N := 12) hx hb hts (fun w h => kT w (i_B w h)) hown hK hP 5 rfl rfl 8 (by decide) (hts _ (kT _ wd_ce464abb)) (fun _ h9 => h9) rfl d_B_placeOfDraft_19 ?_
          refine lv_iload_n hx hb d_B_placeOfDraft_22 rfl (lv_at hl 0 rfl) ?_
          refine n_iald hx hb hK hP 26 18 rfl rfl (i := ii) (by omega) (by decide) d_B_placeOfDraft_23 ?_
          exact k_iret hx hb hr hlocks hK hP hD hS (trivial) (by rw [plD_y (b := (BS.mk bByt bRec bItm bFld bOff bOfp kept wrt wid)) hfd]; show nI (bOfp ii) = nI (bOfp (fsR bOff kept kept)); rw [hfs2]) (by rw [pdP_y (b := (BS.mk bByt bRec bItm bFld bOff bOfp kept wrt wid)) hfd]) d_B_placeOfDraft_24
  exact L_2 ((kept - 0) + 1) 0 (by omega) rfl (by omega) _ _ _ hP hD hS (lv_sub hl [0, 1] rfl)
set_option maxHeartbeats 4000000 in
set_option maxRecDepth 100000 in
theorem c_B_hasAllRequired (l : Launch) (D : va_G) (a : Nat → Nat) (g : Nat → ClassId) (tw : Nat) (sLen sKind : Nat → Nat) (sExt : Nat → Int32) (sMust : Nat → Bool) (rTab : Nat → Nat) (rFil : Nat → Bool) (rNum : Nat → Int64) (rLnk rLen : Nat → Nat) (rItm : Nat → Int32) (made : Nat) (pItm : Nat → Int32) (held : Nat) (dByt : Nat → Nat) (dLen : Nat) (bByt : Nat → Nat) (bRea : Nat → Bool) (bRec bItm bFld bOff bOfp : Nat → Nat) (kept wrt wid ent : Nat) (ver : Bool) (fAdr fTab adr tab : Nat) (lf : Int32) (r : Nat)  (hr : r < 16) (hq : SOK (SR.mk sLen sKind sExt sMust rTab rFil rNum rLnk rLen rItm)) : kM l y_B_hasAllRequired b_B_hasAllRequired 5 (some .boolean) ({ frames := 1, cells := 0, slots := 0, locals := 22 }) D vwCl (WdT g) tw [.ref (a 5), .int (nI r)] (Wd a g sLen sKind sExt sMust rTab rFil rNum rLnk rLen rItm made pItm held dByt dLen bByt bRea bRec bItm bFld bOff bOfp kept wrt wid ent ver fAdr fTab adr tab lf) (some (.int (bI (okR (SR.mk sLen sKind sExt sMust rTab rFil rNum rLnk rLen rItm) r (sLen (rTab r)))))) (Wd a g sLen sKind sExt sMust rTab rFil rNum rLnk rLen rItm made pItm held dByt dLen bByt (haR (SR.mk sLen sKind sExt sMust rTab rFil rNum rLnk rLen rItm) r bRea (sLen (rTab r))) bRec bItm bFld bOff bOfp kept wrt wid ent ver fAdr fTab adr tab lf) := by
  refine k_of (by decide) (Nat.le_of_ble_eq_true rfl) ?_
  intro p e s m below meth c A ls hx hb hr hlocks hml hts hown hin0 hA hP hK hD hS hZ hl
  have hl : lv_has ls 5 [(0, .ref (a 5)), (1, .int (nI r))] := hl
  have hT1 : rTab r < 4 := hq.hT r
  have hL1 : sLen (rTab r) ≤ 6 := hq.hL _
  refine lv_aload_n hx hb d_B_hasAllRequired_0 rfl (lv_at hl 0 rfl) ?_
  refine va_get (D := D) (ci := 5) (C := R_B) (T := T_B) (N := 12) hx hb hts (fun w h => kT w (i_B w h)) hown hK hP 5 rfl rfl 1 (by decide) (hts _ (kT _ wd_b6a2624b)) (fun _ h9 => h9) rfl d_B_hasAllRequired_1 ?_
  refine lv_iload_n hx hb d_B_hasAllRequired_4 rfl (lv_at hl 1 rfl) ?_
  refine k_callV (c_Records_tableOf l D a g tw sLen sKind sExt sMust rTab rFil rNum rLnk rLen rItm made pItm held dByt dLen bByt bRea bRec bItm bFld bOff bOfp kept wrt wid ent ver fAdr fTab adr tab lf r  (by omega)) m_R_tableOf wd_16eee966 2 2 rfl rfl rfl kT hx hb hml hown hts ⟨Nat.le_of_ble_eq_true rfl, Nat.le_of_ble_eq_true rfl⟩ ⟨Nat.le_of_ble_eq_true rfl, Nat.le_of_ble_eq_true rfl⟩ hK hP hD hS hA hZ hl.1 rfl rfl (Nat.le_of_ble_eq_true rfl) d_B_hasAllRequired_5 (fun H locs hP hD hS => ?_)
  have hP : va_P D vwCl (Wd a g sLen sKind sExt sMust rTab rFil rNum rLnk rLen rItm made pItm held dByt dLen bByt bRea bRec bItm bFld bOff bOfp kept wrt wid ent ver fAdr fTab adr tab lf) H := hP
  have hD : va_D A (Wd a g sLen sKind sExt sMust rTab rFil rNum rLnk rLen rItm made pItm held dByt dLen bByt bRea bRec bItm bFld bOff bOfp kept wrt wid ent ver fAdr fTab adr tab lf) := hD
  refine W.eq (g2 := F0 m 8 ls [.int (nI (rTab r))]) rfl ?_
  refine lv_istore_n (lv' := [(2, .int (nI (rTab r))), (0, .ref (a 5)), (1, .int (nI r))]) hx hb d_B_hasAllRequired_8 rfl hl (by decide) rfl (fun ls hl => ?_)
  refine lv_iconst (v := nI 0) hx hb d_B_hasAllRequired_9 (by decide) ?_
  refine lv_istore_n (lv' := [(3, .int (nI 0)), (2, .int (nI (rTab r))), (0, .ref (a 5)), (1, .int (nI r))]) hx hb d_B_hasAllRequired_10 rfl hl (by decide) rfl (fun ls hl => ?_)
  have hP : va_P D vwCl (Wd a g sLen sKind sExt sMust rTab rFil rNum rLnk rLen rItm made pItm held dByt dLen bByt (haR (SR.mk sLen sKind sExt sMust rTab rFil rNum rLnk rLen rItm) r bRea 0) bRec bItm bFld bOff bOfp kept wrt wid ent ver fAdr fTab adr tab lf) _ := hP
  have hD : va_D A (Wd a g sLen sKind sExt sMust rTab rFil rNum rLnk rLen rItm made pItm held dByt dLen bByt (haR (SR.mk sLen sKind sExt sMust rTab rFil rNum rLnk rLen rItm) r bRea 0) bRec bItm bFld bOff bOfp kept wrt wid ent ver fAdr fTab adr tab lf) := hD
  have L_11 : ∀ (n : Nat) (nn : Nat), (nn ≤ sLen (rTab r)) → (okR (SR.mk sLen sKind sExt sMust rTab rFil rNum rLnk rLen rItm) r nn = true) → sLen (rTab r) - nn < n → ∀ (H : Heap) (locs : List Loc) (ls : Array Slot), va_P D vwCl (Wd a g sLen sKind sExt sMust rTab rFil rNum rLnk rLen rItm made pItm held dByt dLen bByt (haR (SR.mk sLen sKind sExt sMust rTab rFil rNum rLnk rLen rItm) r bRea nn) bRec bItm bFld bOff bOfp kept wrt wid ent ver fAdr fTab adr tab lf) H → va_D A (Wd a g sLen sKind sExt sMust rTab rFil rNum rLnk rLen rItm made pItm held dByt dLen bByt (haR (SR.mk sLen sKind sExt sMust rTab rFil rNum rLnk rLen rItm) r bRea nn) bRec bItm bFld bOff bOfp kept wrt wid ent ver fAdr fTab adr tab lf) → va_S A s.heap H locs → lv_has ls 5 [(3, .int (nI nn)), (2, .int (nI (rTab r))), (0, .ref (a 5)), (1, .int (nI r))] → W p l e ({ frames := 1, cells := 0, slots := 0, locals := 22 }) s m ([.ref (a 5), .int (nI r)] : List Value).toArray below meth c H locs 0 0 (MQ below (kQ D vwCl (WdT g) A True (some (.int (bI (okR (SR.mk sLen sKind sExt sMust rTab rFil rNum rLnk rLen rItm) r (sLen (rTab r)))))) (Wd a g sLen sKind sExt sMust rTab rFil rNum rLnk rLen rItm made pItm held dByt dLen bByt (haR (SR.mk sLen sKind sExt sMust rTab rFil rNum rLnk rLen rItm) r bRea (sLen (rTab r))) bRec bItm bFld bOff bOfp kept wrt wid ent ver fAdr fTab adr tab lf)) ([.ref (a 5), .int (nI r)] : List Value).toArray s 0 0 A) (F0 m 11 ls []) := by
    intro n
    induction n with
    | zero => intro nn hnn hok hm; exact absurd hm (Nat.not_lt_zero _)
    | succ n ih_11 =>
      intro nn hnn hok hm_11 H locs ls hP hD hS hl
      have hlk : rLnk (r * 6 + nn) < 16 := hq.hl _
      have hk1 : sKind (rTab r * 6 + nn) < 7 := hq.hk _
      refine lv_iload_n hx hb d_B_hasAllRequired_11 rfl (lv_at hl 0 rfl) ?_
      refine lv_aload_n hx hb d_B_hasAllRequired_12 rfl (lv_at hl 2 rfl) ?_
      refine va_get (D := D) (ci := 5) (C := R_B) (T := T_B) (N := 12) hx hb hts (fun w h => kT w (i_B w h)) hown hK hP 5 rfl rfl 0 (by decide) (hts _ (kT _ wd_264431dc)) (fun _ h9 => h9) rfl d_B_hasAllRequired_13 ?_
      refine lv_iload_n hx hb d_B_hasAllRequired_16 rfl (lv_at hl 1 rfl) ?_
      refine k_callV (c_Schema_fieldsOf l D a g tw sLen sKind sExt sMust rTab rFil rNum rLnk rLen rItm made pItm held dByt dLen bByt (haR (SR.mk sLen sKind sExt sMust rTab rFil rNum rLnk rLen rItm) r bRea nn) bRec bItm bFld bOff bOfp kept wrt wid ent ver fAdr fTab adr tab lf (rTab r)  (by omega)) m_S_fieldsOf wd_657ff5d9 1 1 rfl rfl rfl kT hx hb hml hown hts ⟨Nat.le_of_ble_eq_true rfl, Nat.le_of_ble_eq_true rfl⟩ ⟨Nat.le_of_ble_eq_true rfl, Nat.le_of_ble_eq_true rfl⟩ hK hP hD hS hA hZ hl.1 rfl rfl (Nat.le_of_ble_eq_true rfl) d_B_hasAllRequired_17 (fun H locs hP hD hS => ?_)
      have hP : va_P D vwCl (Wd a g sLen sKind sExt sMust rTab rFil rNum rLnk rLen rItm made pItm held dByt dLen bByt (haR (SR.mk sLen sKind sExt sMust rTab rFil rNum rLnk rLen rItm) r bRea nn) bRec bItm bFld bOff bOfp kept wrt wid ent ver fAdr fTab adr tab lf) H := hP
      have hD : va_D A (Wd a g sLen sKind sExt sMust rTab rFil rNum rLnk rLen rItm made pItm held dByt dLen bByt (haR (SR.mk sLen sKind sExt sMust rTab rFil rNum rLnk rLen rItm) r bRea nn) bRec bItm bFld bOff bOfp kept wrt wid ent ver fAdr fTab adr tab lf) := hD
      refine W.eq (g2 := F0 m 20 ls [.int (nI (sLen (rTab r))), .int (nI nn)]) rfl ?_
      refine lv_icmp_ge (tgt := 93) hx hb d_B_hasAllRequired_20 (by decide) (fun c_20 => ?_) (fun c_20 => ?_)
      · skip
        have c_20 := (nI_leI (by omega) (by omega)).mp c_20
        have h_nn : sLen (rTab r) = nn := by omega
        subst h_nn
        refine lv_iconst (v := nI 1) hx hb d_B_hasAllRequired_93 (by decide) ?_
        exact k_zret hx hb hr hlocks hK hP hD hS (trivial) (by rw [nI_bI1]; exact congrArg bI hok.symm) (rfl) (bI_nar _) d_B_hasAllRequired_94
      · skip
        have c_20 := mt (nI_leI (by omega) (by omega)).mpr c_20
        refine lv_iload_n hx hb d_B_hasAllRequired_23 rfl (lv_at hl 3 rfl) ?_
        refine lv_iload_n hx hb d_B_hasAllRequired_24 rfl (lv_at hl 0 rfl) ?_
        refine k_callSN (c_slotOf l D a g tw sLen sKind sExt sMust rTab rFil rNum rLnk rLen rItm made pItm held dByt dLen bByt (haR (SR.mk sLen sKind sExt sMust rTab rFil rNum rLnk rLen rItm) r bRea nn) bRec bItm bFld bOff bOfp kept wrt wid ent ver fAdr fTab adr tab lf r nn  ) m_F_slotOf wn_37c05ba5 kT hx hb hml hown hts ⟨Nat.le_of_ble_eq_true rfl, Nat.le_of_ble_eq_true rfl⟩ ⟨Nat.le_of_ble_eq_true rfl, Nat.le_of_ble_eq_true rfl⟩ hK hP hD hS hA hZ hl.1 rfl rfl (Nat.le_of_ble_eq_true rfl) d_B_hasAllRequired_25 (fun H locs hP hD hS => ?_)
        have hP : va_P D vwCl (Wd a g sLen sKind sExt sMust rTab rFil rNum rLnk rLen rItm made pItm held dByt dLen bByt (haR (SR.mk sLen sKind sExt sMust rTab rFil rNum rLnk rLen rItm) r bRea nn) bRec bItm bFld bOff bOfp kept wrt wid ent ver fAdr fTab adr tab lf) H := hP
        have hD : va_D A (Wd a g sLen sKind sExt sMust rTab rFil rNum rLnk rLen rItm made pItm held dByt dLen bByt (haR (SR.mk sLen sKind sExt sMust rTab rFil rNum rLnk rLen rItm) r bRea nn) bRec bItm bFld bOff bOfp kept wrt wid ent ver fAdr fTab adr tab lf) := hD
        refine W.eq (g2 := F0 m 28 ls [.int (nI (r * 6 + nn))]) rfl ?_
        refine lv_istore (lv' := [(4, .int (nI (r * 6 + nn))), (3, .int (nI nn)), (2, .int (nI (rTab r))), (0, .ref (a 5)), (1, .int (nI r))]) hx hb d_B_hasAllRequired_28 hl (by decide) rfl (fun ls hl => ?_)
        refine lv_aload_n hx hb d_B_hasAllRequired_30 rfl (lv_at hl 3 rfl) ?_
        refine va_get (D := D) (ci := 5) (C := R_B) (T := T_B) (N := 12) hx hb hts (fun w h => kT w (i_B w h)) hown hK hP 5 rfl rfl 1 (by decide) (hts _ (kT _ wd_b6a2624b)) (fun _ h9 => h9) rfl d_B_hasAllRequired_31 ?_
        refine va_getN (D := D) (ci := 2) (C := R_R) (T := T_R) (N := 7) hx hb hts (fun w h => kT w (i_R w h)) hown hK hP 2 rfl rfl 1 (by decide) (va_Nw.use rfl (hZ.2.2.1 _ wn_5f344b10)) (fun _ h9 => h9) rfl d_B_hasAllRequired_34 ?_
        refine lv_iload hx hb d_B_hasAllRequired_37 (lv_at hl 0 rfl) ?_
        refine z_zald hx hb hK hP 13 5 rfl rfl (i := (r * 6 + nn)) (by omega) (by decide) d_B_hasAllRequired_39 ?_
        refine lv_if_ne (tgt := 57) hx hb d_B_hasAllRequired_40 (by decide) (fun c_40 => ?_) (fun c_40 => ?_)
        · skip
          have c_40 := mt (bI_0).mpr c_40
          have c_40 := eq_true_of_ne_false c_40
          refine lv_aload_n hx hb d_B_hasAllRequired_57 rfl (lv_at hl 3 rfl) ?_
          refine va_get (D := D) (ci := 5) (C := R_B) (T := T_B) (N := 12) hx hb hts (fun w h => kT w (i_B w h)) hown hK hP 5 rfl rfl 0 (by decide) (hts _ (kT _ wd_264431dc)) (fun _ h9 => h9) rfl d_B_hasAllRequired_58 ?_
          refine lv_iload_n hx hb d_B_hasAllRequired_61 rfl (lv_at hl 2 rfl) ?_
          refine lv_iload_n hx hb d_B_hasAllRequired_62 rfl (lv_at hl 1 rfl) ?_
          refine k_callV (c_Schema_kindOf l D a g tw sLen sKind sExt sMust rTab rFil rNum rLnk rLen rItm made pItm held dByt dLen bByt (haR (SR.mk sLen sKind sExt sMust rTab rFil rNum rLnk rLen rItm) r bRea nn) bRec bItm bFld bOff bOfp kept wrt wid ent ver fAdr fTab adr tab lf (rTab r) nn  (by omega) (by omega)) m_S_kindOf wd_b2364b34 1 1 rfl rfl rfl kT hx hb hml hown hts ⟨Nat.le_of_ble_eq_true rfl, Nat.le_of_ble_eq_true rfl⟩ ⟨Nat.le_of_ble_eq_true rfl, Nat.le_of_ble_eq_true rfl⟩ hK hP hD hS hA hZ hl.1 rfl rfl (Nat.le_of_ble_eq_true rfl) d_B_hasAllRequired_63 (fun H locs hP hD hS => ?_)
          have hP : va_P D vwCl (Wd a g sLen sKind sExt sMust rTab rFil rNum rLnk rLen rItm made pItm held dByt dLen bByt (haR (SR.mk sLen sKind sExt sMust rTab rFil rNum rLnk rLen rItm) r bRea nn) bRec bItm bFld bOff bOfp kept wrt wid ent ver fAdr fTab adr tab lf) H := hP
          have hD : va_D A (Wd a g sLen sKind sExt sMust rTab rFil rNum rLnk rLen rItm made pItm held dByt dLen bByt (haR (SR.mk sLen sKind sExt sMust rTab rFil rNum rLnk rLen rItm) r bRea nn) bRec bItm bFld bOff bOfp kept wrt wid ent ver fAdr fTab adr tab lf) := hD
          refine W.eq (g2 := F0 m 66 ls [.int (nI (sKind ((rTab r) * 6 + nn)))]) rfl ?_
          refine lv_bipush (v := nI 6) hx hb d_B_hasAllRequired_66 (by decide) ?_
          refine lv_icmp_ne (tgt := 87) hx hb d_B_hasAllRequired_68 (by decide) (fun c_68 => ?_) (fun c_68 => ?_)
          · skip
            have c_68 := mt (nI_eq (by omega) (by omega)).mpr c_68
            refine lv_iinc (v := nI (nn + 1)) (lv' := [(3, .int (nI (nn + 1))), (4, .int (nI (r * 6 + nn))), (2, .int (nI (rTab r))), (0, .ref (a 5)), (1, .int (nI r))]) hx hb d_B_hasAllRequired_87 hl (k := 1) rfl (nI_1 _) (by decide) rfl (fun ls hl => ?_)
            refine lv_goto (tgt := 11) hx hb d_B_hasAllRequired_90 (by decide) ?_
            have ec_bRea : haR (SR.mk sLen sKind sExt sMust rTab rFil rNum rLnk rLen rItm) r bRea nn = haR (SR.mk sLen sKind sExt sMust rTab rFil rNum rLnk rLen rItm) r bRea (nn + 1) := (ha_b (q := (SR.mk sLen sKind sExt sMust rTab rFil rNum rLnk rLen rItm)) (rea := bRea) hok c_40 c_68).2.symm
            have hP : va_P D vwCl (Wd a g sLen sKind sExt sMust rTab rFil rNum rLnk rLen rItm made pItm held dByt dLen bByt (haR (SR.mk sLen sKind sExt sMust rTab rFil rNum rLnk rLen rItm) r bRea (nn + 1)) bRec bItm bFld bOff bOfp kept wrt wid ent ver fAdr fTab adr tab lf) H := by rw [← ec_bRea]; exact hP
            have hD : va_D A (Wd a g sLen sKind sExt sMust rTab rFil rNum rLnk rLen rItm made pItm held dByt dLen bByt (haR (SR.mk sLen sKind sExt sMust rTab rFil rNum rLnk rLen rItm) r bRea (nn + 1)) bRec bItm bFld bOff bOfp kept wrt wid ent ver fAdr fTab adr tab lf) := by rw [← ec_bRea]; exact hD
            exact ih_11 (nn + 1) (by omega) (ha_b (q := (SR.mk sLen sKind sExt sMust rTab rFil rNum rLnk rLen rItm)) (rea := bRea) hok c_40 c_68).1 (by omega) _ _ _ hP hD hS (lv_sub hl [0, 2, 3, 4] rfl)
          · skip
            have c_68 := (nI_eq (by omega) (by omega)).mp c_68
            refine lv_aload_n hx hb d_B_hasAllRequired_71 rfl (lv_at hl 3 rfl) ?_
            refine va_get (D := D) (ci := 5) (C := R_B) (T := T_B) (N := 12) hx hb hts (fun w h => kT w (i_B w h)) hown hK hP 5 rfl rfl 3 (by decide) (hts _ (kT _ wd_7e3d3552)) (fun _ h9 => h9) rfl d_B_hasAllRequired_72 ?_
            refine lv_aload_n hx hb d_B_hasAllRequired_75 rfl (lv_at hl 3 rfl) ?_
            refine va_get (D := D) (ci := 5) (C := R_B) (T := T_B) (N := 12) hx hb hts (fun w h => kT w (i_B w h)) hown hK hP 5 rfl rfl 1 (by decide) (hts _ (kT _ wd_b6a2624b)) (fun _ h9 => h9) rfl d_B_hasAllRequired_76 ?_
            refine va_getN (D := D) (ci := 2) (C := R_R) (T := T_R) (N := 7) hx hb hts (fun w h => kT w (i_R w h)) hown hK hP 2 rfl rfl 3 (by decide) (va_Nw.use rfl (hZ.2.2.1 _ wn_779f6acf)) (fun _ h9 => h9) rfl d_B_hasAllRequired_79 ?_
            refine lv_iload hx hb d_B_hasAllRequired_82 (lv_at hl 0 rfl) ?_
            refine n_iald hx hb hK hP 15 7 rfl rfl (i := (r * 6 + nn)) (by omega) (by decide) d_B_hasAllRequired_84 ?_
            refine lv_iconst (v := nI 1) hx hb d_B_hasAllRequired_85 (by decide) ?_
            refine lv_eqi (show nI 1 = bI true by decide) ?_
            refine z_zast hx hb hK hP hD hS 21 13 rfl rfl (i := (rLnk (r * 6 + nn))) (by omega) (by decide) d_B_hasAllRequired_86 (fun H locs hP hD hS => ?_)
            have hP : va_P D vwCl (Wd a g sLen sKind sExt sMust rTab rFil rNum rLnk rLen rItm made pItm held dByt dLen bByt (va_up (haR (SR.mk sLen sKind sExt sMust rTab rFil rNum rLnk rLen rItm) r bRea nn) (rLnk (r * 6 + nn)) true) bRec bItm bFld bOff bOfp kept wrt wid ent ver fAdr fTab adr tab lf) H := hP
            have hD : va_D A (Wd a g sLen sKind sExt sMust rTab rFil rNum rLnk rLen rItm made pItm held dByt dLen bByt (va_up (haR (SR.mk sLen sKind sExt sMust rTab rFil rNum rLnk rLen rItm) r bRea nn) (rLnk (r * 6 + nn)) true) bRec bItm bFld bOff bOfp kept wrt wid ent ver fAdr fTab adr tab lf) := hD
            refine lv_iinc (v := nI (nn + 1)) (lv' := [(3, .int (nI (nn + 1))), (4, .int (nI (r * 6 + nn))), (2, .int (nI (rTab r))), (0, .ref (a 5)), (1, .int (nI r))]) hx hb d_B_hasAllRequired_87 hl (k := 1) rfl (nI_1 _) (by decide) rfl (fun ls hl => ?_)
            refine lv_goto (tgt := 11) hx hb d_B_hasAllRequired_90 (by decide) ?_
            have ec_bRea : va_up (haR (SR.mk sLen sKind sExt sMust rTab rFil rNum rLnk rLen rItm) r bRea nn) (rLnk (r * 6 + nn)) true = haR (SR.mk sLen sKind sExt sMust rTab rFil rNum rLnk rLen rItm) r bRea (nn + 1) := (ha_c (q := (SR.mk sLen sKind sExt sMust rTab rFil rNum rLnk rLen rItm)) (rea := bRea) hok c_40 c_68).2.symm
            have hP : va_P D vwCl (Wd a g sLen sKind sExt sMust rTab rFil rNum rLnk rLen rItm made pItm held dByt dLen bByt (haR (SR.mk sLen sKind sExt sMust rTab rFil rNum rLnk rLen rItm) r bRea (nn + 1)) bRec bItm bFld bOff bOfp kept wrt wid ent ver fAdr fTab adr tab lf) H := by rw [← ec_bRea]; exact hP
            have hD : va_D A (Wd a g sLen sKind sExt sMust rTab rFil rNum rLnk rLen rItm made pItm held dByt dLen bByt (haR (SR.mk sLen sKind sExt sMust rTab rFil rNum rLnk rLen rItm) r bRea (nn + 1)) bRec bItm bFld bOff bOfp kept wrt wid ent ver fAdr fTab adr tab lf) := by rw [← ec_bRea]; exact hD
            exact ih_11 (nn + 1) (by omega) (ha_c (q := (SR.mk sLen sKind sExt sMust rTab rFil rNum rLnk rLen rItm)) (rea := bRea) hok c_40 c_68).1 (by omega) _ _ _ hP hD hS (lv_sub hl [0, 2, 3, 4] rfl)
        · skip
          have c_40 := (bI_0).mp c_40
          refine lv_aload_n hx hb d_B_hasAllRequired_43 rfl (lv_at hl 3 rfl) ?_
          refine va_get (D := D) (ci := 5) (C := R_B) (T := T_B) (N := 12) hx hb hts (fun w h => kT w (i_B w h)) hown hK hP 5 rfl rfl 0 (by decide) (hts _ (kT _ wd_264431dc)) (fun _ h9 => h9) rfl d_B_hasAllRequired_44 ?_
          refine lv_iload_n hx hb d_B_hasAllRequired_47 rfl (lv_at hl 2 rfl) ?_
          refine lv_iload_n hx hb d_B_hasAllRequired_48 rfl (lv_at hl 1 rfl) ?_
          refine k_callV (c_Schema_requires l D a g tw sLen sKind sExt sMust rTab rFil rNum rLnk rLen rItm made pItm held dByt dLen bByt (haR (SR.mk sLen sKind sExt sMust rTab rFil rNum rLnk rLen rItm) r bRea nn) bRec bItm bFld bOff bOfp kept wrt wid ent ver fAdr fTab adr tab lf (rTab r) nn  (by omega) (by omega)) m_S_requires wd_1a4a5b18 1 1 rfl rfl rfl kT hx hb hml hown hts ⟨Nat.le_of_ble_eq_true rfl, Nat.le_of_ble_eq_true rfl⟩ ⟨Nat.le_of_ble_eq_true rfl, Nat.le_of_ble_eq_true rfl⟩ hK hP hD hS hA hZ hl.1 rfl rfl (Nat.le_of_ble_eq_true rfl) d_B_hasAllRequired_49 (fun H locs hP hD hS => ?_)
          have hP : va_P D vwCl (Wd a g sLen sKind sExt sMust rTab rFil rNum rLnk rLen rItm made pItm held dByt dLen bByt (haR (SR.mk sLen sKind sExt sMust rTab rFil rNum rLnk rLen rItm) r bRea nn) bRec bItm bFld bOff bOfp kept wrt wid ent ver fAdr fTab adr tab lf) H := hP
          have hD : va_D A (Wd a g sLen sKind sExt sMust rTab rFil rNum rLnk rLen rItm made pItm held dByt dLen bByt (haR (SR.mk sLen sKind sExt sMust rTab rFil rNum rLnk rLen rItm) r bRea nn) bRec bItm bFld bOff bOfp kept wrt wid ent ver fAdr fTab adr tab lf) := hD
          refine W.eq (g2 := F0 m 52 ls [.int (bI (sMust ((rTab r) * 6 + nn)))]) rfl ?_
          refine lv_if_eq (tgt := 87) hx hb d_B_hasAllRequired_52 (by decide) (fun c_52 => ?_) (fun c_52 => ?_)
          · skip
            have c_52 := (bI_0).mp c_52
            refine lv_iinc (v := nI (nn + 1)) (lv' := [(3, .int (nI (nn + 1))), (4, .int (nI (r * 6 + nn))), (2, .int (nI (rTab r))), (0, .ref (a 5)), (1, .int (nI r))]) hx hb d_B_hasAllRequired_87 hl (k := 1) rfl (nI_1 _) (by decide) rfl (fun ls hl => ?_)
            refine lv_goto (tgt := 11) hx hb d_B_hasAllRequired_90 (by decide) ?_
            have ec_bRea : haR (SR.mk sLen sKind sExt sMust rTab rFil rNum rLnk rLen rItm) r bRea nn = haR (SR.mk sLen sKind sExt sMust rTab rFil rNum rLnk rLen rItm) r bRea (nn + 1) := (ha_a (q := (SR.mk sLen sKind sExt sMust rTab rFil rNum rLnk rLen rItm)) (rea := bRea) hok c_40 c_52).2.symm
            have hP : va_P D vwCl (Wd a g sLen sKind sExt sMust rTab rFil rNum rLnk rLen rItm made pItm held dByt dLen bByt (haR (SR.mk sLen sKind sExt sMust rTab rFil rNum rLnk rLen rItm) r bRea (nn + 1)) bRec bItm bFld bOff bOfp kept wrt wid ent ver fAdr fTab adr tab lf) H := by rw [← ec_bRea]; exact hP
            have hD : va_D A (Wd a g sLen sKind sExt sMust rTab rFil rNum rLnk rLen rItm made pItm held dByt dLen bByt (haR (SR.mk sLen sKind sExt sMust rTab rFil rNum rLnk rLen rItm) r bRea (nn + 1)) bRec bItm bFld bOff bOfp kept wrt wid ent ver fAdr fTab adr tab lf) := by rw [← ec_bRea]; exact hD
            exact ih_11 (nn + 1) (by omega) (ha_a (q := (SR.mk sLen sKind sExt sMust rTab rFil rNum rLnk rLen rItm)) (rea := bRea) hok c_40 c_52).1 (by omega) _ _ _ hP hD hS (lv_sub hl [0, 2, 3, 4] rfl)
          · skip
            have c_52 := mt (bI_0).mpr c_52
            have c_52 := eq_true_of_ne_false c_52
            refine lv_iconst (v := nI 0) hx hb d_B_hasAllRequired_55 (by decide) ?_
            exact k_zret hx hb hr hlocks hK hP hD hS (trivial) (by rw [nI_bI0]; exact congrArg bI (ha_n (q := (SR.mk sLen sKind sExt sMust rTab rFil rNum rLnk rLen rItm)) (rea := bRea) c_40 c_52 _ (by omega)).1.symm) (by rw [(ha_n (q := (SR.mk sLen sKind sExt sMust rTab rFil rNum rLnk rLen rItm)) (rea := bRea) c_40 c_52 (sLen (rTab r)) (by omega)).2]) (bI_nar _) d_B_hasAllRequired_56
  exact L_11 ((sLen (rTab r) - 0) + 1) 0 (by omega) rfl (by omega) _ _ _ hP hD hS (lv_sub hl [0, 1, 2, 3] rfl)
set_option maxHeartbeats 4000000 in
set_option maxRecDepth 100000 in
theorem c_B_isWhole (l : Launch) (D : va_G) (a : Nat → Nat) (g : Nat → ClassId) (tw : Nat) (sLen sKind : Nat → Nat) (sExt : Nat → Int32) (sMust : Nat → Bool) (rTab : Nat → Nat) (rFil : Nat → Bool) (rNum : Nat → Int64) (rLnk rLen : Nat → Nat) (rItm : Nat → Int32) (made : Nat) (pItm : Nat → Int32) (held : Nat) (dByt : Nat → Nat) (dLen : Nat) (bByt : Nat → Nat) (bRea : Nat → Bool) (bRec bItm bFld bOff bOfp : Nat → Nat) (kept wrt wid ent : Nat) (ver : Bool) (fAdr fTab adr tab : Nat) (lf : Int32) (fs : Nat)  (hf : fs < 16) (hq : SOK (SR.mk sLen sKind sExt sMust rTab rFil rNum rLnk rLen rItm)) : kM l y_B_isWhole b_B_isWhole 3 (some .boolean) ({ frames := 2, cells := 0, slots := 0, locals := 46 }) D vwCl (WdT g) tw [.ref (a 5), .int (nI fs)] (Wd a g sLen sKind sExt sMust rTab rFil rNum rLnk rLen rItm made pItm held dByt dLen bByt bRea bRec bItm bFld bOff bOfp kept wrt wid ent ver fAdr fTab adr tab lf) (some (.int (bI (whR (SR.mk sLen sKind sExt sMust rTab rFil rNum rLnk rLen rItm) fs (rcR fs bRea 16) (fs + 1)).1))) (Wd a g sLen sKind sExt sMust rTab rFil rNum rLnk rLen rItm made pItm held dByt dLen bByt ((whR (SR.mk sLen sKind sExt sMust rTab rFil rNum rLnk rLen rItm) fs (rcR fs bRea 16) (fs + 1)).2) bRec bItm bFld bOff bOfp kept wrt wid ent ver fAdr fTab adr tab lf) := by
  refine k_of (by decide) (Nat.le_of_ble_eq_true rfl) ?_
  intro p e s m below meth c A ls hx hb hr hlocks hml hts hown hin0 hA hP hK hD hS hZ hl
  have hl : lv_has ls 3 [(0, .ref (a 5)), (1, .int (nI fs))] := hl
  refine lv_iconst (v := nI 0) hx hb d_B_isWhole_0 (by decide) ?_
  refine lv_istore_n (lv' := [(2, .int (nI 0)), (0, .ref (a 5)), (1, .int (nI fs))]) hx hb d_B_isWhole_1 rfl hl (by decide) rfl (fun ls hl => ?_)
  have hP : va_P D vwCl (Wd a g sLen sKind sExt sMust rTab rFil rNum rLnk rLen rItm made pItm held dByt dLen bByt (rcR fs bRea 0) bRec bItm bFld bOff bOfp kept wrt wid ent ver fAdr fTab adr tab lf) _ := hP
  have hD : va_D A (Wd a g sLen sKind sExt sMust rTab rFil rNum rLnk rLen rItm made pItm held dByt dLen bByt (rcR fs bRea 0) bRec bItm bFld bOff bOfp kept wrt wid ent ver fAdr fTab adr tab lf) := hD
  have L_2 : ∀ (n : Nat) (nn : Nat), (nn ≤ 16) → 16 - nn < n → ∀ (H : Heap) (locs : List Loc) (ls : Array Slot), va_P D vwCl (Wd a g sLen sKind sExt sMust rTab rFil rNum rLnk rLen rItm made pItm held dByt dLen bByt (rcR fs bRea nn) bRec bItm bFld bOff bOfp kept wrt wid ent ver fAdr fTab adr tab lf) H → va_D A (Wd a g sLen sKind sExt sMust rTab rFil rNum rLnk rLen rItm made pItm held dByt dLen bByt (rcR fs bRea nn) bRec bItm bFld bOff bOfp kept wrt wid ent ver fAdr fTab adr tab lf) → va_S A s.heap H locs → lv_has ls 3 [(2, .int (nI nn)), (0, .ref (a 5)), (1, .int (nI fs))] → W p l e ({ frames := 2, cells := 0, slots := 0, locals := 46 }) s m ([.ref (a 5), .int (nI fs)] : List Value).toArray below meth c H locs 0 0 (MQ below (kQ D vwCl (WdT g) A True (some (.int (bI (whR (SR.mk sLen sKind sExt sMust rTab rFil rNum rLnk rLen rItm) fs (rcR fs bRea 16) (fs + 1)).1))) (Wd a g sLen sKind sExt sMust rTab rFil rNum rLnk rLen rItm made pItm held dByt dLen bByt ((whR (SR.mk sLen sKind sExt sMust rTab rFil rNum rLnk rLen rItm) fs (rcR fs bRea 16) (fs + 1)).2) bRec bItm bFld bOff bOfp kept wrt wid ent ver fAdr fTab adr tab lf)) ([.ref (a 5), .int (nI fs)] : List Value).toArray s 0 0 A) (F0 m 2 ls []) := by
    intro n
    induction n with
    | zero => intro nn hnn hm; exact absurd hm (Nat.not_lt_zero _)
    | succ n ih_2 =>
      intro nn hnn hm_2 H locs ls hP hD hS hl
      refine lv_iload_n hx hb d_B_isWhole_2 rfl (lv_at hl 0 rfl) ?_
      refine lv_bipush (v := nI 16) hx hb d_B_isWhole_3 (by decide) ?_
      refine lv_icmp_ge (tgt := 30) hx hb d_B_isWhole_5 (by decide) (fun c_5 => ?_) (fun c_5 => ?_)
      · skip
        have c_5 := (nI_leI (by omega) (by omega)).mp c_5
        have h_nn : 16 = nn := by omega
        subst h_nn
        refine lv_iload_n hx hb d_B_isWhole_30 rfl (lv_at hl 2 rfl) ?_
        refine lv_istore_n (lv' := [(2, .int (nI fs)), (0, .ref (a 5)), (1, .int (nI fs))]) hx hb d_B_isWhole_31 rfl hl (by decide) rfl (fun ls hl => ?_)
        have e_2 : nI fs = nI (fs + 1 - 0) - 1 := by rw [Nat.sub_zero, nI_pred]
        have hl : lv_has ls 3 [(2, .int (nI (fs + 1 - 0) - 1)), (0, .ref (a 5)), (1, .int (nI fs))] := by rw [← e_2]; exact hl
        have hP : va_P D vwCl (Wd a g sLen sKind sExt sMust rTab rFil rNum rLnk rLen rItm made pItm held dByt dLen bByt ((whR (SR.mk sLen sKind sExt sMust rTab rFil rNum rLnk rLen rItm) fs (rcR fs bRea 16) 0).2) bRec bItm bFld bOff bOfp kept wrt wid ent ver fAdr fTab adr tab lf) _ := hP
        have hD : va_D A (Wd a g sLen sKind sExt sMust rTab rFil rNum rLnk rLen rItm made pItm held dByt dLen bByt ((whR (SR.mk sLen sKind sExt sMust rTab rFil rNum rLnk rLen rItm) fs (rcR fs bRea 16) 0).2) bRec bItm bFld bOff bOfp kept wrt wid ent ver fAdr fTab adr tab lf) := hD
        have L_32 : ∀ (n : Nat) (jj : Nat), (jj ≤ fs + 1) → ((whR (SR.mk sLen sKind sExt sMust rTab rFil rNum rLnk rLen rItm) fs (rcR fs bRea 16) jj).1 = true) → fs + 1 - jj < n → ∀ (H : Heap) (locs : List Loc) (ls : Array Slot), va_P D vwCl (Wd a g sLen sKind sExt sMust rTab rFil rNum rLnk rLen rItm made pItm held dByt dLen bByt ((whR (SR.mk sLen sKind sExt sMust rTab rFil rNum rLnk rLen rItm) fs (rcR fs bRea 16) jj).2) bRec bItm bFld bOff bOfp kept wrt wid ent ver fAdr fTab adr tab lf) H → va_D A (Wd a g sLen sKind sExt sMust rTab rFil rNum rLnk rLen rItm made pItm held dByt dLen bByt ((whR (SR.mk sLen sKind sExt sMust rTab rFil rNum rLnk rLen rItm) fs (rcR fs bRea 16) jj).2) bRec bItm bFld bOff bOfp kept wrt wid ent ver fAdr fTab adr tab lf) → va_S A s.heap H locs → lv_has ls 3 [(2, .int (nI (fs + 1 - jj) - 1)), (0, .ref (a 5)), (1, .int (nI fs))] → W p l e ({ frames := 2, cells := 0, slots := 0, locals := 46 }) s m ([.ref (a 5), .int (nI fs)] : List Value).toArray below meth c H locs 0 0 (MQ below (kQ D vwCl (WdT g) A True (some (.int (bI (whR (SR.mk sLen sKind sExt sMust rTab rFil rNum rLnk rLen rItm) fs (rcR fs bRea 16) (fs + 1)).1))) (Wd a g sLen sKind sExt sMust rTab rFil rNum rLnk rLen rItm made pItm held dByt dLen bByt ((whR (SR.mk sLen sKind sExt sMust rTab rFil rNum rLnk rLen rItm) fs (rcR fs bRea 16) (fs + 1)).2) bRec bItm bFld bOff bOfp kept wrt wid ent ver fAdr fTab adr tab lf)) ([.ref (a 5), .int (nI fs)] : List Value).toArray s 0 0 A) (F0 m 32 ls []) := by
          intro n
          induction n with
          | zero => intro jj hjj hwk hm; exact absurd hm (Nat.not_lt_zero _)
          | succ n ih_32 =>
            intro jj hjj hwk hm_32 H locs ls hP hD hS hl
            refine lv_iload_n hx hb d_B_isWhole_32 rfl (lv_at hl 0 rfl) ?_
            refine lv_if_lt (tgt := 61) hx hb d_B_isWhole_33 (by decide) (fun c_33 => ?_) (fun c_33 => ?_)
            · skip
              have h_jj : fs + 1 = jj := by have := (dn_lt (by omega)).mp c_33; omega
              subst h_jj
              refine lv_iconst (v := nI 1) hx hb d_B_isWhole_61 (by decide) ?_
              exact k_zret hx hb hr hlocks hK hP hD hS (trivial) (by rw [nI_bI1]; exact congrArg bI hwk.symm) (rfl) (bI_nar _) d_B_isWhole_62
            · skip
              have hj : ¬ (fs + 1 - jj) = 0 := mt (dn_lt (by omega)).mpr c_33
              have hl : lv_has ls 3 [(2, .int (nI ((fs + 1 - jj) - 1))), (0, .ref (a 5)), (1, .int (nI fs))] := by rw [← dn_in hj]; exact hl
              refine lv_aload_n hx hb d_B_isWhole_36 rfl (lv_at hl 1 rfl) ?_
              refine va_get (D := D) (ci := 5) (C := R_B) (T := T_B) (N := 12) hx hb hts (fun w h => kT w (i_B w h)) hown hK hP 5 rfl rfl 3 (by decide) (hts _ (kT _ wd_7e3d3552)) (fun _ h9 => h9) rfl d_B_isWhole_37 ?_
              refine lv_iload_n hx hb d_B_isWhole_40 rfl (lv_at hl 0 rfl) ?_
              refine z_zald hx hb hK hP 21 13 rfl rfl (i := ((fs + 1 - jj) - 1)) (by omega) (by decide) d_B_isWhole_41 ?_
              refine lv_if_eq (tgt := 55) hx hb d_B_isWhole_42 (by decide) (fun c_42 => ?_) (fun c_42 => ?_)
              · skip
                have c_42 := (bI_0).mp c_42
                refine lv_iinc (v := (nI ((fs + 1 - jj) - 1)) + (-1)) (lv' := [(2, .int ((nI ((fs + 1 - jj) - 1)) + (-1))), (0, .ref (a 5)), (1, .int (nI fs))]) hx hb d_B_isWhole_55 hl (k := 0) rfl rfl (by decide) rfl (fun ls hl => ?_)
                refine lv_goto (tgt := 32) hx hb d_B_isWhole_58 (by decide) ?_
                have e_2 : (nI ((fs + 1 - jj) - 1)) + (-1) = nI (fs + 1 - (jj + 1)) - 1 := by rw [dn_step]; exact congrArg (· - 1) (nI_congr (by omega))
                have hl : lv_has ls 3 [(2, .int (nI (fs + 1 - (jj + 1)) - 1)), (0, .ref (a 5)), (1, .int (nI fs))] := by rw [← e_2]; exact hl
                have ec_bRea : (whR (SR.mk sLen sKind sExt sMust rTab rFil rNum rLnk rLen rItm) fs (rcR fs bRea 16) jj).2 = (whR (SR.mk sLen sKind sExt sMust rTab rFil rNum rLnk rLen rItm) fs (rcR fs bRea 16) (jj + 1)).2 := (congrArg Prod.snd (wh_a (q := (SR.mk sLen sKind sExt sMust rTab rFil rNum rLnk rLen rItm)) c_42)).symm
                have hP : va_P D vwCl (Wd a g sLen sKind sExt sMust rTab rFil rNum rLnk rLen rItm made pItm held dByt dLen bByt ((whR (SR.mk sLen sKind sExt sMust rTab rFil rNum rLnk rLen rItm) fs (rcR fs bRea 16) (jj + 1)).2) bRec bItm bFld bOff bOfp kept wrt wid ent ver fAdr fTab adr tab lf) H := by rw [← ec_bRea]; exact hP
                have hD : va_D A (Wd a g sLen sKind sExt sMust rTab rFil rNum rLnk rLen rItm made pItm held dByt dLen bByt ((whR (SR.mk sLen sKind sExt sMust rTab rFil rNum rLnk rLen rItm) fs (rcR fs bRea 16) (jj + 1)).2) bRec bItm bFld bOff bOfp kept wrt wid ent ver fAdr fTab adr tab lf) := by rw [← ec_bRea]; exact hD
                exact ih_32 (jj + 1) (by omega) ((congrArg Prod.fst (wh_a (q := (SR.mk sLen sKind sExt sMust rTab rFil rNum rLnk rLen rItm)) c_42)).trans hwk) (by omega) _ _ _ hP hD hS (lv_sub hl [0, 1, 2] rfl)
              · skip
                have c_42 := mt (bI_0).mpr c_42
                have c_42 := eq_true_of_ne_false c_42
                refine lv_aload_n hx hb d_B_isWhole_45 rfl (lv_at hl 1 rfl) ?_
                refine lv_iload_n hx hb d_B_isWhole_46 rfl (lv_at hl 0 rfl) ?_
                refine k_callV (c_B_hasAllRequired l D a g tw sLen sKind sExt sMust rTab rFil rNum rLnk rLen rItm made pItm held dByt dLen bByt ((whR (SR.mk sLen sKind sExt sMust rTab rFil rNum rLnk rLen rItm) fs (rcR fs bRea 16) jj).2) bRec bItm bFld bOff bOfp kept wrt wid ent ver fAdr fTab adr tab lf ((fs + 1 - jj) - 1)  (by omega) hq) m_B_hasAllRequired wd_f1d2aca5 5 5 rfl rfl rfl kT hx hb hml hown hts ⟨Nat.le_of_ble_eq_true rfl, Nat.le_of_ble_eq_true rfl⟩ ⟨Nat.le_of_ble_eq_true rfl, Nat.le_of_ble_eq_true rfl⟩ hK hP hD hS hA hZ hl.1 rfl rfl (Nat.le_of_ble_eq_true rfl) d_B_isWhole_47 (fun H locs hP hD hS => ?_)
                have hP : va_P D vwCl (Wd a g sLen sKind sExt sMust rTab rFil rNum rLnk rLen rItm made pItm held dByt dLen bByt (haR (SR.mk sLen sKind sExt sMust rTab rFil rNum rLnk rLen rItm) ((fs + 1 - jj) - 1) ((whR (SR.mk sLen sKind sExt sMust rTab rFil rNum rLnk rLen rItm) fs (rcR fs bRea 16) jj).2) (sLen (rTab ((fs + 1 - jj) - 1)))) bRec bItm bFld bOff bOfp kept wrt wid ent ver fAdr fTab adr tab lf) H := hP
                have hD : va_D A (Wd a g sLen sKind sExt sMust rTab rFil rNum rLnk rLen rItm made pItm held dByt dLen bByt (haR (SR.mk sLen sKind sExt sMust rTab rFil rNum rLnk rLen rItm) ((fs + 1 - jj) - 1) ((whR (SR.mk sLen sKind sExt sMust rTab rFil rNum rLnk rLen rItm) fs (rcR fs bRea 16) jj).2) (sLen (rTab ((fs + 1 - jj) - 1)))) bRec bItm bFld bOff bOfp kept wrt wid ent ver fAdr fTab adr tab lf) := hD
                refine W.eq (g2 := F0 m 50 ls [.int (bI (okR (SR.mk sLen sKind sExt sMust rTab rFil rNum rLnk rLen rItm) ((fs + 1 - jj) - 1) (sLen (rTab ((fs + 1 - jj) - 1)))))]) rfl ?_
                refine lv_if_ne (tgt := 55) hx hb d_B_isWhole_50 (by decide) (fun c_50 => ?_) (fun c_50 => ?_)
                · skip
                  have c_50 := mt (bI_0).mpr c_50
                  have c_50 := eq_true_of_ne_false c_50
                  refine lv_iinc (v := (nI ((fs + 1 - jj) - 1)) + (-1)) (lv' := [(2, .int ((nI ((fs + 1 - jj) - 1)) + (-1))), (0, .ref (a 5)), (1, .int (nI fs))]) hx hb d_B_isWhole_55 hl (k := 0) rfl rfl (by decide) rfl (fun ls hl => ?_)
                  refine lv_goto (tgt := 32) hx hb d_B_isWhole_58 (by decide) ?_
                  have e_2 : (nI ((fs + 1 - jj) - 1)) + (-1) = nI (fs + 1 - (jj + 1)) - 1 := by rw [dn_step]; exact congrArg (· - 1) (nI_congr (by omega))
                  have hl : lv_has ls 3 [(2, .int (nI (fs + 1 - (jj + 1)) - 1)), (0, .ref (a 5)), (1, .int (nI fs))] := by rw [← e_2]; exact hl
                  have ec_bRea : haR (SR.mk sLen sKind sExt sMust rTab rFil rNum rLnk rLen rItm) ((fs + 1 - jj) - 1) ((whR (SR.mk sLen sKind sExt sMust rTab rFil rNum rLnk rLen rItm) fs (rcR fs bRea 16) jj).2) (sLen (rTab ((fs + 1 - jj) - 1))) = (whR (SR.mk sLen sKind sExt sMust rTab rFil rNum rLnk rLen rItm) fs (rcR fs bRea 16) (jj + 1)).2 := (congrArg Prod.snd (wh_b (q := (SR.mk sLen sKind sExt sMust rTab rFil rNum rLnk rLen rItm)) hwk c_42)).symm
                  have hP : va_P D vwCl (Wd a g sLen sKind sExt sMust rTab rFil rNum rLnk rLen rItm made pItm held dByt dLen bByt ((whR (SR.mk sLen sKind sExt sMust rTab rFil rNum rLnk rLen rItm) fs (rcR fs bRea 16) (jj + 1)).2) bRec bItm bFld bOff bOfp kept wrt wid ent ver fAdr fTab adr tab lf) H := by rw [← ec_bRea]; exact hP
                  have hD : va_D A (Wd a g sLen sKind sExt sMust rTab rFil rNum rLnk rLen rItm made pItm held dByt dLen bByt ((whR (SR.mk sLen sKind sExt sMust rTab rFil rNum rLnk rLen rItm) fs (rcR fs bRea 16) (jj + 1)).2) bRec bItm bFld bOff bOfp kept wrt wid ent ver fAdr fTab adr tab lf) := by rw [← ec_bRea]; exact hD
                  exact ih_32 (jj + 1) (by omega) ((congrArg Prod.fst (wh_b (q := (SR.mk sLen sKind sExt sMust rTab rFil rNum rLnk rLen rItm)) hwk c_42)).trans c_50) (by omega) _ _ _ hP hD hS (lv_sub hl [0, 1, 2] rfl)
                · skip
                  have c_50 := (bI_0).mp c_50
                  refine lv_iconst (v := nI 0) hx hb d_B_isWhole_53 (by decide) ?_
                  exact k_zret hx hb hr hlocks hK hP hD hS (trivial) (by rw [nI_bI0]; exact congrArg bI (by rw [(wh_s (q := (SR.mk sLen sKind sExt sMust rTab rFil rNum rLnk rLen rItm)) (fs := fs) (rea := (rcR fs bRea 16)) (j := jj + 1) ((congrArg Prod.fst (wh_b (q := (SR.mk sLen sKind sExt sMust rTab rFil rNum rLnk rLen rItm)) hwk c_42)).trans c_50) (fs + 1) (by omega)), wh_b (q := (SR.mk sLen sKind sExt sMust rTab rFil rNum rLnk rLen rItm)) hwk c_42]; exact c_50.symm)) (by rw [(wh_s (q := (SR.mk sLen sKind sExt sMust rTab rFil rNum rLnk rLen rItm)) (fs := fs) (rea := (rcR fs bRea 16)) (j := jj + 1) ((congrArg Prod.fst (wh_b (q := (SR.mk sLen sKind sExt sMust rTab rFil rNum rLnk rLen rItm)) hwk c_42)).trans c_50) (fs + 1) (by omega)), wh_b (q := (SR.mk sLen sKind sExt sMust rTab rFil rNum rLnk rLen rItm)) hwk c_42]) (bI_nar _) d_B_isWhole_54
        exact L_32 ((fs + 1 - 0) + 1) 0 (by omega) rfl (by omega) _ _ _ hP hD hS (lv_sub hl [0, 1, 2] rfl)
      · skip
        have c_5 := mt (nI_leI (by omega) (by omega)).mpr c_5
        refine lv_aload_n hx hb d_B_isWhole_8 rfl (lv_at hl 1 rfl) ?_
        refine va_get (D := D) (ci := 5) (C := R_B) (T := T_B) (N := 12) hx hb hts (fun w h => kT w (i_B w h)) hown hK hP 5 rfl rfl 3 (by decide) (hts _ (kT _ wd_7e3d3552)) (fun _ h9 => h9) rfl d_B_isWhole_9 ?_
        refine lv_iload_n hx hb d_B_isWhole_12 rfl (lv_at hl 0 rfl) ?_
        refine lv_iload_n hx hb d_B_isWhole_13 rfl (lv_at hl 0 rfl) ?_
        refine lv_iload_n hx hb d_B_isWhole_14 rfl (lv_at hl 2 rfl) ?_
        refine lv_icmp_ne (tgt := 22) hx hb d_B_isWhole_15 (by decide) (fun c_15 => ?_) (fun c_15 => ?_)
        · skip
          have c_15 := mt (nI_eq (by omega) (by omega)).mpr c_15
          refine lv_iconst (v := nI 0) hx hb d_B_isWhole_22 (by decide) ?_
          refine lv_eqi (show nI 0 = bI false by decide) ?_
          refine z_zast hx hb hK hP hD hS 21 13 rfl rfl (i := nn) (by omega) (by decide) d_B_isWhole_23 (fun H locs hP hD hS => ?_)
          have hP : va_P D vwCl (Wd a g sLen sKind sExt sMust rTab rFil rNum rLnk rLen rItm made pItm held dByt dLen bByt (va_up (rcR fs bRea nn) nn false) bRec bItm bFld bOff bOfp kept wrt wid ent ver fAdr fTab adr tab lf) H := hP
          have hD : va_D A (Wd a g sLen sKind sExt sMust rTab rFil rNum rLnk rLen rItm made pItm held dByt dLen bByt (va_up (rcR fs bRea nn) nn false) bRec bItm bFld bOff bOfp kept wrt wid ent ver fAdr fTab adr tab lf) := hD
          refine lv_iinc (v := nI (nn + 1)) (lv' := [(2, .int (nI (nn + 1))), (0, .ref (a 5)), (1, .int (nI fs))]) hx hb d_B_isWhole_24 hl (k := 0) rfl (nI_1 _) (by decide) rfl (fun ls hl => ?_)
          refine lv_goto (tgt := 2) hx hb d_B_isWhole_27 (by decide) ?_
          have ec_bRea : va_up (rcR fs bRea nn) nn false = rcR fs bRea (nn + 1) := by first | rw [rcR, decide_eq_false c_15] | rw [rcR, decide_eq_true c_15]
          have hP : va_P D vwCl (Wd a g sLen sKind sExt sMust rTab rFil rNum rLnk rLen rItm made pItm held dByt dLen bByt (rcR fs bRea (nn + 1)) bRec bItm bFld bOff bOfp kept wrt wid ent ver fAdr fTab adr tab lf) H := by rw [← ec_bRea]; exact hP
          have hD : va_D A (Wd a g sLen sKind sExt sMust rTab rFil rNum rLnk rLen rItm made pItm held dByt dLen bByt (rcR fs bRea (nn + 1)) bRec bItm bFld bOff bOfp kept wrt wid ent ver fAdr fTab adr tab lf) := by rw [← ec_bRea]; exact hD
          exact ih_2 (nn + 1) (by omega) (by omega) _ _ _ hP hD hS (lv_sub hl [0, 1, 2] rfl)
        · skip
          have c_15 := (nI_eq (by omega) (by omega)).mp c_15
          refine lv_iconst (v := nI 1) hx hb d_B_isWhole_18 (by decide) ?_
          refine lv_goto (tgt := 23) hx hb d_B_isWhole_19 (by decide) ?_
          refine lv_eqi (show nI 1 = bI true by decide) ?_
          refine z_zast hx hb hK hP hD hS 21 13 rfl rfl (i := nn) (by omega) (by decide) d_B_isWhole_23 (fun H locs hP hD hS => ?_)
          have hP : va_P D vwCl (Wd a g sLen sKind sExt sMust rTab rFil rNum rLnk rLen rItm made pItm held dByt dLen bByt (va_up (rcR fs bRea nn) nn true) bRec bItm bFld bOff bOfp kept wrt wid ent ver fAdr fTab adr tab lf) H := hP
          have hD : va_D A (Wd a g sLen sKind sExt sMust rTab rFil rNum rLnk rLen rItm made pItm held dByt dLen bByt (va_up (rcR fs bRea nn) nn true) bRec bItm bFld bOff bOfp kept wrt wid ent ver fAdr fTab adr tab lf) := hD
          refine lv_iinc (v := nI (nn + 1)) (lv' := [(2, .int (nI (nn + 1))), (0, .ref (a 5)), (1, .int (nI fs))]) hx hb d_B_isWhole_24 hl (k := 0) rfl (nI_1 _) (by decide) rfl (fun ls hl => ?_)
          refine lv_goto (tgt := 2) hx hb d_B_isWhole_27 (by decide) ?_
          have ec_bRea : va_up (rcR fs bRea nn) nn true = rcR fs bRea (nn + 1) := by first | rw [rcR, decide_eq_false c_15] | rw [rcR, decide_eq_true c_15]
          have hP : va_P D vwCl (Wd a g sLen sKind sExt sMust rTab rFil rNum rLnk rLen rItm made pItm held dByt dLen bByt (rcR fs bRea (nn + 1)) bRec bItm bFld bOff bOfp kept wrt wid ent ver fAdr fTab adr tab lf) H := by rw [← ec_bRea]; exact hP
          have hD : va_D A (Wd a g sLen sKind sExt sMust rTab rFil rNum rLnk rLen rItm made pItm held dByt dLen bByt (rcR fs bRea (nn + 1)) bRec bItm bFld bOff bOfp kept wrt wid ent ver fAdr fTab adr tab lf) := by rw [← ec_bRea]; exact hD
          exact ih_2 (nn + 1) (by omega) (by omega) _ _ _ hP hD hS (lv_sub hl [0, 1, 2] rfl)
  exact L_2 ((16 - 0) + 1) 0 (by omega) (by omega) _ _ _ hP hD hS (lv_sub hl [0, 1, 2] rfl)

/-! the start: what the tables and the given words say -/
def NR : List Cond := flatC (Cond.and given_1 narrow_1)
def okW : Cond → Bool
  | .methodLink .. => true
  | .code .. => true
  | .instanceMethod .. => true
  | .selects .. => true
  | .fieldLink .. => true
  | .soleField .. => true
  | .lays .. => true
  | .static .. => true
  | .privateMethod .. => true
  | .laysFinal .. => true
  | .initialized .. => true
  | .constantLong .. => true
  | .classLink .. => true
  | .castable .. => true
  | .fieldLinkNest .. => true
  | .stringRef .. => true
  | .codeWith .. => true
  | .instantiable .. => true
  | .superclass .. => true
  | .sameMethod .. => true
  | .constant .. => true
  | .laysStatic .. => true
  | .declares .. => true
  | .methodLinkNest .. => true
  | .arrayClass .. => true
  | .native .. => true
  | .sameField .. => true
  | .arrayOver .. => true
  | .codeSync .. => true
  | _ => false
theorem okW_any {c : Cond} (h : okW c = true) {A1 A2 : Array Value} {U : State} (hb : c.before A1 U = true) : c.before A2 U = true := by
  cases c <;> first | exact absurd h Bool.false_ne_true | exact va_any rfl hb | exact hb
set_option maxRecDepth 100000 in
theorem okW_tbl : lw_tbl.all okW = true := by decide +kernel
theorem flag_off {l : Launch} (h : l.flags = flags0) : l.stackTraces = false := by
  unfold Launch.stackTraces
  rw [h]
  decide +kernel
theorem arr_B {s : State} (h : (Cond.arrayClass .byte).before #[] s = true) : ∃ cA, ArrOfT s cA .byte ∧ va_RA s cA .byte := by
  obtain ⟨cA, kA, comp, h1, h2, h3⟩ := Cond.arrayClass_spec h
  exact ⟨cA, fun n z => ⟨fun k h => (by cases h), kA, h2, comp, h3⟩, h1⟩
theorem arr_I {s : State} (h : (Cond.arrayClass .int).before #[] s = true) : ∃ cA, ArrOfT s cA .int ∧ va_RA s cA .int := by
  obtain ⟨cA, kA, comp, h1, h2, h3⟩ := Cond.arrayClass_spec h
  exact ⟨cA, fun n z => ⟨fun k h => (by cases h), kA, h2, comp, h3⟩, h1⟩
theorem arr_J {s : State} (h : (Cond.arrayClass .long).before #[] s = true) : ∃ cA, ArrOfT s cA .long ∧ va_RA s cA .long := by
  obtain ⟨cA, kA, comp, h1, h2, h3⟩ := Cond.arrayClass_spec h
  exact ⟨cA, fun n z => ⟨fun k h => (by cases h), kA, h2, comp, h3⟩, h1⟩
theorem arr_Z {s : State} (h : (Cond.arrayClass .boolean).before #[] s = true) : ∃ cA, ArrOfT s cA .boolean ∧ va_RA s cA .boolean := by
  obtain ⟨cA, kA, comp, h1, h2, h3⟩ := Cond.arrayClass_spec h
  exact ⟨cA, fun n z => ⟨fun k h => (by cases h), kA, h2, comp, h3⟩, h1⟩
theorem arr_O {s : State} (h : (Cond.arrayOver (.object "java/lang/Object")).before #[] s = true) : ∃ cA, ArrOfT s cA (.object "java/lang/Object") ∧ va_RA s cA (.object "java/lang/Object") := by
  obtain ⟨comp, cA, kA, h1, h2, h3, h4, h5⟩ := Cond.arrayOver_spec h
  exact ⟨cA, fun n z => ⟨fun k h => (by cases h), kA, h3, comp, h4⟩, kA, comp, h3, h4, h1, h5⟩
section
variable {l : Launch} {s : State} {args : Array Value}
theorem glb_start (hts : ∀ w ∈ lw_tbl, ∀ a : Array Value, w.before a s = true) (hfl : l.flags = flags0) : ∃ D ca, GLB (l, s, D, ca) := by
  obtain ⟨cX0, iX0, kX0⟩ := u_known (ws := lw_tbl) (C := RX0) (T := TX0) (N := 2) (n := 2) (args := #[]) (fun w h => hts w h #[]) (fun w h => (cl_X0.1 w h).1) (hts _ (List.mem_append_right _ (List.mem_of_getElem? (i := 43) (by decide +kernel))) #[])
  obtain ⟨cX2, iX2, kX2⟩ := u_known (ws := lw_tbl) (C := RX2) (T := TX2) (N := 4) (n := 4) (args := #[]) (fun w h => hts w h #[]) (fun w h => (cl_X2.1 w h).1) (hts _ (List.mem_append_right _ (List.mem_of_getElem? (i := 109) (by decide +kernel))) #[])
  obtain ⟨cX3, iX3, kX3⟩ := u_known (ws := lw_tbl) (C := RX3) (T := TX3) (N := 4) (n := 4) (args := #[]) (fun w h => hts w h #[]) (fun w h => (cl_X3.1 w h).1) (hts _ (List.mem_append_right _ (List.mem_of_getElem? (i := 152) (by decide +kernel))) #[])
  obtain ⟨cX4, iX4, kX4⟩ := u_known (ws := lw_tbl) (C := RX4) (T := TX4) (N := 5) (n := 5) (args := #[]) (fun w h => hts w h #[]) (fun w h => (cl_X4.1 w h).1) (hts _ (List.mem_append_right _ (List.mem_of_getElem? (i := 103) (by decide +kernel))) #[])
  obtain ⟨cX5, iX5, kX5⟩ := u_known (ws := lw_tbl) (C := RX5) (T := TX5) (N := 8) (n := 8) (args := #[]) (fun w h => hts w h #[]) (fun w h => (cl_X5.1 w h).1) (hts _ (List.mem_append_right _ (List.mem_of_getElem? (i := 287) (by decide +kernel))) #[])
  obtain ⟨cX6, iX6, kX6⟩ := u_known (ws := lw_tbl) (C := RX6) (T := TX6) (N := 3) (n := 3) (args := #[]) (fun w h => hts w h #[]) (fun w h => (cl_X6.1 w h).1) (hts _ (List.mem_append_right _ (List.mem_of_getElem? (i := 57) (by decide +kernel))) #[])
  obtain ⟨cX7, iX7, kX7⟩ := u_known (ws := lw_tbl) (C := RX7) (T := TX7) (N := 6) (n := 6) (args := #[]) (fun w h => hts w h #[]) (fun w h => (cl_X7.1 w h).1) (hts _ (List.mem_append_right _ (List.mem_of_getElem? (i := 35) (by decide +kernel))) #[])
  obtain ⟨cX8, iX8, kX8⟩ := u_known (ws := lw_tbl) (C := RX8) (T := TX8) (N := 36) (n := 36) (args := #[]) (fun w h => hts w h #[]) (fun w h => (cl_X8.1 w h).1) (hts _ (List.mem_append_right _ (List.mem_of_getElem? (i := 1184) (by decide +kernel))) #[])
  obtain ⟨cJx4a65c, iJx4a65c, kJx4a65c⟩ := u_known (ws := lw_tbl) (C := RJx4a65c) (T := TJx4a65c) (N := 3) (n := 3) (args := #[]) (fun w h => hts w h #[]) (fun w h => (cl_Jx4a65c.1 w h).1) (hts _ (List.mem_append_right _ (List.mem_of_getElem? (i := 63) (by decide +kernel))) #[])
  obtain ⟨aB, pB, qB⟩ := arr_B (hts _ ac_B.1 #[])
  obtain ⟨aI, pI, qI⟩ := arr_I (hts _ ac_I.1 #[])
  obtain ⟨aJ, pJ, qJ⟩ := arr_J (hts _ ac_J.1 #[])
  obtain ⟨aZ, pZ, qZ⟩ := arr_Z (hts _ ac_Z.1 #[])
  obtain ⟨aO, pO, qO⟩ := arr_O (hts _ (List.mem_append_right _ (List.mem_of_getElem? (i := 386) (by decide +kernel))) #[])
  refine ⟨(fun k => [cX0, cX2, cX3, cX4, cX5, cX6, cX7, cX8, cJx4a65c].getD k cX0, fun k => [iX0, iX2, iX3, iX4, iX5, iX6, iX7, iX8, iJx4a65c].getD k iX0), fun k => [aB, aI, aJ, aZ, aO].getD k aB, flag_off hfl, hts, fun c q hq => ?_, fun k q hq => ?_⟩
  · match c, hq with
    | 0, hq => cases hq; exact kX0
    | 1, hq => cases hq; exact kX2
    | 2, hq => cases hq; exact kX3
    | 3, hq => cases hq; exact kX4
    | 4, hq => cases hq; exact kX5
    | 5, hq => cases hq; exact kX6
    | 6, hq => cases hq; exact kX7
    | 7, hq => cases hq; exact kX8
    | 8, hq => cases hq; exact kJx4a65c
    | c + 9, hq => simp [clsL] at hq
  · match k, hq with
    | 0, hq => cases hq; exact ⟨pB, qB⟩
    | 1, hq => cases hq; exact ⟨pI, qI⟩
    | 2, hq => cases hq; exact ⟨pJ, qJ⟩
    | 3, hq => cases hq; exact ⟨pZ, qZ⟩
    | 4, hq => cases hq; exact ⟨pO, qO⟩
    | k + 5, hq => simp [tysL] at hq
theorem not9 : ∀ a : Nat, a < s.heap.size → ¬ A9 s a := fun a h q => absurd h (Nat.not_lt.mpr q)
def strX : List (Nat × Nat) := [(50, 399), (61, 446), (74, 482), (84, 527), (225, 560), (97, 591), (102, 647), (232, 682), (121, 725), (129, 770), (135, 803), (138, 844), (140, 884), (227, 935), (238, 981), (172, 1043), (174, 1096), (181, 1140), (198, 1189), (200, 1239), (206, 1297), (215, 1348)]
def strOk : Cond → Bool
  | .stringRef own k _ => own != "PackedGraph" || (match strX.lookup k with
    | some i => decide (NR[i]? = some (.exactly (.string "PackedGraph" k) "java/lang/String"))
    | none => false)
  | _ => true
set_option maxRecDepth 100000 in
theorem strOk_tbl : lw_tbl.all strOk = true := by decide +kernel
theorem glb2_start {D : va_G} {ca : Nat → ClassId} (hts : ∀ w ∈ lw_tbl, ∀ a : Array Value, w.before a s = true) (hn : ∀ w ∈ NR, w.before args s = true) : GLB2 (l, s, D, ca) := by
  refine ⟨vx_Zqof (args := args) (hts _ (List.mem_append_right _ (List.mem_of_getElem? (i := 492) (by decide +kernel))) args) (hts _ (List.mem_append_right _ (List.mem_of_getElem? (i := 11) (by decide +kernel))) args) (hn _ (List.mem_of_getElem? (i := 119) (by decide +kernel))) not9, vx_Zqof (args := args) (hts _ (List.mem_append_right _ (List.mem_of_getElem? (i := 494) (by decide +kernel))) args) (hts _ (List.mem_append_right _ (List.mem_of_getElem? (i := 11) (by decide +kernel))) args) (hn _ (List.mem_of_getElem? (i := 120) (by decide +kernel))) not9, fun own k tx h1 h2 => ?_⟩
  subst h1
  have h3 := List.all_eq_true.mp strOk_tbl _ h2
  unfold strOk at h3
  rw [Bool.or_eq_true] at h3
  rcases h3 with h3 | h3
  · simp at h3
  · split at h3
    · rename_i i hi
      have h4 := hn _ (List.mem_of_getElem? (of_decide_eq_true h3))
      obtain ⟨a, c, cA, kA, q1, -⟩ := Cond.exactly_spec (args := args) (first := s) (o := none) (s := s) (idx := []) h4
      exact ⟨a, vk_R.of (A := args) (hts _ h2 args) q1⟩
    · cases h3
set_option maxRecDepth 100000 in
theorem tblK_nr : ∀ j : Fin 32, NR[81 + j.val]? = some (Cond.eq (.elem (.static "PackedGraph$Lead" "KINDS" "[I") (.int (Int32.ofNat j.val))) (.int (nI (tblK.getD j.val 0)))) := by decide +kernel
set_option maxRecDepth 100000 in
theorem tblL_nr : ∀ j : Fin 32, NR[11 + j.val]? = some (Cond.eq (.elem (.static "PackedGraph$Lead" "LENGTH_BYTES" "[I") (.int (Int32.ofNat j.val))) (.int (nI (tblL.getD j.val 0)))) := by decide +kernel
set_option maxRecDepth 100000 in
theorem tblF_nr : ∀ j : Fin 32, NR[46 + j.val]? = some (Cond.eq (.elem (.static "PackedGraph$Lead" "FIXED_LENGTHS" "[I") (.int (Int32.ofNat j.val))) (.int (nI (tblF.getD j.val 0)))) := by decide +kernel
theorem glb3_start {D : va_G} {ca : Nat → ClassId} (hts : ∀ w ∈ lw_tbl, ∀ a : Array Value, w.before a s = true) (hn : ∀ w ∈ NR, w.before args s = true) : ∃ z : Nat → Nat, GLB3 (l, s, D, ca) z := by
  obtain ⟨t0, e0, m0⟩ := va_Tof (args := args) (tm := .static "PackedGraph" "NO_BYTES" "[B") (ty := .byte) (N := 0) (f := fun _ => .int 0) (A := A9 s) (by decide) (hn _ (List.mem_of_getElem? (i := 114) (by decide +kernel))) (va_eqt (hn _ (List.mem_of_getElem? (i := 115) (by decide +kernel)))) (fun j hj => absurd hj (Nat.not_lt_zero _)) not9
  obtain ⟨t1, e1, m1⟩ := va_Tof (args := args) (tm := .static "PackedGraph" "NO_PARTS" "[I") (ty := .int) (N := 0) (f := fun _ => .int 0) (A := A9 s) (by decide) (hn _ (List.mem_of_getElem? (i := 117) (by decide +kernel))) (va_eqt (hn _ (List.mem_of_getElem? (i := 118) (by decide +kernel)))) (fun j hj => absurd hj (Nat.not_lt_zero _)) not9
  obtain ⟨t2, e2, m2⟩ := va_Tof (args := args) (tm := .static "PackedGraph$Lead" "KINDS" "[I") (ty := .int) (N := 32) (f := fun j => .int (nI (tblK.getD j 0))) (A := A9 s) (by decide) (hn _ (List.mem_of_getElem? (i := 79) (by decide +kernel))) (va_eqt (hn _ (List.mem_of_getElem? (i := 80) (by decide +kernel)))) (fun j hj => va_eqt (hn _ (List.mem_of_getElem? (tblK_nr ⟨j, hj⟩)))) not9
  obtain ⟨t3, e3, m3⟩ := va_Tof (args := args) (tm := .static "PackedGraph$Lead" "LENGTH_BYTES" "[I") (ty := .int) (N := 32) (f := fun j => .int (nI (tblL.getD j 0))) (A := A9 s) (by decide) (hn _ (List.mem_of_getElem? (i := 9) (by decide +kernel))) (va_eqt (hn _ (List.mem_of_getElem? (i := 10) (by decide +kernel)))) (fun j hj => va_eqt (hn _ (List.mem_of_getElem? (tblL_nr ⟨j, hj⟩)))) not9
  obtain ⟨t4, e4, m4⟩ := va_Tof (args := args) (tm := .static "PackedGraph$Lead" "FIXED_LENGTHS" "[I") (ty := .int) (N := 32) (f := fun j => .int (nI (tblF.getD j 0))) (A := A9 s) (by decide) (hn _ (List.mem_of_getElem? (i := 44) (by decide +kernel))) (va_eqt (hn _ (List.mem_of_getElem? (i := 45) (by decide +kernel)))) (fun j hj => va_eqt (hn _ (List.mem_of_getElem? (tblF_nr ⟨j, hj⟩)))) not9
  obtain ⟨t5, e5, m5⟩ := va_Tof (args := args) (tm := .static "java/util/ArrayList" "DEFAULTCAPACITY_EMPTY_ELEMENTDATA" "[Ljava/lang/Object;") (ty := (.object "java/lang/Object")) (N := 0) (f := fun _ => .null) (A := A9 s) (by decide) (hn _ (List.mem_of_getElem? (i := 5) (by decide +kernel))) (va_eqt (hn _ (List.mem_of_getElem? (i := 7) (by decide +kernel)))) (fun j hj => absurd hj (Nat.not_lt_zero _)) not9
  obtain ⟨t6, m6⟩ := va_Mi.of (args := args) (C := "[Ljava/lang/Object;") (hn _ (List.mem_of_getElem? (i := 391) (by decide +kernel)))
  refine ⟨fun k => [t0, t1, t2, t3, t4, t5, t6].getD k 0, ⟨va_Zof (args := args) (hts _ (List.mem_append_right _ (List.mem_of_getElem? (i := 281) (by decide +kernel))) args) (hts _ (List.mem_append_right _ (List.mem_of_getElem? (i := 1) (by decide +kernel))) args) e0 not9, m0⟩, ⟨va_Zof (args := args) (hts _ (List.mem_append_right _ (List.mem_of_getElem? (i := 293) (by decide +kernel))) args) (hts _ (List.mem_append_right _ (List.mem_of_getElem? (i := 1) (by decide +kernel))) args) e1 not9, m1⟩, ⟨va_Zof (args := args) (hts _ (List.mem_append_right _ (List.mem_of_getElem? (i := 248) (by decide +kernel))) args) (hts _ (List.mem_append_right _ (List.mem_of_getElem? (i := 8) (by decide +kernel))) args) e2 not9, m2⟩, ⟨va_Zof (args := args) (hts _ (List.mem_append_right _ (List.mem_of_getElem? (i := 239) (by decide +kernel))) args) (hts _ (List.mem_append_right _ (List.mem_of_getElem? (i := 8) (by decide +kernel))) args) e3 not9, m3⟩, ⟨va_Zof (args := args) (hts _ (List.mem_append_right _ (List.mem_of_getElem? (i := 241) (by decide +kernel))) args) (hts _ (List.mem_append_right _ (List.mem_of_getElem? (i := 8) (by decide +kernel))) args) e4 not9, m4⟩, ⟨va_Zof (args := args) (hts _ (List.mem_append_right _ (List.mem_of_getElem? (i := 75) (by decide +kernel))) args) (hts _ (List.mem_append_right _ (List.mem_of_getElem? (i := 6) (by decide +kernel))) args) e5 not9, m5⟩, m6⟩
theorem glb4_start {D : va_G} {ca : Nat → ClassId} (hn : ∀ w ∈ NR, w.before args s = true) : GLB4 (l, s, D, ca) := by
  intro E hE T hT hne
  simp only [exL, List.mem_cons, List.not_mem_nil, or_false] at hE hT
  rcases hE with rfl | rfl | rfl | rfl
  · rcases hT with rfl | rfl | rfl | rfl
    · exact absurd rfl hne
    · exact va_Nc.of (args := args) (hn _ (List.mem_of_getElem? (i := 360) (by decide +kernel)))
    · exact va_Nc.of (args := args) (hn _ (List.mem_of_getElem? (i := 345) (by decide +kernel)))
    · exact va_Nc.of (args := args) (hn _ (List.mem_of_getElem? (i := 390) (by decide +kernel)))
  · rcases hT with rfl | rfl | rfl | rfl
    · exact va_Nc.of (args := args) (hn _ (List.mem_of_getElem? (i := 371) (by decide +kernel)))
    · exact absurd rfl hne
    · exact va_Nc.of (args := args) (hn _ (List.mem_of_getElem? (i := 340) (by decide +kernel)))
    · exact va_Nc.of (args := args) (hn _ (List.mem_of_getElem? (i := 385) (by decide +kernel)))
  · rcases hT with rfl | rfl | rfl | rfl
    · exact va_Nc.of (args := args) (hn _ (List.mem_of_getElem? (i := 370) (by decide +kernel)))
    · exact va_Nc.of (args := args) (hn _ (List.mem_of_getElem? (i := 355) (by decide +kernel)))
    · exact absurd rfl hne
    · exact va_Nc.of (args := args) (hn _ (List.mem_of_getElem? (i := 384) (by decide +kernel)))
  · rcases hT with rfl | rfl | rfl | rfl
    · exact va_Nc.of (args := args) (hn _ (List.mem_of_getElem? (i := 375) (by decide +kernel)))
    · exact va_Nc.of (args := args) (hn _ (List.mem_of_getElem? (i := 361) (by decide +kernel)))
    · exact va_Nc.of (args := args) (hn _ (List.mem_of_getElem? (i := 346) (by decide +kernel)))
    · exact absurd rfl hne
end

/-! the law: methods with a table of handlers, the script, the numbers of the room -/
def exL : List String := [exI, exA, exU, exM]
/-- none of the four is another of them -/
def GLB4 (g : GT) : Prop := ∀ E ∈ exL, ∀ T ∈ exL, E ≠ T → va_Nc E T g.2.1
def CtrH (g : GT) (M : MD) (hh : List (Nat × Nat × Nat × Nat)) (d mc ms : Nat) (av : List Value) (pre : List Asn) (po : PoT) (px : PxT) : Prop :=
  ∀ F : Asn, vx_Met g.1 M.1 [.codeWith M.1 M.2.1 M.2.2.1 M.2.2.2 hh] (rmD d mc ms) (PcO g av pre F) (QcO g po F) (XcO g px F) mc ms (A9 g.2.1)
theorem ctrH_intro {g : GT} {M : MD} {hh : List (Nat × Nat × Nat × Nat)} {d mc ms : Nat} {av : List Value} {pre : List Asn} {po : PoT} {px : PxT} (hG : GLB g) (hy : plainName M.1.cls = true) (hlen : (lg_sl av).length ≤ M.2.2.1)
    (body : ∀ (X : XT) (F : Asn), X.1 = g → JE X M.1.cls M.2.1 M.2.2.1 d mc ms → JB X M.2.2.2 po px F mc ms → X.2.2.2.2.2.2.2.2.2.1.exceptionTable.toList = tableOf hh → J X M.2.2.1 (pre ++ [F]) 0 0 0 (lE av M.2.2.1) []) : CtrH g M hh d mc ms av pre po px := by
  intro F
  refine vx_ofWH (cc := M.2.1) (maxL := M.2.2.1) (ret := M.2.2.2) (hh := hh) hy rfl ?_
  intro p e s m args below meth c s₁ B hml hv
  obtain ⟨rfl, hwm, hold, hw⟩ := hv
  have hown : s.vm.findClass M.1.cls = some m.cls := findClass_of_methodNamed B.named
  have ht := vx_table (x := M.1) B (atoms_spec (ws := [Cond.codeWith M.1 M.2.1 M.2.2.1 M.2.2.2 hh]) B.pre _ List.mem_cons_self)
  rw [lg_entry_eq]
  exact body (g, p, e, rmD d mc ms, s, m, av.toArray, below, meth, c, _) F rfl ⟨B.exec, B.bytes, hml, hown, hwm, hold, B.notSynchronized, hG, Nat.le_refl _, Nat.le_refl _, Nat.le_refl _, Nat.le_refl _⟩ ⟨B.returns, rfl⟩ ht s.heap [] _ va_S.rf hw (lE_has (lv_entry av hlen))
def CSH (own : String) (index : Nat) (M : MD) (hh : List (Nat × Nat × Nat × Nat)) (na : Nat) : Prop := (W9 (.initialized M.1.cls) ∧ W9 (.codeWith M.1 M.2.1 M.2.2.1 M.2.2.2 hh) ∧ (M.1.cls ≠ "java/lang/invoke/MethodHandle" ∧ M.1.cls ≠ "java/lang/invoke/VarHandle") ∧ (parseMethodDescriptor M.1.desc).map (fun d => d.parameters.length) = some na ∧ M.2.2.1 ≤ 27) ∧ W9 (.methodLink own index M.1) ∧ W9 (.static M.1)
theorem cast_exI : Cond.castable exI exI ∈ lw_tbl ∧ w8 (Cond.castable exI exI) = true := ⟨List.mem_append_right _ (List.mem_of_getElem? (i := 873) (by decide +kernel)), by decide +kernel⟩
theorem cast_exA : Cond.castable exA exA ∈ lw_tbl ∧ w8 (Cond.castable exA exA) = true := ⟨List.mem_append_right _ (List.mem_of_getElem? (i := 467) (by decide +kernel)), by decide +kernel⟩
theorem cast_exU : Cond.castable exU exU ∈ lw_tbl ∧ w8 (Cond.castable exU exU) = true := ⟨List.mem_append_right _ (List.mem_of_getElem? (i := 815) (by decide +kernel)), by decide +kernel⟩
theorem cast_exM : Cond.castable exM exM ∈ lw_tbl ∧ w8 (Cond.castable exM exM) = true := ⟨List.mem_append_right _ (List.mem_of_getElem? (i := 1136) (by decide +kernel)), by decide +kernel⟩
theorem cast_ex {E : String} (h : E ∈ exL) : Cond.castable E E ∈ lw_tbl ∧ w8 (Cond.castable E E) = true := by
  rcases List.mem_cons.mp h with rfl | h
  · exact cast_exI
  rcases List.mem_cons.mp h with rfl | h
  · exact cast_exA
  rcases List.mem_cons.mp h with rfl | h
  · exact cast_exU
  · rw [List.mem_singleton.mp h]
    exact cast_exM
theorem in_exI : exI ∈ exL := List.mem_cons_self
theorem in_exA : exA ∈ exL := List.mem_cons_of_mem _ List.mem_cons_self
theorem in_exU : exU ∈ exL := List.mem_cons_of_mem _ (List.mem_cons_of_mem _ List.mem_cons_self)
theorem in_exM : exM ∈ exL := List.mem_cons_of_mem _ (List.mem_cons_of_mem _ (List.mem_cons_of_mem _ List.mem_cons_self))
theorem cl_13 : W9 (.classLink RL 13 exU) := ⟨List.mem_append_right _ (List.mem_of_getElem? (i := 806) (by decide +kernel)), by decide +kernel⟩
theorem cl_19 : W9 (.classLink RL 19 exA) := ⟨List.mem_append_right _ (List.mem_of_getElem? (i := 837) (by decide +kernel)), by decide +kernel⟩
theorem cl_25 : W9 (.classLink RL 25 exI) := ⟨List.mem_append_right _ (List.mem_of_getElem? (i := 848) (by decide +kernel)), by decide +kernel⟩
theorem cl_79 : W9 (.classLink RL 79 exM) := ⟨List.mem_append_right _ (List.mem_of_getElem? (i := 1124) (by decide +kernel)), by decide +kernel⟩
section JCH
variable {X : XT} {own : String} {cc : ByteArray} {nL d mc ms : Nat} {ws fr pre : List Asn} {k n pc : Nat} {lv : List (Option Value)} {st rest : List Value} {M : MD} {d1 mc1 ms1 na index : Nat} {As : List Value} {po : PoT}
theorem j_callSH (E : JE X own cc nL d mc ms) {hh : List (Nat × Nat × Nat × Nat)} (K : CtrH X.1 M hh d1 mc1 ms1 As pre po noX) (pc' : Nat) (hd : decode cc pc = .ok (.invokestatic index, 3)) (cv : CSH own index M hh na) (hna : As.length = na) (hst : st = As.reverse ++ rest) (sel : Sel ws pre fr) (hd1 : d1 + 1 ≤ d) (hmc : k + mc1 ≤ mc) (hms : n + ms1 ≤ ms) (hrest : (rest.map fun v => v.category).sum ≤ 8) (hpc : pc + 3 = pc')
    (kk : ∀ r dc ds ws', po r dc ds ws' → J X nL (ws' ++ fr) (k + dc) (n + ds) pc' lv (r.toList ++ rest)) : J X nL ws k n pc lv st := by
  obtain ⟨⟨l, s0, D, ca⟩, p, e, R, s, m, args, below, meth, c, Q⟩ := X
  obtain ⟨hx, hb, hml, hown, hwm, hold, hlocks, hG, hfr, hlo, hrc, hrs⟩ := E
  subst hpc
  obtain ⟨⟨g1, g2, g3, g4, g5⟩, hl1, hs1⟩ := cv
  intro H locs ls hS hw hls
  have hH : Old s0 H := hold.S hS
  have hpk : Wld s0 D (pre ++ [sepL fr]) H := hw.mono fun w h => sepL_pack (sel w h)
  have cw : vx_CSW R s args own index M.1 M.2.1 M.2.2.1 M.2.2.2 hh [.codeWith M.1 M.2.1 M.2.2.1 M.2.2.2 hh] (rmD d1 mc1 ms1) mc1 ms1 na := by
    refine ⟨⟨rfl, rfl, by show d1 + 1 ≤ _; omega, by show 8 + (M.2.2.1 + 11) + 46 * d1 ≤ _; omega, ?_, List.mem_cons_self⟩, hG.word hwm g2 _, hG.word hwm g1 _, g3, fun sig h => ?_, hG.word hwm hl1 _, hG.word hwm hs1 _⟩
    · intro w hw a' U hU
      rcases List.mem_singleton.mp hw with rfl
      exact hG.word (hwm.trans hU) g2 _
    · rw [h] at g4
      exact (Option.some.inj g4).symm
  refine run_J (px := noX) (vx_runSX (rest := rest) (As := As) (nL := nL) (Ts := []) ⟨hx, hb, hml, hown, fun _ h => absurd h List.not_mem_nil⟩ (K (sepL fr)) cw ⟨PcO_blind, fun U hU hW => ⟨rfl, hwm.trans hW, by rw [hU]; exact hH, by rw [hU]; exact hpk⟩⟩ rfl hna hls.1 hst (lv_room hrest) hd ⟨Nat.le_trans hmc hrc, Nat.le_trans hms hrs⟩) hS ?_ (fun _ _ _ _ h => h.elim)
  intro r dc ds ws' hpo H1 locs1 hS1 hw1
  exact kk r dc ds ws' hpo H1 locs1 ls hS1 hw1 hls
/-- caught by a row of the table; the rows ahead of it name others -/
theorem jx_catch (E : JE X own cc nL d mc ms) (h4 : GLB4 X.1) {En : String} {hh : List (Nat × Nat × Nat × Nat)} (hT : X.2.2.2.2.2.2.2.2.2.1.exceptionTable.toList = tableOf hh) (p1 : List (Nat × Nat × Nat × Nat)) (lo hi hp ct : Nat) (p2 : List (Nat × Nat × Nat × Nat)) (hsp : hh = p1 ++ (lo, hi, hp, ct) :: p2) (hps : ∀ z ∈ p1, z.2.2.2 ≠ 0 ∧ ∃ nm ∈ exL, W9 (.classLink own z.2.2.2 nm) ∧ En ≠ nm) (hEn : En ∈ exL) (hcov : covers ⟨lo, hi, hp, ct⟩ pc = true) (hct : ct ≠ 0) (hl : W9 (.classLink own ct En)) (kk : ∀ q : Nat, J X nL ws k n hp lv [.ref q]) : JX X nL ws k n pc lv En := by
  obtain ⟨⟨l, s0, D, ca⟩, p, e, R, s, m, args, below, meth, c, Q⟩ := X
  obtain ⟨hx, hb, hml, hown, hwm, hold, hlocks, hG, hfr, hlo, hrc, hrs⟩ := E
  intro H locs ls q ce rest hS hw hls h1 h2 h3
  subst hsp
  refine vx_catch hown (tableOf p1) ⟨lo, hi, hp, ct⟩ (tableOf p2) (by rw [hT]; simp [tableOf]) (fun z hz => ?_) hcov hct (hG.word hwm hl _) (hG.word8 hwm (cast_ex hEn).1 (cast_ex hEn).2 _) h1 h2 h3 (kk q H locs ls hS hw hls)
  obtain ⟨y, hy, rfl⟩ := List.mem_map.mp hz
  obtain ⟨e1, nm, hnm, e2, e3⟩ := hps y hy
  exact Or.inr ⟨e1, nm, hG.word hwm e2 _, (h4 En hEn nm hnm e3).moved hwm.alike⟩
/-- an int of the script -/
theorem j_scr (E : JE X own cc nL d mc ms) {b i L : Nat} {xs : Nat → Int32} (hT : OT X.1 .int b L (fun j => .int (xs j))) (pc' j : Nat) {z : Int} (d0 : decode cc pc = .ok (.aload_n 0, 1)) (d1 : decode cc (pc + 1) = .ok (.iload 4, 2)) (d3 : decode cc (pc + 3) = .ok (.iconst z, 1)) (d4 : decode cc (pc + 4) = .ok (.iadd, 1)) (d5 : decode cc (pc + 5) = .ok (.iaload, 1)) (hz : Int32.ofInt z = nI j) (hp : pc + 6 = pc') (h0 : lv[0]? = some (some (.ref b))) (h4 : lv[4]? = some (some (.int (nI i)))) (hi : i + j < L) (hL : L ≤ 384) (kk : J X nL ws k n pc' lv (.int (xs (i + j)) :: st)) : J X nL ws k n pc lv st := by
  subst hp
  refine j_aload_n E (pc + 1) d0 0 rfl h0 rfl ?_
  refine j_iload E (pc + 3) d1 h4 rfl ?_
  refine j_iconst E (nI j) (pc + 4) d3 hz rfl ?_
  refine j_iadd E (pc + 5) d4 rfl ?_
  refine j_eqi (nI_add i j) ?_
  exact j_ti E (pc + 6) d5 hT (vp_in_nI hi (by omega)) (by rw [nI_clamp (by omega)]) rfl kk
/-- an int that isn't 0, as a truth -/
theorem j_ne0 (E : JE X own cc nL d mc ms) (pc' : Nat) {x : Int32} {y : Bool} (hy : y = decide (¬ x = 0)) (d0 : decode cc pc = .ok (.ifCond .eq 7, 3)) (d3 : decode cc (pc + 3) = .ok (.iconst 1, 1)) (d4 : decode cc (pc + 4) = .ok (.goto 4, 3)) (d7 : decode cc (pc + 7) = .ok (.iconst 0, 1)) (hp : pc + 8 = pc') (kk : J X nL ws k n pc' lv (.int (bI y) :: st)) : J X nL ws k n pc lv (.int x :: st) := by
  subst hp
  subst hy
  refine j_if_eq E (pc + 7) (pc + 3) d0 (by omega) rfl (fun h => ?_) (fun h => ?_)
  · rw [show bI (decide (¬ x = 0)) = 0 by rw [h]; rfl] at kk
    exact j_iconst E 0 (pc + 8) d7 (by decide) rfl kk
  · rw [show bI (decide (¬ x = 0)) = 1 by rw [decide_eq_true h]; rfl] at kk
    refine j_iconst E 1 (pc + 4) d3 (by decide) rfl ?_
    exact j_goto E (pc + 8) d4 (by omega) kk
end JCH
/-! what a call of a wrapper leaves -/
def wpo (g : GT) (z : Nat → Nat) (x ob P Q L M N : Nat) (T : Nat × AS) (v : Int64) : PoT := fun o dc ds ws' => ∃ (P' Q' : Nat) (f' : Nat → Int64), o = some (.int (nI T.1)) ∧ T.1 ≤ 3 ∧ (T.1 = 0 → f' 0 = v) ∧ ws' = [PGA g z x T.2 P' Q', pt ob (aJ g 1 f')] ∧ BND P Q P' Q' L dc ds M N
def wpoE (g : GT) (z : Nat → Nat) (x P Q L M N : Nat) (T : Nat × AS) : PoT := fun o dc ds ws' => ∃ (P' Q' : Nat), o = some (.int (nI T.1)) ∧ T.1 ≤ 3 ∧ ws' = [PGA g z x T.2 P' Q'] ∧ BND P Q P' Q' L dc ds M N
theorem clamp0 : Int32.toNatClampNeg 0 = 0 := by decide
theorem vp_in01 : vp_in 0 1 := by unfold vp_in; decide
theorem out_at (f : Nat → Int64) (v : Int64) : vp_updL f (Int32.toNatClampNeg 0) v 0 = v := if_pos (by decide)
/-- capacities of the object's rows -/
theorem pga_know {X : XT} {z : Nat → Nat} {x P Q : Nat} {S : AS} : ∀ w, PGA X.1 z x S P Q w → AOk S ∧ P ≤ 9100000 ∧ Q ≤ 1500000 := by
  rintro w ⟨tp, vl, rd, ld, gr, e, ou, p1, m1, lf, p2, m2, rt, p3, m3, capT, capV, capG, c1, k1, c2, k2, c3, k3, b2, b3, vs, ⟨h1, -, -, h2, h3⟩, h4⟩
  obtain ⟨t, us, np, nb, out, cd, pl⟩ := S
  have h5 := pgl_know (X := X) (L := []) w h4
  refine ⟨h1, ?_, ?_⟩ <;> omega
/-! the tape grows by twenty bytes at most -/
def LNt (S : AS) (T : AS) : Prop := T.1.length ≤ S.1.length + 20
theorem ln_refl (S : AS) : LNt S S := Nat.le_add_right _ _
theorem ln_keep {S : AS} {kd cde : Nat} {nm : Int64} {dt : Int32} : LNt S (sKeep kd nm dt cde S).2.2 := by
  unfold sKeep
  split <;> exact Nat.le_add_right _ _
theorem ln_tape {S : AS} {kd : Nat} {dt : Int32} : LNt S (sTape kd dt S).2.2 := by
  unfold sTape
  split
  · exact Nat.zero_le _
  · exact Nat.le_add_right _ _
theorem ln_feed {a b c d e : Int32} {S : AS} : LNt S (sFeed a b c d e S).2.2 := by
  unfold sFeed
  split
  · show (S.1 ++ _).length ≤ S.1.length + 20
    rw [List.length_append, List.length_append, List.length_append, List.length_append, List.length_append, beB_len, beB_len, beB_len, beB_len, beB_len]
    omega
  · exact Nat.le_add_right _ _
theorem ln_end {n : Int32} {S : AS} : LNt S (sEnd n S).2.2 := by
  unfold sEnd
  split
  · show (S.1.take _).length ≤ S.1.length + 20
    rw [List.length_take]
    omega
  · exact Nat.le_add_right _ _
theorem ln_unpack {S : AS} : LNt S (sUnpack S).2.2 := by
  unfold sUnpack
  split <;> exact Nat.zero_le _
theorem ln_fault {w : Int32} {S : AS} : LNt S (sFault w S).2.2 := by
  unfold sFault
  split
  · exact ln_refl S
  split
  · exact ln_refl S
  · exact ln_refl S
theorem ln_skip {w : Int32} {S : AS} : LNt S (sSkip w S).2.2 := by
  unfold sSkip
  split <;> exact ln_refl S
theorem ln_pack {v : Int32} {S : AS} : LNt S (sPack v S).2.2 := by
  unfold sPack
  split
  · split <;> exact Nat.le_add_right _ _
  · exact ln_refl S
theorem ln_shown {v : Int32} {S : AS} : LNt S (sShown v S).2.2 := by
  unfold sShown
  split <;> exact ln_refl S
theorem ln_nil {S : AS} : LNt S (sKeep 0 0 0 1 S).2.2 := ln_keep
theorem ln_truth {b : Bool} {S : AS} : LNt S (sKeep 1 0 (bI b) 1 S).2.2 := ln_keep
theorem ln_integer {v : Int64} {hb : Bool} {S : AS} : LNt S (sKeep 2 v (if hb = true ∧ v < 0 then 1 else 0) 1 S).2.2 := ln_keep
theorem ln_real {v : Int64} {hb : Bool} {S : AS} : LNt S (if hb = true then sKeep 4 v 0 1 S else sKeep 3 (v &&& 4294967295) 0 1 S).2.2 := by
  split <;> exact ln_keep
theorem ln_row {v : Int32} {S : AS} : LNt S (sRow v S).2.2 := by
  unfold sRow
  split
  · exact ln_tape
  split
  · exact ln_tape
  · exact ln_refl S
theorem ln_extension {v : Int32} {S : AS} : LNt S (sExt v S).2.2 := by
  unfold sExt
  split
  · exact ln_refl S
  · exact ln_tape
theorem ln_time {v : Int64} {na : Int32} {S : AS} : LNt S (sTime v na S).2.2 := by
  unfold sTime
  split
  · exact ln_refl S
  · exact ln_keep
theorem ln_group {v : Int32} {S : AS} : LNt S (sGroup v S).2.2 := by
  unfold sGroup
  split
  · exact ln_keep
  split
  · exact ln_keep
  · exact ln_refl S
theorem ln_add {l v : Int32} {S : AS} : LNt S (sAdd l v S).2.2 := by
  unfold sAdd
  split
  · exact ln_refl S
  split
  · exact ln_refl S
  split
  · exact ln_refl S
  · exact Nat.le_add_right _ _
theorem ln_put {l c v : Int32} {S : AS} : LNt S (sPut l c v S).2.2 := by
  unfold sPut
  split
  · exact ln_refl S
  split
  · exact ln_refl S
  split
  · exact ln_refl S
  · exact Nat.le_add_right _ _
theorem ln_about {v w : Int32} {S : AS} : LNt S (sAbout v w S).2.2 := by
  unfold sAbout
  split
  · exact ln_refl S
  split
  · exact ln_refl S
  split
  · exact ln_refl S
  split
  · exact ln_refl S
  split <;> exact ln_refl S
theorem ln_number {v : Int32} {S : AS} : LNt S (sNumber v S).2.2 := by
  unfold sNumber
  split
  · exact ln_refl S
  split
  · exact ln_refl S
  split <;> exact ln_refl S
theorem ln_part {v i : Int32} {S : AS} : LNt S (sPart v i S).2.2 := by
  unfold sPart
  split
  · exact ln_refl S
  split
  · exact ln_refl S
  split <;> exact ln_refl S
theorem ln_same {a b : Int32} {S : AS} : LNt S (sSame a b S).2.2 := by
  unfold sSame
  split
  · exact ln_refl S
  split
  · exact ln_refl S
  split <;> exact ln_refl S
theorem ln_find {m c : Int32} {S : AS} : LNt S (sFind m c S).2.2 := by
  unfold sFind
  split
  · exact ln_refl S
  split
  · exact ln_refl S
  split <;> exact ln_refl S
theorem ln_count {w : Int32} {S : AS} : LNt S (sCount w S).2.2 := by
  unfold sCount
  split
  · exact ln_refl S
  split
  · exact ln_refl S
  split
  · exact ln_refl S
  split
  · exact ln_refl S
  split <;> exact ln_refl S
theorem ln_clear {S : AS} : LNt S (sClear S).2.2 := ln_refl S
/-- the room after c calls -/
def RMC (c L P Q pm k n : Nat) : Prop := L ≤ 20 * c ∧ pm ≤ 3001 * c ∧ 320 * k ≤ P + 13120 + 1027200 * c ∧ n ≤ Q + 370074 + 76880 * c
theorem ls_step {c L P Q pm k n P' Q' L' dc ds M N : Nat} (h : RMC c L P Q pm k n) (hc : c < 64) (hb : BND P Q P' Q' L dc ds M N) (hl : L' ≤ L + 20) : RMC (c + 1) L' P' Q' (pm + 3001) (k + dc) (n + ds) := by
  obtain ⟨a1, a2, a3, a4⟩ := h
  obtain ⟨b1, b2, -, -⟩ := hb
  exact ⟨by omega, by omega, by omega, by omega⟩
theorem wi_L : W9 (.initialized "PackedGraphLaw") := ⟨List.mem_append_right _ (List.mem_of_getElem? (i := 0) (by decide +kernel)), by decide +kernel⟩
abbrev hL_feed : List (Nat × Nat × Nat × Nat) := [(0, 16, 19, 13)]
theorem sv_L_feed : CSH RL 98 mL_feed hL_feed 7 := ⟨⟨wi_L, ⟨List.mem_append_right _ (List.mem_of_getElem? (i := 805) (by decide +kernel)), by decide +kernel⟩, by decide, by decide +kernel, by decide⟩, ⟨List.mem_append_right _ (List.mem_of_getElem? (i := 803) (by decide +kernel)), by decide +kernel⟩, ⟨List.mem_append_right _ (List.mem_of_getElem? (i := 804) (by decide +kernel)), by decide +kernel⟩⟩
abbrev hL_end : List (Nat × Nat × Nat × Nat) := [(0, 5, 8, 19)]
theorem sv_L_end : CSH RL 107 mL_end hL_end 2 := ⟨⟨wi_L, ⟨List.mem_append_right _ (List.mem_of_getElem? (i := 836) (by decide +kernel)), by decide +kernel⟩, by decide, by decide +kernel, by decide⟩, ⟨List.mem_append_right _ (List.mem_of_getElem? (i := 834) (by decide +kernel)), by decide +kernel⟩, ⟨List.mem_append_right _ (List.mem_of_getElem? (i := 835) (by decide +kernel)), by decide +kernel⟩⟩
abbrev hL_fault : List (Nat × Nat × Nat × Nat) := [(0, 9, 12, 25)]
theorem sv_L_fault : CSH RL 115 mL_fault hL_fault 3 := ⟨⟨wi_L, ⟨List.mem_append_right _ (List.mem_of_getElem? (i := 847) (by decide +kernel)), by decide +kernel⟩, by decide, by decide +kernel, by decide⟩, ⟨List.mem_append_right _ (List.mem_of_getElem? (i := 845) (by decide +kernel)), by decide +kernel⟩, ⟨List.mem_append_right _ (List.mem_of_getElem? (i := 846) (by decide +kernel)), by decide +kernel⟩⟩
abbrev hL_skip : List (Nat × Nat × Nat × Nat) := [(0, 9, 12, 25)]
theorem sv_L_skip : CSH RL 119 mL_skip hL_skip 3 := ⟨⟨wi_L, ⟨List.mem_append_right _ (List.mem_of_getElem? (i := 886) (by decide +kernel)), by decide +kernel⟩, by decide, by decide +kernel, by decide⟩, ⟨List.mem_append_right _ (List.mem_of_getElem? (i := 884) (by decide +kernel)), by decide +kernel⟩, ⟨List.mem_append_right _ (List.mem_of_getElem? (i := 885) (by decide +kernel)), by decide +kernel⟩⟩
abbrev hL_pack : List (Nat × Nat × Nat × Nat) := [(0, 9, 12, 25), (0, 9, 15, 13)]
theorem sv_L_pack : CSH RL 122 mL_pack hL_pack 3 := ⟨⟨wi_L, ⟨List.mem_append_right _ (List.mem_of_getElem? (i := 900) (by decide +kernel)), by decide +kernel⟩, by decide, by decide +kernel, by decide⟩, ⟨List.mem_append_right _ (List.mem_of_getElem? (i := 898) (by decide +kernel)), by decide +kernel⟩, ⟨List.mem_append_right _ (List.mem_of_getElem? (i := 899) (by decide +kernel)), by decide +kernel⟩⟩
abbrev hL_shown : List (Nat × Nat × Nat × Nat) := [(0, 9, 12, 25)]
theorem sv_L_shown : CSH RL 125 mL_shown hL_shown 3 := ⟨⟨wi_L, ⟨List.mem_append_right _ (List.mem_of_getElem? (i := 999) (by decide +kernel)), by decide +kernel⟩, by decide, by decide +kernel, by decide⟩, ⟨List.mem_append_right _ (List.mem_of_getElem? (i := 997) (by decide +kernel)), by decide +kernel⟩, ⟨List.mem_append_right _ (List.mem_of_getElem? (i := 998) (by decide +kernel)), by decide +kernel⟩⟩
abbrev hL_nil : List (Nat × Nat × Nat × Nat) := [(0, 8, 11, 13)]
theorem sv_L_nil : CSH RL 128 mL_nil hL_nil 2 := ⟨⟨wi_L, ⟨List.mem_append_right _ (List.mem_of_getElem? (i := 1008) (by decide +kernel)), by decide +kernel⟩, by decide, by decide +kernel, by decide⟩, ⟨List.mem_append_right _ (List.mem_of_getElem? (i := 1006) (by decide +kernel)), by decide +kernel⟩, ⟨List.mem_append_right _ (List.mem_of_getElem? (i := 1007) (by decide +kernel)), by decide +kernel⟩⟩
abbrev hL_truth : List (Nat × Nat × Nat × Nat) := [(0, 9, 12, 13)]
theorem sv_L_truth : CSH RL 132 mL_truth hL_truth 3 := ⟨⟨wi_L, ⟨List.mem_append_right _ (List.mem_of_getElem? (i := 1023) (by decide +kernel)), by decide +kernel⟩, by decide, by decide +kernel, by decide⟩, ⟨List.mem_append_right _ (List.mem_of_getElem? (i := 1021) (by decide +kernel)), by decide +kernel⟩, ⟨List.mem_append_right _ (List.mem_of_getElem? (i := 1022) (by decide +kernel)), by decide +kernel⟩⟩
abbrev hL_integer : List (Nat × Nat × Nat × Nat) := [(0, 11, 14, 13)]
theorem sv_L_integer : CSH RL 138 mL_integer hL_integer 4 := ⟨⟨wi_L, ⟨List.mem_append_right _ (List.mem_of_getElem? (i := 1030) (by decide +kernel)), by decide +kernel⟩, by decide, by decide +kernel, by decide⟩, ⟨List.mem_append_right _ (List.mem_of_getElem? (i := 1028) (by decide +kernel)), by decide +kernel⟩, ⟨List.mem_append_right _ (List.mem_of_getElem? (i := 1029) (by decide +kernel)), by decide +kernel⟩⟩
abbrev hL_real : List (Nat × Nat × Nat × Nat) := [(0, 11, 14, 13)]
theorem sv_L_real : CSH RL 142 mL_real hL_real 4 := ⟨⟨wi_L, ⟨List.mem_append_right _ (List.mem_of_getElem? (i := 1037) (by decide +kernel)), by decide +kernel⟩, by decide, by decide +kernel, by decide⟩, ⟨List.mem_append_right _ (List.mem_of_getElem? (i := 1035) (by decide +kernel)), by decide +kernel⟩, ⟨List.mem_append_right _ (List.mem_of_getElem? (i := 1036) (by decide +kernel)), by decide +kernel⟩⟩
abbrev hL_row : List (Nat × Nat × Nat × Nat) := [(0, 9, 12, 19), (0, 9, 15, 13)]
theorem sv_L_row : CSH RL 145 mL_row hL_row 3 := ⟨⟨wi_L, ⟨List.mem_append_right _ (List.mem_of_getElem? (i := 1045) (by decide +kernel)), by decide +kernel⟩, by decide, by decide +kernel, by decide⟩, ⟨List.mem_append_right _ (List.mem_of_getElem? (i := 1043) (by decide +kernel)), by decide +kernel⟩, ⟨List.mem_append_right _ (List.mem_of_getElem? (i := 1044) (by decide +kernel)), by decide +kernel⟩⟩
abbrev hL_extension : List (Nat × Nat × Nat × Nat) := [(0, 9, 12, 19), (0, 9, 15, 13)]
theorem sv_L_extension : CSH RL 148 mL_extension hL_extension 3 := ⟨⟨wi_L, ⟨List.mem_append_right _ (List.mem_of_getElem? (i := 1060) (by decide +kernel)), by decide +kernel⟩, by decide, by decide +kernel, by decide⟩, ⟨List.mem_append_right _ (List.mem_of_getElem? (i := 1058) (by decide +kernel)), by decide +kernel⟩, ⟨List.mem_append_right _ (List.mem_of_getElem? (i := 1059) (by decide +kernel)), by decide +kernel⟩⟩
abbrev hL_time : List (Nat × Nat × Nat × Nat) := [(0, 11, 14, 19), (0, 11, 18, 13)]
theorem sv_L_time : CSH RL 151 mL_time hL_time 4 := ⟨⟨wi_L, ⟨List.mem_append_right _ (List.mem_of_getElem? (i := 1068) (by decide +kernel)), by decide +kernel⟩, by decide, by decide +kernel, by decide⟩, ⟨List.mem_append_right _ (List.mem_of_getElem? (i := 1066) (by decide +kernel)), by decide +kernel⟩, ⟨List.mem_append_right _ (List.mem_of_getElem? (i := 1067) (by decide +kernel)), by decide +kernel⟩⟩
abbrev hL_group : List (Nat × Nat × Nat × Nat) := [(0, 9, 12, 19), (0, 9, 15, 13)]
theorem sv_L_group : CSH RL 155 mL_group hL_group 3 := ⟨⟨wi_L, ⟨List.mem_append_right _ (List.mem_of_getElem? (i := 1077) (by decide +kernel)), by decide +kernel⟩, by decide, by decide +kernel, by decide⟩, ⟨List.mem_append_right _ (List.mem_of_getElem? (i := 1075) (by decide +kernel)), by decide +kernel⟩, ⟨List.mem_append_right _ (List.mem_of_getElem? (i := 1076) (by decide +kernel)), by decide +kernel⟩⟩
abbrev hL_add : List (Nat × Nat × Nat × Nat) := [(0, 10, 13, 25), (0, 10, 17, 19), (0, 10, 21, 13)]
theorem sv_L_add : CSH RL 158 mL_add hL_add 4 := ⟨⟨wi_L, ⟨List.mem_append_right _ (List.mem_of_getElem? (i := 1085) (by decide +kernel)), by decide +kernel⟩, by decide, by decide +kernel, by decide⟩, ⟨List.mem_append_right _ (List.mem_of_getElem? (i := 1083) (by decide +kernel)), by decide +kernel⟩, ⟨List.mem_append_right _ (List.mem_of_getElem? (i := 1084) (by decide +kernel)), by decide +kernel⟩⟩
abbrev hL_put : List (Nat × Nat × Nat × Nat) := [(0, 12, 15, 25), (0, 12, 19, 19), (0, 12, 23, 13)]
theorem sv_L_put : CSH RL 162 mL_put hL_put 5 := ⟨⟨wi_L, ⟨List.mem_append_right _ (List.mem_of_getElem? (i := 1107) (by decide +kernel)), by decide +kernel⟩, by decide, by decide +kernel, by decide⟩, ⟨List.mem_append_right _ (List.mem_of_getElem? (i := 1105) (by decide +kernel)), by decide +kernel⟩, ⟨List.mem_append_right _ (List.mem_of_getElem? (i := 1106) (by decide +kernel)), by decide +kernel⟩⟩
abbrev hL_about : List (Nat × Nat × Nat × Nat) := [(0, 10, 13, 25), (0, 10, 17, 19)]
theorem sv_L_about : CSH RL 166 mL_about hL_about 4 := ⟨⟨wi_L, ⟨List.mem_append_right _ (List.mem_of_getElem? (i := 1114) (by decide +kernel)), by decide +kernel⟩, by decide, by decide +kernel, by decide⟩, ⟨List.mem_append_right _ (List.mem_of_getElem? (i := 1112) (by decide +kernel)), by decide +kernel⟩, ⟨List.mem_append_right _ (List.mem_of_getElem? (i := 1113) (by decide +kernel)), by decide +kernel⟩⟩
abbrev hL_number : List (Nat × Nat × Nat × Nat) := [(0, 8, 11, 25), (0, 8, 14, 19), (0, 8, 17, 79)]
theorem sv_L_number : CSH RL 169 mL_number hL_number 3 := ⟨⟨wi_L, ⟨List.mem_append_right _ (List.mem_of_getElem? (i := 1123) (by decide +kernel)), by decide +kernel⟩, by decide, by decide +kernel, by decide⟩, ⟨List.mem_append_right _ (List.mem_of_getElem? (i := 1121) (by decide +kernel)), by decide +kernel⟩, ⟨List.mem_append_right _ (List.mem_of_getElem? (i := 1122) (by decide +kernel)), by decide +kernel⟩⟩
abbrev hL_part : List (Nat × Nat × Nat × Nat) := [(0, 10, 13, 25)]
theorem sv_L_part : CSH RL 172 mL_part hL_part 4 := ⟨⟨wi_L, ⟨List.mem_append_right _ (List.mem_of_getElem? (i := 1149) (by decide +kernel)), by decide +kernel⟩, by decide, by decide +kernel, by decide⟩, ⟨List.mem_append_right _ (List.mem_of_getElem? (i := 1147) (by decide +kernel)), by decide +kernel⟩, ⟨List.mem_append_right _ (List.mem_of_getElem? (i := 1148) (by decide +kernel)), by decide +kernel⟩⟩
abbrev hL_same : List (Nat × Nat × Nat × Nat) := [(0, 17, 20, 25), (0, 17, 24, 13)]
theorem sv_L_same : CSH RL 175 mL_same hL_same 4 := ⟨⟨wi_L, ⟨List.mem_append_right _ (List.mem_of_getElem? (i := 1157) (by decide +kernel)), by decide +kernel⟩, by decide, by decide +kernel, by decide⟩, ⟨List.mem_append_right _ (List.mem_of_getElem? (i := 1155) (by decide +kernel)), by decide +kernel⟩, ⟨List.mem_append_right _ (List.mem_of_getElem? (i := 1156) (by decide +kernel)), by decide +kernel⟩⟩
abbrev hL_find : List (Nat × Nat × Nat × Nat) := [(0, 10, 13, 25), (0, 10, 17, 19), (0, 10, 21, 13)]
theorem sv_L_find : CSH RL 178 mL_find hL_find 4 := ⟨⟨wi_L, ⟨List.mem_append_right _ (List.mem_of_getElem? (i := 1169) (by decide +kernel)), by decide +kernel⟩, by decide, by decide +kernel, by decide⟩, ⟨List.mem_append_right _ (List.mem_of_getElem? (i := 1167) (by decide +kernel)), by decide +kernel⟩, ⟨List.mem_append_right _ (List.mem_of_getElem? (i := 1168) (by decide +kernel)), by decide +kernel⟩⟩
abbrev hL_count : List (Nat × Nat × Nat × Nat) := [(0, 9, 12, 19)]
theorem sv_L_count : CSH RL 181 mL_count hL_count 3 := ⟨⟨wi_L, ⟨List.mem_append_right _ (List.mem_of_getElem? (i := 1177) (by decide +kernel)), by decide +kernel⟩, by decide, by decide +kernel, by decide⟩, ⟨List.mem_append_right _ (List.mem_of_getElem? (i := 1175) (by decide +kernel)), by decide +kernel⟩, ⟨List.mem_append_right _ (List.mem_of_getElem? (i := 1176) (by decide +kernel)), by decide +kernel⟩⟩

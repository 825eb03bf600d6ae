/-! what is given of the start; rows on references; own work -/
/-- the static fields' arrays: 0 NO_BYTES, 1 NO_PARTS, 2 KINDS, 3 LENGTH_BYTES, 4 FIXED_LENGTHS, 5 the empty list's, 6 the class object of Object[] -/
def tblK : List Nat := [0, 4294967295, 1, 1, 6, 6, 6, 9, 9, 9, 3, 4, 2, 2, 2, 2, 2, 2, 2, 2, 9, 9, 9, 9, 9, 5, 5, 5, 7, 7, 8, 8]
def tblL : List Nat := [0, 0, 0, 0, 1, 2, 4, 1, 2, 4, 0, 0, 0, 0, 0, 0, 0, 0, 0, 0, 0, 0, 0, 0, 0, 1, 2, 4, 2, 4, 2, 4]
def tblF : List Nat := [0, 0, 0, 0, 0, 0, 0, 0, 0, 0, 4, 8, 1, 2, 4, 8, 1, 2, 4, 8, 1, 2, 4, 8, 16, 0, 0, 0, 0, 0, 0, 0]
def GLB3 (g : GT) (z : Nat → Nat) : Prop :=
  (va_Z "PackedGraph" "NO_BYTES" "[B" (.ref (z 0)) (A9 g.2.1) g.2.1 g.2.1.heap ∧ OT g .byte (z 0) 0 (fun _ => .int 0)) ∧
  (va_Z "PackedGraph" "NO_PARTS" "[I" (.ref (z 1)) (A9 g.2.1) g.2.1 g.2.1.heap ∧ OT g .int (z 1) 0 (fun _ => .int 0)) ∧
  (va_Z "PackedGraph$Lead" "KINDS" "[I" (.ref (z 2)) (A9 g.2.1) g.2.1 g.2.1.heap ∧ OT g .int (z 2) 32 (fun j => .int (nI (tblK.getD j 0)))) ∧
  (va_Z "PackedGraph$Lead" "LENGTH_BYTES" "[I" (.ref (z 3)) (A9 g.2.1) g.2.1 g.2.1.heap ∧ OT g .int (z 3) 32 (fun j => .int (nI (tblL.getD j 0)))) ∧
  (va_Z "PackedGraph$Lead" "FIXED_LENGTHS" "[I" (.ref (z 4)) (A9 g.2.1) g.2.1 g.2.1.heap ∧ OT g .int (z 4) 32 (fun j => .int (nI (tblF.getD j 0)))) ∧
  (va_Z "java/util/ArrayList" "DEFAULTCAPACITY_EMPTY_ELEMENTDATA" "[Ljava/lang/Object;" (.ref (z 5)) (A9 g.2.1) g.2.1 g.2.1.heap ∧ OT g (.object "java/lang/Object") (z 5) 0 (fun _ => .null)) ∧
  va_Mi "[Ljava/lang/Object;" (z 6) g.2.1
/-- all that is given of the start -/
def GA (g : GT) (z : Nat → Nat) : Prop := GLB g ∧ GLB2 g ∧ GLB3 g z
/-- an object of class ci stands at a -/
def Has (P : Asn) (a ci : Nat) : Prop := ∀ w, P w → ∃ fs : List Value, (a, Sum.inr (ci, fs)) ∈ w
theorem has_rcv {P : Asn} {ws ws1 : List Asn} {a ci : Nat} (hp : Pick ws P ws1) (h : Has P a ci) : Rcv ws a ci := fun w hw => by
  obtain ⟨w1, w2, hq, h1, -⟩ := hp w hw
  obtain ⟨fs, hf⟩ := h w1 h1
  exact ⟨fs, hq.symm.subset (List.mem_append_left _ hf)⟩
theorem castVO : Cond.castable "PackedGraph$Value" "java/lang/Object" ∈ lw_tbl := List.mem_append_right _ (List.mem_of_getElem? (i := 1555) (by decide +kernel))
theorem gc_link : W9 (.methodLink RJ7 86 ⟨"java/lang/Object", "getClass", "()Ljava/lang/Class;"⟩) := ⟨List.mem_append_right _ (List.mem_of_getElem? (i := 362) (by decide +kernel)), by decide +kernel⟩
theorem gc_inst : W9 (.instanceMethod ⟨"java/lang/Object", "getClass", "()Ljava/lang/Class;"⟩) := ⟨List.mem_append_right _ (List.mem_of_getElem? (i := 363) (by decide +kernel)), by decide +kernel⟩
theorem gc_nat : W9 (.native ⟨"java/lang/Object", "getClass", "()Ljava/lang/Class;"⟩) := ⟨List.mem_append_right _ (List.mem_of_getElem? (i := 381) (by decide +kernel)), by decide +kernel⟩
theorem gc_sel : W9 (.selects "[Ljava/lang/Object;" ⟨"java/lang/Object", "getClass", "()Ljava/lang/Class;"⟩ ⟨"java/lang/Object", "getClass", "()Ljava/lang/Class;"⟩) := ⟨List.mem_append_right _ (List.mem_of_getElem? (i := 1563) (by decide +kernel)), by decide +kernel⟩
theorem gc_decl : Cond.declares ⟨"java/lang/Object", "getClass", "()Ljava/lang/Class;"⟩ ∈ lw_tbl := List.mem_append_right _ (List.mem_of_getElem? (i := 1564) (by decide +kernel))
theorem ck_OO : W9 (.classLink RJ7 110 "[Ljava/lang/Object;") := ⟨List.mem_append_right _ (List.mem_of_getElem? (i := 385) (by decide +kernel)), by decide +kernel⟩
theorem ck_O : W9 (.classLink RJ7 2 "java/lang/Object") := ⟨List.mem_append_right _ (List.mem_of_getElem? (i := 387) (by decide +kernel)), by decide +kernel⟩
theorem ck_LO : W9 (.classLink RJx4a65c 7 "java/lang/Object") := ⟨List.mem_append_right _ (List.mem_of_getElem? (i := 395) (by decide +kernel)), by decide +kernel⟩
theorem raO {ca : Nat → ClassId} {D : va_G} {s : State} (h : va_K D clsL (tysL ca) s) : s.vm.findClass "[Ljava/lang/Object;" = some (ca 4) := by
  have h1 := (h.2 4 _ rfl).2
  exact h1.choose_spec.choose_spec.2.2.2
section JRF
variable {X : XT} {own : String} {cc : ByteArray} {nL d mc ms : Nat} {ws ws1 : List Asn} {k n pc : Nat} {lv : List (Option Value)} {st : List Value} {a : Nat}
theorem any_of {g : GT} (hG : GLB g) {s : State} (hwm : g.2.1.WarmedH s.vm) {w : va_W} {H : Heap} (hP : va_P g.2.2.1 clsL w H) {v : Nat} {fs : List Value} (hm : (v, Sum.inr (4, fs)) ∈ w) : va_Any "java/lang/Object" s H v := by
  obtain ⟨q, hq⟩ := List.getElem?_of_mem hm
  refine va_rAny (hG.K hwm) hP hq rfl (fun comp c0 h1 h2 => ?_)
  obtain ⟨c3, c4, e3, e4, hasg⟩ := Cond.castable_spec (hG.word8 hwm castVO (by decide) #[])
  cases Option.some.inj (e3.symm.trans h2)
  cases Option.some.inj (e4.symm.trans h1)
  exact hasg
theorem j_aastV (E : JE X own cc nL d mc ms) {N v : Nat} {f : Nat → Option Nat} {i : Int32} (pc' : Nat) (hd : decode cc pc = .ok (.aastore, 1)) (hp : Pick ws (pt a (aO X.1 N f)) ws1) (hv : Rcv ws v 4) (hin : vp_in i N) (hpc : pc + 1 = pc') (kk : J X nL (pt a (aO X.1 N (va_up f i.toNatClampNeg (some v))) :: ws1) k n pc' lv st) : J X nL ws k n pc lv (.ref v :: .int i :: .ref a :: st) := by
  obtain ⟨⟨l, s0, D, ca⟩, p, e, R, s, m, args, below, meth, c, Q⟩ := X
  obtain ⟨hx, hb, hml, hown, hwm, hold, hlocks, hG, hfr, hlo, hrc, hrs⟩ := E
  subst hpc
  intro H locs ls hS hw hl
  obtain ⟨w, hP, hD, hs⟩ := id hw
  obtain ⟨q, hq, hset⟩ := pick_at hp hs
  obtain ⟨fs, hf⟩ := hv w hs
  exact va_astqM hx hb (hG.K hwm) hP hD hS q 4 hq rfl (any_of hG hwm hP hf) hin hd (fun H1 locs1 hP1 hD1 hS1 => kk H1 locs1 ls hS1 ⟨_, hP1, hD1, hset _⟩ hl)
theorem j_copyO (E : JE X own cc nL d mc ms) {index a0 n0 n1 : Nat} {f g : Nat → Option Nat} {ws2 : List Asn} {sp dp nn : Int32} (pc' : Nat) (hd : decode cc pc = .ok (.invokestatic index, 3)) (cp : CPY own index) (hp0 : Pick ws (pt a0 (aO X.1 n0 f)) ws2) (hp : Pick ws (pt a (aO X.1 n1 g)) ws1) (h1 : ¬ sp < 0) (h2 : ¬ dp < 0) (h3 : ¬ nn < 0) (h4 : sp.toNatClampNeg + nn.toNatClampNeg ≤ n0) (h5 : dp.toNatClampNeg + nn.toNatClampNeg ≤ n1) (hel : ∀ i : Nat, i < nn.toNatClampNeg → ∀ y : Nat, f (sp.toNatClampNeg + i) = some y → Rcv ws y 4) (hd9 : 2 ≤ d) (hst : (st.map fun v => v.category).sum ≤ 8) (hpc : pc + 3 = pc')
    (kk : J X nL (pt a (aO X.1 n1 (va_cpy f g sp.toNatClampNeg dp.toNatClampNeg nn.toNatClampNeg)) :: ws1) k n pc' lv st) : J X nL ws k n pc lv (.int nn :: .int dp :: .ref a :: .int sp :: .ref a0 :: st) := by
  obtain ⟨⟨l, s0, D, ca⟩, p, e, R, s, m, args, below, meth, c, Q⟩ := X
  obtain ⟨hx, hb, hml, hown, hwm, hold, hlocks, hG, hfr, hlo, hrc, hrs⟩ := E
  subst hpc
  intro H locs ls hS hw hl
  obtain ⟨w, hP, hD, hs⟩ := id hw
  obtain ⟨q, hq, hset⟩ := pick_at hp hs
  obtain ⟨q0, hq0, -⟩ := pick_at hp0 hs
  have hnw : nativeFrameWords "java/lang/System" "arraycopy" 5 + 11 ≤ 80 := by decide
  refine va_copyM hx hb (hml.trans hl.1.symm) hown (hG.word hwm cp.1 _) (hG.word hwm cp.2.1 _) (hG.word hwm cp.2.2.1 _) (hG.word hwm cp.2.2.2 _) (hG.K hwm) hP hD hS q0 q 4 4 hq0 hq rfl rfl h1 h2 h3 h4 h5 (fun i hi y hy => ?_) (by omega) (by omega) hd (fun H1 locs1 hP1 hD1 hS1 => kk H1 locs1 ls hS1 ⟨_, hP1, hD1, hset _⟩ hl)
  obtain ⟨fs, hf⟩ := hel i hi y hy w hs
  exact any_of hG hwm hP hf
theorem j_getC (E : JE X RJ7 cc nL d mc ms) {N mi : Nat} {f : Nat → Option Nat} (pc' : Nat) (hd : decode cc pc = .ok (.invokevirtual 86, 3)) (hM : va_Mi "[Ljava/lang/Object;" mi X.1.2.1) (hp : Pick ws (pt a (aO X.1 N f)) ws1) (hd9 : 1 ≤ d) (hst : (st.map fun v => v.category).sum ≤ 8) (hpc : pc + 3 = pc') (kk : J X nL ws k n pc' lv (.ref mi :: st)) : J X nL ws k n pc lv (.ref a :: st) := by
  obtain ⟨⟨l, s0, D, ca⟩, p, e, R, s, m, args, below, meth, c, Q⟩ := X
  obtain ⟨hx, hb, hml, hown, hwm, hold, hlocks, hG, hfr, hlo, hrc, hrs⟩ := E
  subst hpc
  intro H locs ls hS hw hl
  obtain ⟨w, hP, hD, hs⟩ := id hw
  obtain ⟨q, hq, -⟩ := pick_at hp hs
  exact va_getC hx hb (hml.trans hl.1.symm) hown (hG.word hwm gc_link _) (hG.word8 hwm gc_decl (by decide) _) (hG.word hwm gc_sel _) (hG.word hwm gc_inst _) (hG.word hwm gc_nat _) (hM.moved hwm.alike) ⟨_, hP q _ hq, rfl, raO (hG.K hwm)⟩ (by omega) (by omega) hd (kk H locs ls hS hw hl)
theorem j_ldcM (E : JE X own cc nL d mc ms) {index mi : Nat} {C : String} (pc' : Nat) (hd : decode cc pc = .ok (.ldc index, 2)) (hl9 : W9 (.classLink own index C)) (hM : va_Mi C mi X.1.2.1) (hpc : pc + 2 = pc') (kk : J X nL ws k n pc' lv (.ref mi :: st)) : J X nL ws k n pc lv st := by
  obtain ⟨⟨l, s0, D, ca⟩, p, e, R, s, m, args, below, meth, c, Q⟩ := X
  obtain ⟨hx, hb, hml, hown, hwm, hold, hlocks, hG, hfr, hlo, hrc, hrs⟩ := E
  subst hpc
  intro H locs ls hS hw hl
  exact va_ldcM hx hb hown (hG.word hwm hl9 _) (hM.moved hwm.alike) hd (kk H locs ls hS hw hl)
theorem j_castO (E : JE X own cc nL d mc ms) {index N : Nat} {f : Nat → Option Nat} (pc' : Nat) (hd : decode cc pc = .ok (.checkcast index, 3)) (hl9 : W9 (.classLink own index "[Ljava/lang/Object;")) (hp : Pick ws (pt a (aO X.1 N f)) ws1) (hpc : pc + 3 = pc') (kk : J X nL ws k n pc' lv (.ref a :: st)) : J X nL ws k n pc lv (.ref a :: st) := by
  obtain ⟨⟨l, s0, D, ca⟩, p, e, R, s, m, args, below, meth, c, Q⟩ := X
  obtain ⟨hx, hb, hml, hown, hwm, hold, hlocks, hG, hfr, hlo, hrc, hrs⟩ := E
  subst hpc
  intro H locs ls hS hw hl
  obtain ⟨w, hP, hD, hs⟩ := id hw
  obtain ⟨q, hq, -⟩ := pick_at hp hs
  exact va_castA hx hb hown (hG.word hwm hl9 _) hP q hq (raO (hG.K hwm)) hd (kk H locs ls hS hw hl)
/-- an object cast to its own class -/
theorem j_castV (E : JE X own cc nL d mc ms) {index ci : Nat} {C : String} {T : u_T} {N : Nat} (pc' : Nat) (hd : decode cc pc = .ok (.checkcast index, 3)) (hl9 : W9 (.classLink own index C)) (hci : clsL[ci]? = some (C, T, N)) (hv : Rcv ws a ci) (hpc : pc + 3 = pc') (kk : J X nL ws k n pc' lv (.ref a :: st)) : J X nL ws k n pc lv (.ref a :: st) := by
  obtain ⟨⟨l, s0, D, ca⟩, p, e, R, s, m, args, below, meth, c, Q⟩ := X
  obtain ⟨hx, hb, hml, hown, hwm, hold, hlocks, hG, hfr, hlo, hrc, hrs⟩ := E
  subst hpc
  intro H locs ls hS hw hl
  obtain ⟨w, hP, hD, hs⟩ := id hw
  obtain ⟨fs, hf⟩ := hv w hs
  obtain ⟨q, hq⟩ := List.getElem?_of_mem hf
  exact va_castS hx hb hown (hG.word hwm hl9 _) ((hG.K hwm).1 ci _ hci).2 (va_recv (hG.K hwm) hP hci hq) hd (kk H locs ls hS hw hl)
/-- comparing a reference with null -/
theorem j_ifnull (E : JE X own cc nL d mc ms) {off : Int} (pc' : Nat) (hd : decode cc pc = .ok (.ifnull off, 3)) (hpc : pc + 3 = pc') (kk : J X nL ws k n pc' lv st) : J X nL ws k n pc lv (.ref a :: st) := by
  obtain ⟨⟨l, s0, D, ca⟩, p, e, R, s, m, args, below, meth, c, Q⟩ := X
  obtain ⟨hx, hb, hml, hown, hwm, hold, hlocks, hG, hfr, hlo, hrc, hrs⟩ := E
  subst hpc
  intro H locs ls hS hw hl
  exact lv_ifnull hx hb hd (kk H locs ls hS hw hl)
end JRF
/-! copying out of an int array of the start (follows the kit proof for bytes, with another component type) -/
section V9C
variable {p : Program} {l : Launch} {e : Env} {R : Room} {s : State} {m : MethodId} {args : Array Value} {below : List Frame} {meth : Method} {c : Code} {H : Heap} {locs : List Loc} {cells slots : Nat} {Q : State → Prop}
variable {cc : ByteArray} {pc : Nat} {ls : Array Slot} {rest : List Value} {D : va_G} {cl : List vw_C} {A : Nat → Prop} {a : Nat} {tys : List (ClassId × FieldType)} {ws : va_W} {H0 : Heap}
variable {cc : ByteArray}
theorem v9_copyt (hexec : p.tables.exec = Jvm.exec) (hb : c.code = cc) (hml : c.maxLocals = ls.size) {own : String} {index : Nat} (hown : s.vm.findClass own = some m.cls) (hlink : (Cond.methodLink own index arraycopyName).before args s = true) (hnat : (Cond.native arraycopyName).before args s = true) (hstat : (Cond.static arraycopyName).before args s = true) (hini : (Cond.initialized "java/lang/System").before args s = true)
    (hK : va_K D cl tys s) (hP : va_P D cl ws H) (hD : va_D A ws) (hS : va_S A s.heap H locs) {b0 n0 : Nat} {f : Nat → Int32} (hX : va_T .int b0 n0 (fun j => .int (f j)) A s s.heap) (q1 t1 : Nat) {c1 : ClassId} {n1 : Nat} {g : Nat → Int32} (ha1 : ws[q1]? = some (a, .inl (c1, n1, .inl g))) (ht1 : tys[t1]? = some (c1, .int))
    {sp dp n : Int32} (h1 : ¬ sp < 0) (h2 : ¬ dp < 0) (h3 : ¬ n < 0) (h4 : sp.toNatClampNeg + n.toNatClampNeg ≤ n0) (h5 : dp.toNatClampNeg + n.toNatClampNeg ≤ n1) (hfit : ∀ i : Nat, i < n.toNatClampNeg → fits .int (.int (f (sp.toNatClampNeg + i))) = true)
    (hframes : 1 ≤ R.frames) (hlocals : (rest.map fun v => v.category).sum + (nativeFrameWords "java/lang/System" "arraycopy" 5 + 11) ≤ R.locals) (hdg : decode cc pc = .ok (.invokestatic index, 3))
    (kk : ∀ (H1 : Heap) (locs1 : List Loc), va_P D cl (ws.set q1 (a, .inl (c1, n1, .inl (va_cpy f g sp.toNatClampNeg dp.toNatClampNeg n.toNatClampNeg)))) H1 → va_D A (ws.set q1 (a, .inl (c1, n1, .inl (va_cpy f g sp.toNatClampNeg dp.toNatClampNeg n.toNatClampNeg)))) → va_S A s.heap H1 locs1 → W p l e R s m args below meth c H1 locs1 cells slots Q (F0 m (pc + 3) ls rest)) : W p l e R s m args below meth c H locs cells slots Q (F0 m pc ls (.int n :: .int dp :: .ref a :: .int sp :: .ref b0 :: rest)) := by
  have nn : ∀ z : Int32, ¬ z < 0 → z.toInt = (z.toNatClampNeg : Int) := by
    intro z hz
    have hz0 : (0 : Int) ≤ z.toInt := by
      have := Int32.not_lt.mp hz
      simpa using Int32.le_iff_toInt_le.mp this
    show z.toInt = ((z.toInt.toNat : Nat) : Int)
    omega
  intro T hT X
  obtain ⟨scr, hs1, hs2, hs3, hs4, -, hs5, hs7⟩ := hX
  have hc0 : H[b0]? = some scr := by rw [hS.2.1 b0 (Array.getElem?_eq_some_iff.mp hs1).1 hs7]; exact hs1
  have hc1 : H[a]? = some (vp_cell c1 (n1, .inl g)) := hP q1 _ ha1
  obtain ⟨hs6, k0, hk0, cm0, hkk0⟩ := hs2
  obtain ⟨-, k1, hk1, cm1, hkk1⟩ := (hK.2 t1 _ ht1).1 n1 (fun j => .int (g j))
  obtain ⟨vm', X', step⟩ := X.arraycopy hexec hown hlink hnat hstat hini (src := b0) (dst := a) (cs := scr) (cd := vp_cell c1 (n1, .inl g)) (srcPos := sp) (destPos := dp) (n := n) (by rw [hT]; exact hc0) (by rw [hT]; exact hc1)
    hs6 (fun _ h => by cases h) hs3 (fun h => by cases h) hk0 hk1 hkk0 hkk1 (by simp [refKind]) h1 h2 h3
    (by rw [nn sp h1, nn n h3]; omega)
    (by rw [nn dp h2, nn n h3]; show ¬ _ > ((arrV c1 n1 (fun j => .int (g j))).slots.size : Int); rw [arrV_size]; omega)
    (fun vm₁ _ i hi => by
      have e : scr.slots.getD (sp.toNatClampNeg + i) .null = .int (f (sp.toNatClampNeg + i)) := by
        rw [Array.getD_eq_getD_getElem?, hs5 _ (by omega)]
        rfl
      refine ⟨?_, ?_⟩
      · rw [e]
        exact hfit i hi
      · rw [e]
        exact trivial)
    (g := F0 m pc ls (.int n :: .int dp :: .ref a :: .int sp :: .ref b0 :: rest)) rfl (by rw [hml]) (rest := rest) rfl (by rw [hb]; exact hdg) hframes (by show 2 * 0 + _ + _ ≤ _; omega)
  have e1 : copied scr (vp_cell c1 (n1, .inl g)) sp dp n = vp_cell c1 (n1, .inl (va_cpy f g sp.toNatClampNeg dp.toNatClampNeg n.toNatClampNeg)) := va_copiedX (fun z => .int z) scr c1 f g hs5 h4
  rw [e1] at X' step
  have hl : a < H.size := (Array.getElem?_eq_some_iff.mp hc1).1
  have hheap : ((T.setVm vm').setCell a (vp_cell c1 (n1, .inl (va_cpy f g sp.toNatClampNeg dp.toNatClampNeg n.toNatClampNeg)))).heap = H.setIfInBounds a (vp_cell c1 (n1, .inl (va_cpy f g sp.toNatClampNeg dp.toNatClampNeg n.toNatClampNeg))) := by rw [← hT]; rfl
  have oq : ∀ q : Nat, q ≠ a → (H.setIfInBounds a (vp_cell c1 (n1, .inl (va_cpy f g sp.toNatClampNeg dp.toNatClampNeg n.toNatClampNeg))))[q]? = H[q]? := fun q hq => by simp [Array.getElem?_setIfInBounds, Ne.symm hq]
  obtain ⟨t, a1, b1⟩ := kk _ _ (hP.set hD ha1 (show (H.setIfInBounds a _)[a]? = some _ by simp [Array.getElem?_setIfInBounds, hl]) oq) (hD.set ha1) ⟨by simp; exact hS.1, fun q g1 g2 => by
      rw [oq q (fun e => g2 (by rw [e]; exact hD.2 q1 _ ha1))]
      exact hS.2.1 q g1 g2, fun q hq => by
      rcases List.mem_append.mp hq with h | h
      · exact hS.2.2 q h
      · obtain ⟨z, -, hz⟩ := List.mem_map.mp h
        rw [← hz]
        exact hD.2 q1 _ ha1⟩ _ hheap X'
  exact ⟨t, step t a1, b1⟩
end V9C
section JRG
variable {X : XT} {own : String} {cc : ByteArray} {nL d mc ms : Nat} {ws ws1 : List Asn} {k n pc : Nat} {lv : List (Option Value)} {st : List Value} {a : Nat}
theorem j_copyTI (E : JE X own cc nL d mc ms) {index a0 n0 n1 : Nat} {f g : Nat → Int32} {sp dp nn : Int32} (pc' : Nat) (hd : decode cc pc = .ok (.invokestatic index, 3)) (cp : CPY own index) (hp0 : OT X.1 .int a0 n0 (fun j => .int (f j))) (hp : Pick ws (pt a (aI X.1 n1 g)) ws1) (h1 : ¬ sp < 0) (h2 : ¬ dp < 0) (h3 : ¬ nn < 0) (h4 : sp.toNatClampNeg + nn.toNatClampNeg ≤ n0) (h5 : dp.toNatClampNeg + nn.toNatClampNeg ≤ n1) (hd9 : 2 ≤ d) (hst : (st.map fun v => v.category).sum ≤ 8) (hpc : pc + 3 = pc')
    (kk : J X nL (pt a (aI X.1 n1 (va_cpy f g sp.toNatClampNeg dp.toNatClampNeg nn.toNatClampNeg)) :: ws1) k n pc' lv st) : J X nL ws k n pc lv (.int nn :: .int dp :: .ref a :: .int sp :: .ref a0 :: st) := by
  obtain ⟨⟨l, s0, D, ca⟩, p, e, R, s, m, args, below, meth, c, Q⟩ := X
  obtain ⟨hx, hb, hml, hown, hwm, hold, hlocks, hG, hfr, hlo, hrc, hrs⟩ := E
  subst hpc
  intro H locs ls hS hw hl
  obtain ⟨w, hP, hD, hs⟩ := id hw
  obtain ⟨q, hq, hset⟩ := pick_at hp hs
  have hnw : nativeFrameWords "java/lang/System" "arraycopy" 5 + 11 ≤ 80 := by decide
  exact v9_copyt hx hb (hml.trans hl.1.symm) hown (hG.word hwm cp.1 _) (hG.word hwm cp.2.1 _) (hG.word hwm cp.2.2.1 _) (hG.word hwm cp.2.2.2 _) (hG.K hwm) hP hD hS (hp0.at hwm hold) q 1 hq rfl h1 h2 h3 h4 h5 (fun _ _ => rfl) (by omega) (by omega) hd (fun H1 locs1 hP1 hD1 hS1 => kk H1 locs1 ls hS1 ⟨_, hP1, hD1, hset _⟩ hl)
end JRG

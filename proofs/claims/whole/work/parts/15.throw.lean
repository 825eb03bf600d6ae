/-! throws, catches, statics, over the parts of a world -/
theorem same_sum {s t : State} {L : List Loc} {k n : Nat} (h : s.sameButNew t L k n) : t.heap.size ≤ s.heap.size + k ∧ slotSum t.heap ≤ slotSum s.heap + n := by
  obtain ⟨-, h2, h3, -, h5, h6⟩ := h
  refine ⟨h3, ?_⟩
  rw [slotSum_eq, slotSum_eq]
  have e : t.heap.toList.map (·.slots.size) = s.heap.toList.map (·.slots.size) ++ (t.heap.toList.drop s.heap.size).map (·.slots.size) := by
    apply List.ext_getElem?
    intro i
    by_cases hi : i < s.heap.size
    · rw [List.getElem?_append_left (by simpa using hi), List.getElem?_map, List.getElem?_map, Array.getElem?_toList, Array.getElem?_toList]
      obtain ⟨c', e1, -, e3, -⟩ := h6 i _ (Array.getElem?_eq_getElem hi)
      rw [e1, Array.getElem?_eq_getElem hi]
      simp [e3]
    · rw [List.getElem?_append_right (by simpa using hi), List.getElem?_map, List.getElem?_map, List.getElem?_drop]
      simp only [List.length_map, Array.length_toList]
      rw [show s.heap.size + (i - s.heap.size) = i by omega]
  rw [e, List.sum_append]
  omega
def GLB2 (g : GT) : Prop := vx_Zq Bundle.tN "UNASSIGNED_STACK" Bundle.steD (A9 g.2.1) g.2.1 g.2.1.heap ∧ vx_Zq Bundle.tN "SUPPRESSED_SENTINEL" Bundle.listD (A9 g.2.1) g.2.1 g.2.1.heap ∧ ∀ (own : String) (k : Nat) (tx : String), own = "PackedGraph" → Cond.stringRef own k tx ∈ lw_tbl → ∃ sa, vk_R own k tx sa g.2.1
def w8 (w : Cond) : Bool := goodWord w || (w.onTables && w.faceAtom)
theorem GLB.word8 {g : GT} (h : GLB g) {s : State} (hw : g.2.1.WarmedH s.vm) {w : Cond} (h1 : w ∈ lw_tbl) (h2 : w8 w = true) (a : Array Value) : w.before a s = true := by
  unfold w8 at h2
  rw [Bool.or_eq_true, Bool.and_eq_true] at h2
  rcases h2 with h2 | ⟨h2, h3⟩
  · exact h.word hw ⟨h1, h2⟩ a
  · exact va_tabs h2 (rfl : (g.2.1.setVm s.vm).vm = s.vm) (Cond.faceAtom_setVm hw.alike _ h3 (h.2.1 w h1 a))
def THK (own : String) (ik is ic : Nat) (cls text : String) (names : List String) : Prop := Bundle.fit cls = true ∧ (∀ n ∈ names, Bundle.fit n = true) ∧ W9 (.classLink own ik cls) ∧ W9 (.initialized cls) ∧ Cond.stringRef own is text ∈ lw_tbl ∧ own = "PackedGraph" ∧ (∀ w ∈ vx_atS own ic cls names, w ∈ lw_tbl) ∧ (∀ w ∈ vx_atS own ic cls names, w8 w = true) ∧ ∀ w ∈ Cond.classLink own ik cls :: Cond.initialized cls :: vx_atS own ic cls names, vx_ot w = true
theorem Old.Zq {s0 s : State} {C n d : String} (hwm : s0.WarmedH s.vm) (h : Old s0 s.heap) (hz : vx_Zq C n d (A9 s0) s0 s0.heap) : vx_Zq C n d (A9 s0) s s.heap := (hz.moved hwm.alike).kept (fun a ha _ => h.2 a ha)
theorem vx_MQ.mono {below : List Frame} {Qc : Array Value → State → Outcome → State → Prop} {XC0 XC : String → State → State → Prop} {a : Array Value} {s t : State} {k n mc ms : Nat} {free : Addr → Prop} (h : vx_MQ below Qc XC0 a s k n free t) (hQ : ∀ o, Qc a s o t → False) (hX : ∀ E, XC0 E s t → t.heap.size ≤ s.heap.size + k → slotSum t.heap ≤ slotSum s.heap + n → XC E s t) (hk : k ≤ mc) (hn : n ≤ ms) : vx_MQ below Qc XC a s mc ms free t := by
  obtain ⟨o, h1, h2, h3⟩ := h
  refine ⟨o, h1, h2, ?_⟩
  rcases h3 with ⟨h3, -⟩ | ⟨q, h3, E, ce, L, g1, g2, g3, g4, g5, g6, g7⟩
  · exact (hQ o h3).elim
  · have hs := same_sum g6
    exact Or.inr ⟨q, h3, E, ce, L, hX E g1 hs.1 hs.2, g2, g3, g4, g5, g6.mono hk hn, g7⟩
section JTH
variable {X : XT} {own : String} {cc : ByteArray} {nL d mc ms : Nat} {ws fr pre ws1 : List Asn} {k n pc : Nat} {lv : List (Option Value)} {st rest : List Value} {a : Nat} {po : PoT} {px : PxT} {F : Asn} {ret : Option FieldType}
theorem j_throwS (E : JE X own cc nL d mc ms) (B : JB X ret po px F mc ms) (T : ∀ x ∈ X.2.2.2.2.2.2.2.2.2.1.exceptionTable.toList, False) (h2 : GLB2 X.1) {ik is ic : Nat} {cls text : String} {names : List String} (tk : THK own ik is ic cls text names) (dc ds : Nat) {ws' : List Asn}
    (d0 : decode cc pc = .ok (.new ik, 3)) (p3 p4 p6 p9 : Nat) (e3 : pc + 3 = p3) (e4 : pc + 4 = p4) (e6 : pc + 6 = p6) (e9 : pc + 9 = p9) (d3 : decode cc p3 = .ok (.dup, 1)) (d4 : decode cc p4 = .ok (.ldc is, 2)) (d6 : decode cc p6 = .ok (.invokespecial ic, 3)) (d9 : decode cc p9 = .ok (.athrow, 1))
    (hs : Sel ws (ws' ++ [F]) fr) (hpx : px cls dc ds ws') (hk : k + 1 ≤ dc) (hn : n + 6 ≤ ds) (hmk : k + 1 ≤ mc) (hmn : n + 6 ≤ ms) (hf9 : names.length + 3 < d) (hl9 : (st.map fun v => v.category).sum + (13 * (names.length + 1) + 43) ≤ 46 * d) : J X nL ws k n pc lv st := by
  obtain ⟨⟨l, s0, D, ca⟩, p, e, R, s, m, args, below, meth, c, Q⟩ := X
  obtain ⟨hx, hb, hml, hown, hwm, hold, hlocks, hG, hfr, hlo, hrc, hrs⟩ := E
  obtain ⟨hr, rfl⟩ := B
  subst e3; subst e4; subst e6; subst e9
  obtain ⟨t1, t2, t3, t4, t5, t6, t7, t8, t9⟩ := tk
  obtain ⟨u1, u2, u3⟩ := h2
  obtain ⟨sa, hsa⟩ := u3 own is text t6 t5
  intro H locs ls hS hw hls
  have K : W p l e R s m args below meth c H locs k n (vx_MQ below (fun _ _ _ _ => False) (fun E st t => (E = cls ∧ Wld s0 D (ws' ++ [F]) t.heap) ∧ va_F (A9 s0) st t) args s (k + 1) (n + 6) (A9 s0)) (F0 m pc ls st) := by
    refine vx_throwS (A := A9 s0) hx hb hG.1 hown t1 t2 (hG.word hwm t3 _) (hG.word hwm t4 _) (hsa.warm hwm) (fun w h => hG.word8 hwm (t7 w h) (t8 w h) _) t9 (Old.Zq hwm hold u1) (Old.Zq hwm hold u2) hS (hls.1.trans hml.symm) d0 d3 d4 d6 d9 (fun x hx => (T x hx).elim) (by omega) (by omega) (by omega) (by omega) hlocks ?_ hS.2.2 (Nat.le_refl _) (Nat.le_refl _)
    intro t _ hz hq
    refine ⟨⟨rfl, ?_⟩, ?_⟩
    · obtain ⟨w, hP, hD, hs9⟩ := hw.sel hs
      exact ⟨w, hP.kept (fun q x hx => hq x.1 ((hP q x hx).lt)), hD, hs9⟩
    · exact ⟨Nat.le_trans hS.1 hz, fun q h1 h2 => (hq q (Nat.lt_of_lt_of_le h1 hS.1)).trans (hS.2.1 q h1 h2)⟩
  intro T9 hT X9
  obtain ⟨t, g1, g2⟩ := K T9 hT X9
  refine ⟨t, g1, ?_⟩
  obtain ⟨o, q1, q2, q3⟩ := g2
  refine ⟨o, q1, q2, ?_⟩
  rcases q3 with ⟨q3, -⟩ | ⟨q, q3, En, ce, L, ⟨⟨rfl, v2⟩, v3⟩, v4, v5, v6, v7, v8, v9⟩
  · exact q3.elim
  · have hs := same_sum v8
    exact Or.inr ⟨q, q3, En, ce, L, ⟨⟨dc, ds, ws', hpx, v2, Nat.le_trans hs.1 (by omega), Nat.le_trans hs.2 (by omega)⟩, v3⟩, v4, v5, v6, v7, v8.mono hmk hmn, v9⟩
/-- a static field of the program that is never written -/
theorem j_gets (E : JE X own cc nL d mc ms) {index : Nat} {C nm ds : String} {v : Value} (pc' : Nat) (hd : decode cc pc = .ok (.getstatic index, 3)) (hZ : va_Z C nm ds v (A9 X.1.2.1) X.1.2.1 X.1.2.1.heap) (hl : W9 (.fieldLink own index C nm ds)) (hpc : pc + 3 = pc') (kk : J X nL ws k n pc' lv (v :: st)) : J X nL ws k n pc lv st := by
  obtain ⟨⟨l, s0, D, ca⟩, p, e, R, s, m, args, below, meth, c, Q⟩ := X
  obtain ⟨hx, hb, hml, hown, hwm, hold, hlocks, hG, hfr, hlo, hrc, hrs⟩ := E
  subst hpc
  intro H locs ls hS hw hls
  exact va_gets hx hb ((hZ.moved hwm.alike).kept (fun a ha _ => hold.2 a ha)) hS hown (hG.word hwm hl _) (fun x h => h) hd (kk H locs ls hS hw hls)
theorem j_getsN (E : JE X own cc nL d mc ms) {index : Nat} {C nm ds host : String} {v : Value} (pc' : Nat) (hd : decode cc pc = .ok (.getstatic index, 3)) (hZ : va_Z C nm ds v (A9 X.1.2.1) X.1.2.1 X.1.2.1.heap) (hl : (.fieldLinkNest own index C nm ds host) ∈ lw_tbl) (hpc : pc + 3 = pc') (kk : J X nL ws k n pc' lv (v :: st)) : J X nL ws k n pc lv st := by
  obtain ⟨⟨l, s0, D, ca⟩, p, e, R, s, m, args, below, meth, c, Q⟩ := X
  obtain ⟨hx, hb, hml, hown, hwm, hold, hlocks, hG, hfr, hlo, hrc, hrs⟩ := E
  subst hpc
  intro H locs ls hS hw hls
  exact va_getsN hx hb ((hZ.moved hwm.alike).kept (fun a ha _ => hold.2 a ha)) hS hown (va_Nw.use rfl (va_Nw.warmF hwm (hG.2.1 _ hl #[]))) (fun x h => h) hd (kk H locs ls hS hw hls)
/-- an array of the start -/
def OT (g : GT) (ty : FieldType) (t N : Nat) (f : Nat → Value) : Prop := va_T ty t N f (A9 g.2.1) g.2.1 g.2.1.heap
theorem OT.at {g : GT} {ty : FieldType} {t N : Nat} {f : Nat → Value} (h : OT g ty t N f) {s : State} (hwm : g.2.1.WarmedH s.vm) (ho : Old g.2.1 s.heap) : va_T ty t N f (A9 g.2.1) s s.heap := (h.moved hwm.alike).kept (fun a ha _ => ho.2 a ha)
theorem j_ti (E : JE X own cc nL d mc ms) {t N : Nat} {f : Nat → Value} {i : Int32} {v : Value} (pc' : Nat) (hd : decode cc pc = .ok (.iaload, 1)) (hT : OT X.1 .int t N f) (hin : vp_in i N) (hv : f i.toNatClampNeg = v) (hpc : pc + 1 = pc') (kk : J X nL ws k n pc' lv (v :: st)) : J X nL ws k n pc lv (.int i :: .ref t :: st) := by
  obtain ⟨⟨l, s0, D, ca⟩, p, e, R, s, m, args, below, meth, c, Q⟩ := X
  obtain ⟨hx, hb, hml, hown, hwm, hold, hlocks, hG, hfr, hlo, hrc, hrs⟩ := E
  subst hpc
  intro H locs ls hS hw hls
  exact va_ti hx hb (hT.at hwm hold) hS hin hv hd (kk H locs ls hS hw hls)
theorem j_tlen (E : JE X own cc nL d mc ms) {ty : FieldType} {t N : Nat} {f : Nat → Value} (v : Int32) (pc' : Nat) (hd : decode cc pc = .ok (.arraylength, 1)) (hT : OT X.1 ty t N f) (hv : Int32.ofNat N = v) (hpc : pc + 1 = pc') (kk : J X nL ws k n pc' lv (.int v :: st)) : J X nL ws k n pc lv (.ref t :: st) := by
  obtain ⟨⟨l, s0, D, ca⟩, p, e, R, s, m, args, below, meth, c, Q⟩ := X
  obtain ⟨hx, hb, hml, hown, hwm, hold, hlocks, hG, hfr, hlo, hrc, hrs⟩ := E
  subst hpc
  intro H locs ls hS hw hls
  exact va_tlen hx hb (hT.at hwm hold) hS hv hd (kk H locs ls hS hw hls)
/-- references compared -/
theorem j_acmp_eq (E : JE X own cc nL d mc ms) {rx ry : Option Nat} {off : Int} (tgt pc' : Nat) (hd : decode cc pc = .ok (.if_acmp .eq off, 3)) (ht : (pc : Int) + off = (tgt : Int)) (hp : pc + 3 = pc') (kt : rx = ry → J X nL ws k n tgt lv st) (kf : ¬ rx = ry → J X nL ws k n pc' lv st) : J X nL ws k n pc lv (va_rf ry :: va_rf rx :: st) := by
  obtain ⟨⟨l, s0, D, ca⟩, p, e, R, s, m, args, below, meth, c, Q⟩ := X
  obtain ⟨hx, hb, hml, hown, hwm, hold, hlocks, hG, hfr, hlo, hrc, hrs⟩ := E
  subst hp
  intro H locs ls hS hw hl
  exact lv_acmp_eq hx hb hd ht (fun z => kt z H locs ls hS hw hl) (fun z => kf z H locs ls hS hw hl)
theorem j_acmp_ne (E : JE X own cc nL d mc ms) {rx ry : Option Nat} {off : Int} (tgt pc' : Nat) (hd : decode cc pc = .ok (.if_acmp .ne off, 3)) (ht : (pc : Int) + off = (tgt : Int)) (hp : pc + 3 = pc') (kt : ¬ rx = ry → J X nL ws k n tgt lv st) (kf : rx = ry → J X nL ws k n pc' lv st) : J X nL ws k n pc lv (va_rf ry :: va_rf rx :: st) := by
  obtain ⟨⟨l, s0, D, ca⟩, p, e, R, s, m, args, below, meth, c, Q⟩ := X
  obtain ⟨hx, hb, hml, hown, hwm, hold, hlocks, hG, hfr, hlo, hrc, hrs⟩ := E
  subst hp
  intro H locs ls hS hw hl
  first
    | exact lv_acmp_ne hx hb hd ht (fun z => kt z H locs ls hS hw hl) (fun z => kf z H locs ls hS hw hl)
    | exact lv_acmp_ne hx hb hd ht (fun z => kt z H locs ls hS hw hl) (fun z => kf (Classical.byContradiction z) H locs ls hS hw hl)
/-- the copying of numbers: own to own, start's to own -/
def CPY (own : String) (index : Nat) : Prop := W9 (.methodLink own index arraycopyName) ∧ W9 (.native arraycopyName) ∧ W9 (.static arraycopyName) ∧ W9 (.initialized "java/lang/System")
theorem copyB {ca : Nat → ClassId} {i : Nat} {ty : FieldType} (h : (tysL ca)[i]? = some (ca i, ty)) : (tysL ca)[i]? = some (ca i, ty) := h
theorem j_copyB (E : JE X own cc nL d mc ms) {index a0 n0 n1 : Nat} {f g : Nat → Int32} {ws2 : List Asn} {sp dp nn : Int32} (pc' : Nat) (hd : decode cc pc = .ok (.invokestatic index, 3)) (cp : CPY own index) (hp0 : Pick ws (pt a0 (aB X.1 n0 f)) ws2) (hp : Pick ws (pt a (aB X.1 n1 g)) ws1) (h1 : ¬ sp < 0) (h2 : ¬ dp < 0) (h3 : ¬ nn < 0) (h4 : sp.toNatClampNeg + nn.toNatClampNeg ≤ n0) (h5 : dp.toNatClampNeg + nn.toNatClampNeg ≤ n1) (hfit : ∀ i, i < nn.toNatClampNeg → fits .byte (.int (f (sp.toNatClampNeg + i))) = true) (hd9 : 2 ≤ d) (hst : (st.map fun v => v.category).sum ≤ 8) (hpc : pc + 3 = pc')
    (kk : J X nL (pt a (aB X.1 n1 (va_cpy f g sp.toNatClampNeg dp.toNatClampNeg nn.toNatClampNeg)) :: ws1) k n pc' lv st) : J X nL ws k n pc lv (.int nn :: .int dp :: .ref a :: .int sp :: .ref a0 :: st) := by
  obtain ⟨⟨l, s0, D, ca⟩, p, e, R, s, m, args, below, meth, c, Q⟩ := X
  obtain ⟨hx, hb, hml, hown, hwm, hold, hlocks, hG, hfr, hlo, hrc, hrs⟩ := E
  subst hpc
  intro H locs ls hS hw hl
  obtain ⟨w, hP, hD, hs⟩ := id hw
  obtain ⟨q, hq, hset⟩ := pick_at hp hs
  obtain ⟨q0, hq0, -⟩ := pick_at hp0 hs
  have hnw : nativeFrameWords "java/lang/System" "arraycopy" 5 + 11 ≤ 80 := by decide
  exact va_copyi hx hb (hml.trans hl.1.symm) hown (hG.word hwm cp.1 _) (hG.word hwm cp.2.1 _) (hG.word hwm cp.2.2.1 _) (hG.word hwm cp.2.2.2 _) (hG.K hwm) hP hD hS q0 q 0 0 hq0 hq rfl rfl rfl h1 h2 h3 h4 h5 hfit (by omega) (by omega) hd (fun H1 locs1 hP1 hD1 hS1 => kk H1 locs1 ls hS1 ⟨_, hP1, hD1, hset _⟩ hl)
theorem j_copyI (E : JE X own cc nL d mc ms) {index a0 n0 n1 : Nat} {f g : Nat → Int32} {ws2 : List Asn} {sp dp nn : Int32} (pc' : Nat) (hd : decode cc pc = .ok (.invokestatic index, 3)) (cp : CPY own index) (hp0 : Pick ws (pt a0 (aI X.1 n0 f)) ws2) (hp : Pick ws (pt a (aI X.1 n1 g)) ws1) (h1 : ¬ sp < 0) (h2 : ¬ dp < 0) (h3 : ¬ nn < 0) (h4 : sp.toNatClampNeg + nn.toNatClampNeg ≤ n0) (h5 : dp.toNatClampNeg + nn.toNatClampNeg ≤ n1) (hd9 : 2 ≤ d) (hst : (st.map fun v => v.category).sum ≤ 8) (hpc : pc + 3 = pc')
    (kk : J X nL (pt a (aI X.1 n1 (va_cpy f g sp.toNatClampNeg dp.toNatClampNeg nn.toNatClampNeg)) :: ws1) k n pc' lv st) : J X nL ws k n pc lv (.int nn :: .int dp :: .ref a :: .int sp :: .ref a0 :: st) := by
  obtain ⟨⟨l, s0, D, ca⟩, p, e, R, s, m, args, below, meth, c, Q⟩ := X
  obtain ⟨hx, hb, hml, hown, hwm, hold, hlocks, hG, hfr, hlo, hrc, hrs⟩ := E
  subst hpc
  intro H locs ls hS hw hl
  obtain ⟨w, hP, hD, hs⟩ := id hw
  obtain ⟨q, hq, hset⟩ := pick_at hp hs
  obtain ⟨q0, hq0, -⟩ := pick_at hp0 hs
  have hnw : nativeFrameWords "java/lang/System" "arraycopy" 5 + 11 ≤ 80 := by decide
  exact va_copyi hx hb (hml.trans hl.1.symm) hown (hG.word hwm cp.1 _) (hG.word hwm cp.2.1 _) (hG.word hwm cp.2.2.1 _) (hG.word hwm cp.2.2.2 _) (hG.K hwm) hP hD hS q0 q 1 1 hq0 hq rfl rfl rfl h1 h2 h3 h4 h5 (fun _ _ => rfl) (by omega) (by omega) hd (fun H1 locs1 hP1 hD1 hS1 => kk H1 locs1 ls hS1 ⟨_, hP1, hD1, hset _⟩ hl)
theorem j_copyTB (E : JE X own cc nL d mc ms) {index a0 n0 n1 : Nat} {f g : Nat → Int32} {sp dp nn : Int32} (pc' : Nat) (hd : decode cc pc = .ok (.invokestatic index, 3)) (cp : CPY own index) (hp0 : OT X.1 .byte a0 n0 (fun j => .int (f j))) (hp : Pick ws (pt a (aB X.1 n1 g)) ws1) (h1 : ¬ sp < 0) (h2 : ¬ dp < 0) (h3 : ¬ nn < 0) (h4 : sp.toNatClampNeg + nn.toNatClampNeg ≤ n0) (h5 : dp.toNatClampNeg + nn.toNatClampNeg ≤ n1) (hfit : ∀ i, i < nn.toNatClampNeg → fits .byte (.int (f (sp.toNatClampNeg + i))) = true) (hd9 : 2 ≤ d) (hst : (st.map fun v => v.category).sum ≤ 8) (hpc : pc + 3 = pc')
    (kk : J X nL (pt a (aB X.1 n1 (va_cpy f g sp.toNatClampNeg dp.toNatClampNeg nn.toNatClampNeg)) :: ws1) k n pc' lv st) : J X nL ws k n pc lv (.int nn :: .int dp :: .ref a :: .int sp :: .ref a0 :: st) := by
  obtain ⟨⟨l, s0, D, ca⟩, p, e, R, s, m, args, below, meth, c, Q⟩ := X
  obtain ⟨hx, hb, hml, hown, hwm, hold, hlocks, hG, hfr, hlo, hrc, hrs⟩ := E
  subst hpc
  intro H locs ls hS hw hl
  obtain ⟨w, hP, hD, hs⟩ := id hw
  obtain ⟨q, hq, hset⟩ := pick_at hp hs
  have hnw : nativeFrameWords "java/lang/System" "arraycopy" 5 + 11 ≤ 80 := by decide
  exact vk_copyt hx hb (hml.trans hl.1.symm) hown (hG.word hwm cp.1 _) (hG.word hwm cp.2.1 _) (hG.word hwm cp.2.2.1 _) (hG.word hwm cp.2.2.2 _) (hG.K hwm) hP hD hS (hp0.at hwm hold) q 0 hq rfl h1 h2 h3 h4 h5 hfit (by omega) (by omega) hd (fun H1 locs1 hP1 hD1 hS1 => kk H1 locs1 ls hS1 ⟨_, hP1, hD1, hset _⟩ hl)
end JTH

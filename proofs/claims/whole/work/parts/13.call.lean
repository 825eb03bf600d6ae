/-! calls, ends, throws, over the parts of a world -/
def lEa : List Value → List (Option Value)
  | [] => []
  | .long x :: vs => some (.long x) :: none :: lEa vs
  | .double x :: vs => some (.double x) :: none :: lEa vs
  | v :: vs => some v :: lEa vs
def lE (av : List Value) (nL : Nat) : List (Option Value) := lEa av ++ List.replicate (nL - (lEa av).length) none
theorem lEa_args : ∀ (av : List Value) (i j : Nat) (v : Value), (lEa av)[j]? = some (some v) → (i + j, v) ∈ lv_args i av
  | [], i, j, v, h => by simp [lEa] at h
  | x :: vs, i, j, v, h => by
    have one : ∀ (hc : x.category = 1) (hE : lEa (x :: vs) = some x :: lEa vs), (i + j, v) ∈ lv_args i (x :: vs) := by
      intro hc hE
      rw [hE] at h
      unfold lv_args
      rw [if_neg (by omega)]
      cases j with
      | zero =>
        rw [List.getElem?_cons_zero] at h
        cases h
        exact List.mem_cons_self
      | succ j =>
        rw [List.getElem?_cons_succ] at h
        have := lEa_args vs (i + 1) j v h
        rw [show i + 1 + j = i + (j + 1) by omega] at this
        exact List.mem_cons_of_mem _ this
    have two : ∀ (hc : x.category = 2) (hE : lEa (x :: vs) = some x :: none :: lEa vs), (i + j, v) ∈ lv_args i (x :: vs) := by
      intro hc hE
      rw [hE] at h
      unfold lv_args
      rw [if_pos hc]
      match j, h with
      | 0, h =>
        rw [List.getElem?_cons_zero] at h
        cases h
        exact List.mem_cons_self
      | 1, h =>
        simp at h
      | j + 2, h =>
        rw [List.getElem?_cons_succ, List.getElem?_cons_succ] at h
        have := lEa_args vs (i + 2) j v h
        rw [show i + 2 + j = i + (j + 2) by omega] at this
        exact List.mem_cons_of_mem _ this
    cases x <;> first | exact one rfl rfl | exact two rfl rfl
theorem lE_has {av : List Value} {nL : Nat} {ls : Array Slot} (h : lv_has ls nL (lv_args 0 av)) : lHas ls nL (lE av nL) := by
  refine lHas.of h fun i v hi => ?_
  unfold lE at hi
  by_cases hl : i < (lEa av).length
  · rw [List.getElem?_append_left hl] at hi
    have := lEa_args av 0 i v hi
    rw [Nat.zero_add] at this
    exact this
  · rw [List.getElem?_append_right (by omega)] at hi
    have h2 := List.mem_of_getElem? hi
    have h3 := List.eq_of_mem_replicate h2
    cases h3
theorem PcO_blind {g : GT} {av : List Value} {pre : List Asn} {F : Asn} : FrameBlind (PcO g av pre F) := fun _ _ _ _ q => q
/-- a method's code, its words -/
def CB (own : String) (index : Nat) (M : MD) (na : Nat) : Prop := W9 (.initialized M.1.cls) ∧ W9 (.code M.1 M.2.1 M.2.2.1 M.2.2.2) ∧ (M.1.cls ≠ "java/lang/invoke/MethodHandle" ∧ M.1.cls ≠ "java/lang/invoke/VarHandle") ∧ (parseMethodDescriptor M.1.desc).map (fun d => d.parameters.length) = some na ∧ M.2.2.1 ≤ 27
def CV (own : String) (index : Nat) (C : String) (M : MD) (na : Nat) : Prop := CB own index M na ∧ W9 (.methodLink own index M.1) ∧ W9 (.instanceMethod M.1) ∧ W9 (.selects C M.1 M.1)
def CS (own : String) (index : Nat) (M : MD) (na : Nat) : Prop := CB own index M na ∧ W9 (.methodLink own index M.1) ∧ W9 (.static M.1)
def CI (own : String) (index : Nat) (M : MD) (na : Nat) : Prop := CB own index M na ∧ W9 (.methodLink own index M.1) ∧ W9 (.instanceMethod M.1) ∧ M.1.name = "<init>" ∧ M.2.2.2 = none
def CIn (own : String) (index : Nat) (M : MD) (na : Nat) : Prop := ∃ host : String, CB own index M na ∧ (.methodLinkNest own index M.1 host) ∈ lw_tbl ∧ W9 (.instanceMethod M.1) ∧ M.1.name = "<init>" ∧ M.2.2.2 = none
section RB
variable {p : Program} {l : Launch} {e : Env} {R : Room} {s s0 : State} {D : va_G} {ca : Nat → ClassId} {m : MethodId} {args : Array Value} {below : List Frame} {meth : Method} {c : Code} {H : Heap} {locs : List Loc} {k n pc mc1 ms1 : Nat} {ls : Array Slot} {st0 rest : List Value} {Q : State → Prop} {fr : List Asn} {po : PoT} {px : PxT} {a : Array Value}
theorem run_J (hr : vx_Run p l e R s m args below meth c H locs k n mc1 ms1 (F0 m pc ls st0) rest (QcO (l, s0, D, ca) po (sepL fr) a) (XcO (l, s0, D, ca) px (sepL fr)) (A9 s0)) (hS : va_S (A9 s0) s.heap H locs)
    (kk : ∀ r dc ds ws', po r dc ds ws' → ∀ H1 locs1, va_S (A9 s0) s.heap H1 locs1 → Wld s0 D (ws' ++ fr) H1 → W p l e R s m args below meth c H1 locs1 (k + dc) (n + ds) Q (F0 m (pc + 3) ls (r.toList ++ rest)))
    (kx : ∀ E dc ds ws', px E dc ds ws' → ∀ H1 locs1 q ce, va_S (A9 s0) s.heap H1 locs1 → Wld s0 D (ws' ++ fr) H1 → H1[q]? = some ce → ce.vm = .none → s.vm.findClass E = some ce.cls → vx_W p l e R s m args below meth c H1 locs1 (k + dc) (n + ds) Q (F0 m pc ls rest) q) : W p l e R s m args below meth c H locs k n Q (F0 m pc ls st0) := by
  refine W.know fun h1 h2 => ?_
  intro T hT X
  rcases hr T hT X with ⟨v, st₀, t, T', L, h0, X', hL, e1, e2, ⟨⟨r, dc, ds, ws', hv, hpo, hW, z1, z2⟩, hF⟩, st⟩ | ⟨q, st₀, t, T', L, E, ce, h0, X', hL, e1, e2, ⟨⟨dc, ds, ws', hpx, hW, z1, z2⟩, hF⟩, hce, hcv, hcl, st⟩
  · cases hv
    obtain ⟨k1, k2, k3⟩ := vx_keep h0 e1 hS (fun q _ h => h) (fun q h => h) hL hF
    rw [h0, ← e1] at z1 z2
    rw [← e1] at hW
    obtain ⟨t2, a1, b1⟩ := (W.tight (k := k + mc1) (n := n + ms1) (by omega) (by omega) (kk v dc ds ws' hpo T'.heap (locs ++ L) k3 (hW.mono fun w h => sepL_unpack h))) T' rfl X'
    exact ⟨t2, st t2 a1, b1⟩
  · obtain ⟨k1, k2, k3⟩ := vx_keep h0 e1 hS (fun q _ h => h) (fun q h => h) hL hF
    rw [h0, ← e1] at z1 z2
    rw [← e1] at hW
    obtain ⟨t2, a1, b1⟩ := (vx_W.tight (k := k + mc1) (n := n + ms1) (by omega) (by omega) (kx E dc ds ws' hpx T'.heap (locs ++ L) q ce k3 (hW.mono fun w h => sepL_unpack h) (by rw [e1]; exact hce) hcv hcl)) T' rfl X'
    exact ⟨t2, st.trans a1, b1⟩
theorem vx_Run.of {g : JFrame} {Qa : State → Outcome → State → Prop} {XC : String → State → State → Prop} {free : Addr → Prop} (h : va_Run p l e R s m args below meth c H locs k n mc1 ms1 g rest Qa free) : vx_Run p l e R s m args below meth c H locs k n mc1 ms1 g rest Qa XC free := fun T hT X => Or.inl (h T hT X)
end RB
theorem Ctr.met {g : GT} {M : MD} {d mc ms : Nat} {av : List Value} {pre : List Asn} {po : PoT} (h : Ctr g M d mc ms av pre po noX) (F : Asn) : Met g.1 M.1 [.code M.1 M.2.1 M.2.2.1 M.2.2.2] (rmD d mc ms) (PcO g av pre F) (QcO g po F) mc ms (A9 g.2.1) := by
  intro p e h1 h2 h3 s m args below h4 h5 h6 h7
  obtain ⟨n, o, g1, g2, g3, g4⟩ := h F p e h1 h2 h3 s m args below h4 h5 h6 h7
  refine ⟨n, o, g1, g2, g3, ?_⟩
  rcases g4 with g4 | ⟨q, -, E, ce, L, ⟨⟨dc, ds, ws', hx, -⟩, -⟩, -⟩
  · exact g4
  · exact hx.elim
def Rcv (pre : List Asn) (a ci : Nat) : Prop := ∀ w, sepL pre w → ∃ fs : List Value, (a, Sum.inr (ci, fs)) ∈ w
theorem rcv_0 {P : Asn} {L : List Asn} {a ci : Nat} (h : ∀ w, P w → ∃ fs : List Value, (a, Sum.inr (ci, fs)) ∈ w) : Rcv (P :: L) a ci := by
  rintro w ⟨w1, w2, hp, h1, h2⟩
  obtain ⟨fs, hf⟩ := h w1 h1
  exact ⟨fs, hp.symm.subset (List.mem_append_left _ hf)⟩
theorem rcv_pt {L : List Asn} {a ci : Nat} {fs : List Value} : Rcv (pt a (.inr (ci, fs)) :: L) a ci := rcv_0 fun w h => ⟨fs, by rw [show w = [(a, .inr (ci, fs))] from h]; exact List.mem_cons_self⟩
/-- a contract of an instance method, on an object of class ci -/
def CtrV (g : GT) (M : MD) (ci d mc ms : Nat) (a : Nat) (As : List Value) (pre : List Asn) (po : PoT) (px : PxT) : Prop := Rcv pre a ci ∧ Ctr g M d mc ms (.ref a :: As) pre po px
section JC
variable {X : XT} {own : String} {cc : ByteArray} {nL d mc ms : Nat} {ws fr pre : List Asn} {k n pc : Nat} {lv : List (Option Value)} {st rest : List Value} {a : Nat} {M : MD} {ci d1 mc1 ms1 na index : Nat} {As : List Value} {po : PoT} {px : PxT}
theorem CB.of {g : GT} (hG : GLB g) {s : State} (hwm : g.2.1.WarmedH s.vm) {args : Array Value} {R : Room} (h : CB own index M na) (hl : (Cond.methodLink own index M.1).before args s = true) (hfr : d ≤ R.frames) (hlo : 46 * d ≤ R.locals) (hd : d1 + 1 ≤ d) : CallB R s args own index M.1 M.2.1 M.2.2.1 M.2.2.2 [.code M.1 M.2.1 M.2.2.1 M.2.2.2] (rmD d1 mc1 ms1) mc1 ms1 na := by
  obtain ⟨h1, h2, h3, h4, h5⟩ := h
  refine ⟨rfl, rfl, by show d1 + 1 ≤ _; omega, by show 8 + (M.2.2.1 + 11) + 46 * d1 ≤ _; omega, ?_, List.mem_cons_self, hG.word hwm h2 _, hG.word hwm h1 _, h3, fun sig h => ?_, hl⟩
  · intro w hw a' U hU
    rcases List.mem_singleton.mp hw with rfl
    exact hG.word (hwm.trans hU) h2 _
  · rw [h] at h4
    exact (Option.some.inj h4).symm
theorem j_callVX (E : JE X own cc nL d mc ms) (K : CtrV X.1 M ci d1 mc1 ms1 a As pre po px) (pc' : Nat) (hd : decode cc pc = .ok (.invokevirtual index, 3)) (C : String) (T : u_T) (N : Nat) (cv : CV own index C M na) (hci : clsL[ci]? = some (C, T, N)) (hna : As.length = na) (hst : st = As.reverse ++ .ref a :: rest) (sel : Sel ws pre fr) (hd1 : d1 + 1 ≤ d) (hmc : k + mc1 ≤ mc) (hms : n + ms1 ≤ ms) (hrest : (rest.map fun v => v.category).sum ≤ 8) (hpc : pc + 3 = pc')
    (kk : ∀ r dc ds ws', po r dc ds ws' → J X nL (ws' ++ fr) (k + dc) (n + ds) pc' lv (r.toList ++ rest)) (kx : ∀ E dc ds ws', px E dc ds ws' → JX X nL (ws' ++ fr) (k + dc) (n + ds) pc lv E) : J X nL ws k n pc lv st := by
  obtain ⟨⟨l, s0, D, ca⟩, p, e, R, s, m, args, below, meth, c, Q⟩ := X
  obtain ⟨hx, hb, hml, hown, hwm, hold, hlocks, hG, hfr, hlo, hrc, hrs⟩ := E
  subst hpc
  obtain ⟨hrcv, K⟩ := K
  obtain ⟨hB, hl1, hi1, hs1⟩ := cv
  intro H locs ls hS hw hls
  have hH : Old s0 H := hold.S hS
  have hpk : Wld s0 D (pre ++ [sepL fr]) H := hw.mono fun w h => sepL_pack (sel w h)
  have hre : ∃ cellB : Cell, H[a]? = some cellB ∧ cellB.vm.isStatics = false ∧ s.vm.findClass C = some cellB.cls := by
    obtain ⟨w, hP, -, hs⟩ := hw
    obtain ⟨w1, w2, hp, h1, -⟩ := sel w hs
    obtain ⟨fs, hfs⟩ := hrcv w1 h1
    obtain ⟨q, hq⟩ := List.getElem?_of_mem (hp.symm.subset (List.mem_append_left _ hfs))
    exact va_recv (hG.K hwm) hP hci hq
  refine run_J (vx_runV (rest := rest) (As := As) (b := a) (nL := nL) (Ts := []) ⟨hx, hb, hml, hown, fun _ h => absurd h List.not_mem_nil⟩ (K (sepL fr)) ⟨hB.of hG hwm (hG.word hwm hl1 _) hfr hlo hd1, hG.word hwm hi1 _, hG.word hwm hs1 _⟩ ⟨PcO_blind, hre, fun U hU hW => ⟨rfl, hwm.trans hW, by rw [hU]; exact hH, by rw [hU]; exact hpk⟩⟩ rfl hna hls.1 hst (lv_room hrest) hd ⟨Nat.le_trans hmc hrc, Nat.le_trans hms hrs⟩) hS ?_ ?_
  · intro r dc ds ws' hpo H1 locs1 hS1 hw1
    exact kk r dc ds ws' hpo H1 locs1 ls hS1 hw1 hls
  · intro E dc ds ws' hpo H1 locs1 q ce hS1 hw1 h1 h2 h3
    exact kx E dc ds ws' hpo H1 locs1 ls q ce rest hS1 hw1 hls h1 h2 h3
theorem j_callV (E : JE X own cc nL d mc ms) (K : CtrV X.1 M ci d1 mc1 ms1 a As pre po noX) (pc' : Nat) (hd : decode cc pc = .ok (.invokevirtual index, 3)) (C : String) (T : u_T) (N : Nat) (cv : CV own index C M na) (hci : clsL[ci]? = some (C, T, N)) (hna : As.length = na) (hst : st = As.reverse ++ .ref a :: rest) (sel : Sel ws pre fr) (hd1 : d1 + 1 ≤ d) (hmc : k + mc1 ≤ mc) (hms : n + ms1 ≤ ms) (hrest : (rest.map fun v => v.category).sum ≤ 8) (hpc : pc + 3 = pc')
    (kk : ∀ r dc ds ws', po r dc ds ws' → J X nL (ws' ++ fr) (k + dc) (n + ds) pc' lv (r.toList ++ rest)) : J X nL ws k n pc lv st :=
  j_callVX E K pc' hd C T N cv hci hna hst sel hd1 hmc hms hrest hpc kk (fun _ _ _ _ h => h.elim)
theorem j_callSX (E : JE X own cc nL d mc ms) (K : Ctr X.1 M d1 mc1 ms1 As pre po px) (pc' : Nat) (hd : decode cc pc = .ok (.invokestatic index, 3)) (cv : CS own index M na) (hna : As.length = na) (hst : st = As.reverse ++ rest) (sel : Sel ws pre fr) (hd1 : d1 + 1 ≤ d) (hmc : k + mc1 ≤ mc) (hms : n + ms1 ≤ ms) (hrest : (rest.map fun v => v.category).sum ≤ 8) (hpc : pc + 3 = pc')
    (kk : ∀ r dc ds ws', po r dc ds ws' → J X nL (ws' ++ fr) (k + dc) (n + ds) pc' lv (r.toList ++ rest)) (kx : ∀ E dc ds ws', px E dc ds ws' → JX X nL (ws' ++ fr) (k + dc) (n + ds) pc lv E) : J X nL ws k n pc lv st := by
  obtain ⟨⟨l, s0, D, ca⟩, p, e, R, s, m, args, below, meth, c, Q⟩ := X
  obtain ⟨hx, hb, hml, hown, hwm, hold, hlocks, hG, hfr, hlo, hrc, hrs⟩ := E
  subst hpc
  obtain ⟨hB, hl1, hs1⟩ := cv
  intro H locs ls hS hw hls
  have hH : Old s0 H := hold.S hS
  have hpk : Wld s0 D (pre ++ [sepL fr]) H := hw.mono fun w h => sepL_pack (sel w h)
  refine run_J (vx_runS (rest := rest) (As := As) (nL := nL) (Ts := []) ⟨hx, hb, hml, hown, fun _ h => absurd h List.not_mem_nil⟩ (K (sepL fr)) ⟨hB.of hG hwm (hG.word hwm hl1 _) hfr hlo hd1, hG.word hwm hs1 _⟩ ⟨PcO_blind, fun U hU hW => ⟨rfl, hwm.trans hW, by rw [hU]; exact hH, by rw [hU]; exact hpk⟩⟩ rfl hna hls.1 hst (lv_room hrest) hd ⟨Nat.le_trans hmc hrc, Nat.le_trans hms hrs⟩) hS ?_ ?_
  · intro r dc ds ws' hpo H1 locs1 hS1 hw1
    exact kk r dc ds ws' hpo H1 locs1 ls hS1 hw1 hls
  · intro E dc ds ws' hpo H1 locs1 q ce hS1 hw1 h1 h2 h3
    exact kx E dc ds ws' hpo H1 locs1 ls q ce rest hS1 hw1 hls h1 h2 h3
theorem j_callS (E : JE X own cc nL d mc ms) (K : Ctr X.1 M d1 mc1 ms1 As pre po noX) (pc' : Nat) (hd : decode cc pc = .ok (.invokestatic index, 3)) (cv : CS own index M na) (hna : As.length = na) (hst : st = As.reverse ++ rest) (sel : Sel ws pre fr) (hd1 : d1 + 1 ≤ d) (hmc : k + mc1 ≤ mc) (hms : n + ms1 ≤ ms) (hrest : (rest.map fun v => v.category).sum ≤ 8) (hpc : pc + 3 = pc')
    (kk : ∀ r dc ds ws', po r dc ds ws' → J X nL (ws' ++ fr) (k + dc) (n + ds) pc' lv (r.toList ++ rest)) : J X nL ws k n pc lv st :=
  j_callSX E K pc' hd cv hna hst sel hd1 hmc hms hrest hpc kk (fun _ _ _ _ h => h.elim)
theorem j_callI (E : JE X own cc nL d mc ms) (K : Ctr X.1 M d1 mc1 ms1 (.ref a :: As) pre po noX) (pc' : Nat) (hd : decode cc pc = .ok (.invokespecial index, 3)) (cv : CI own index M na) (hna : As.length = na) (hst : st = As.reverse ++ .ref a :: rest) (sel : Sel ws pre fr) (hd1 : d1 + 1 ≤ d) (hmc : k + mc1 ≤ mc) (hms : n + ms1 ≤ ms) (hrest : (rest.map fun v => v.category).sum ≤ 8) (hpc : pc + 3 = pc')
    (kk : ∀ r dc ds ws', po r dc ds ws' → J X nL (ws' ++ fr) (k + dc) (n + ds) pc' lv (r.toList ++ rest)) : J X nL ws k n pc lv st := by
  obtain ⟨⟨l, s0, D, ca⟩, p, e, R, s, m, args, below, meth, c, Q⟩ := X
  obtain ⟨hx, hb, hml, hown, hwm, hold, hlocks, hG, hfr, hlo, hrc, hrs⟩ := E
  subst hpc
  obtain ⟨hB, hl1, hi1, hnm, hret⟩ := cv
  intro H locs ls hS hw hls
  have hH : Old s0 H := hold.S hS
  have hpk : Wld s0 D (pre ++ [sepL fr]) H := hw.mono fun w h => sepL_pack (sel w h)
  have hM := K.met (sepL fr)
  have hCB := hB.of hG (s := s) (args := args) (R := R) (mc1 := mc1) (ms1 := ms1) hwm (hG.word hwm hl1 _) hfr hlo hd1
  rw [hret] at hM hCB
  refine run_J (px := noX) (vx_Run.of (va_runI (rest := rest) (As := As) (b := a) (nL := nL) (Ts := []) ⟨hx, hb, hml, hown, fun _ h => absurd h List.not_mem_nil⟩ hM ⟨hCB, hnm, hG.word hwm hi1 _⟩ ⟨PcO_blind, fun U hU hW => ⟨rfl, hwm.trans hW, by rw [hU]; exact hH, by rw [hU]; exact hpk⟩⟩ rfl hna hls.1 hst (lv_room hrest) hd ⟨Nat.le_trans hmc hrc, Nat.le_trans hms hrs⟩)) hS ?_ (fun _ _ _ _ h => h.elim)
  intro r dc ds ws' hpo H1 locs1 hS1 hw1
  exact kk r dc ds ws' hpo H1 locs1 ls hS1 hw1 hls
theorem j_callIn (E : JE X own cc nL d mc ms) (K : Ctr X.1 M d1 mc1 ms1 (.ref a :: As) pre po noX) (pc' : Nat) (hd : decode cc pc = .ok (.invokespecial index, 3)) (cv : CIn own index M na) (hna : As.length = na) (hst : st = As.reverse ++ .ref a :: rest) (sel : Sel ws pre fr) (hd1 : d1 + 1 ≤ d) (hmc : k + mc1 ≤ mc) (hms : n + ms1 ≤ ms) (hrest : (rest.map fun v => v.category).sum ≤ 8) (hpc : pc + 3 = pc')
    (kk : ∀ r dc ds ws', po r dc ds ws' → J X nL (ws' ++ fr) (k + dc) (n + ds) pc' lv (r.toList ++ rest)) : J X nL ws k n pc lv st := by
  obtain ⟨⟨l, s0, D, ca⟩, p, e, R, s, m, args, below, meth, c, Q⟩ := X
  obtain ⟨hx, hb, hml, hown, hwm, hold, hlocks, hG, hfr, hlo, hrc, hrs⟩ := E
  subst hpc
  obtain ⟨host, ⟨h1, h2, h3, h4, h5⟩, hl1, hi1, hnm, hret⟩ := cv
  intro H locs ls hS hw hls
  have hH : Old s0 H := hold.S hS
  have hpk : Wld s0 D (pre ++ [sepL fr]) H := hw.mono fun w h => sepL_pack (sel w h)
  have hM := K.met (sepL fr)
  rw [hret] at hM h2
  refine run_J (px := noX) (vx_Run.of (va_runIN (host := host) (bytes := M.2.1) (maxL := M.2.2.1) (ws := [.code M.1 M.2.1 M.2.2.1 none]) (rest := rest) (As := As) (b := a) (nL := nL) (n := na) (Ts := [.code M.1 M.2.1 M.2.2.1 none]) ⟨hx, hb, hml, hown, fun w hw => by rcases List.mem_singleton.mp hw with rfl; exact hG.word hwm h2 _⟩ hM ?_ ⟨PcO_blind, fun U hU hW => ⟨rfl, hwm.trans hW, by rw [hU]; exact hH, by rw [hU]; exact hpk⟩⟩ rfl hna hls.1 hst (lv_room hrest) hd ⟨Nat.le_trans hmc hrc, Nat.le_trans hms hrs⟩)) hS ?_ (fun _ _ _ _ h => h.elim)
  · refine ⟨⟨⟨rfl, rfl, by show d1 + 1 ≤ _; omega, by show 8 + (M.2.2.1 + 11) + 46 * d1 ≤ _; omega, ?_, List.mem_cons_self⟩, hG.word hwm h2 _, hG.word hwm h1 _, h3, fun sig h => ?_, va_Nw.use rfl (va_Nw.warmM hwm (hG.2.1 _ hl1 #[]))⟩, hnm, hG.word hwm hi1 _⟩
    · intro w hw a' U hU
      rcases List.mem_singleton.mp hw with rfl
      exact hG.word (hwm.trans hU) h2 _
    · rw [h] at h4
      exact (Option.some.inj h4).symm
  · intro r dc ds ws' hpo H1 locs1 hS1 hw1
    exact kk r dc ds ws' hpo H1 locs1 ls hS1 hw1 hls
end JC

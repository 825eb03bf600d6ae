/-! bodies and their ends -/
theorem ctr_intro {g : GT} {M : MD} {d mc ms : Nat} {av : List Value} {pre : List Asn} {po : PoT} {px : PxT} (hG : GLB g) (hy : plainName M.1.cls = true) (hlen : (lg_sl av).length ≤ M.2.2.1)
    (body : ∀ (X : XT) (F : Asn), X.1 = g → JE X M.1.cls M.2.1 M.2.2.1 d mc ms → JB X M.2.2.2 po px F mc ms → (M.1.name = "<init>" → JIn X) → (∀ x ∈ X.2.2.2.2.2.2.2.2.2.1.exceptionTable.toList, False) → J X M.2.2.1 (pre ++ [F]) 0 0 0 (lE av M.2.2.1) []) : Ctr g M d mc ms av pre po px := by
  intro F
  refine vx_ofW (cc := M.2.1) (maxL := M.2.2.1) (ret := M.2.2.2) hy rfl ?_
  intro p e s m args below meth c s₁ B hml ht hv
  obtain ⟨rfl, hwm, hold, hw⟩ := hv
  have hown : s.vm.findClass M.1.cls = some m.cls := findClass_of_methodNamed B.named
  rw [lg_entry_eq]
  exact body (g, p, e, rmD d mc ms, s, m, av.toArray, below, meth, c, _) F rfl ⟨B.exec, B.bytes, hml, hown, hwm, hold, B.notSynchronized, hG, Nat.le_refl _, Nat.le_refl _, Nat.le_refl _, Nat.le_refl _⟩ ⟨B.returns, rfl⟩ (fun h => ((name_of_methodNamed B.named B.method).1).trans h) ht s.heap [] _ va_S.rf hw (lE_has (lv_entry av hlen))
section JT
variable {X : XT} {own : String} {cc : ByteArray} {nL d mc ms : Nat} {ws fr pre ws1 : List Asn} {k n pc : Nat} {lv : List (Option Value)} {st rest : List Value} {a : Nat} {po : PoT} {px : PxT} {F : Asn} {ret : Option FieldType}
/-- the world is seen as another -/
theorem j_mono {ws' : List Asn} (h : ∀ w, sepL ws w → sepL ws' w) (kk : J X nL ws' k n pc lv st) : J X nL ws k n pc lv st := by
  obtain ⟨⟨l, s0, D, ca⟩, p, e, R, s, m, args, below, meth, c, Q⟩ := X
  intro H locs ls hS hw hl
  exact kk H locs ls hS (hw.mono h) hl
theorem j_sel (h : Sel ws pre fr) (kk : J X nL pre k n pc lv st) : J X nL ws k n pc lv st := by
  obtain ⟨⟨l, s0, D, ca⟩, p, e, R, s, m, args, below, meth, c, Q⟩ := X
  intro H locs ls hS hw hl
  exact kk H locs ls hS (hw.sel h) hl
/-- a part is opened: what it says, and what it is made of -/
theorem j_open {P : Asn} {α : Type} {φ : α → Prop} {qs : α → List Asn} (hp : Pick ws P ws1) (hP : ∀ w, P w → ∃ x, φ x ∧ sepL (qs x) w) (kk : ∀ x, φ x → J X nL (qs x ++ ws1) k n pc lv st) : J X nL ws k n pc lv st := by
  obtain ⟨⟨l, s0, D, ca⟩, p, e, R, s, m, args, below, meth, c, Q⟩ := X
  intro H locs ls hS hw hl
  obtain ⟨w, h1, h2, h3⟩ := hw
  obtain ⟨w1, w2, g1, g2, g3⟩ := hp w h3
  obtain ⟨x, hx, hq⟩ := hP w1 g2
  exact kk x hx H locs ls hS ⟨w, h1, h2, sepL_join ⟨w1, w2, g1, hq, g3⟩⟩ hl
/-- what the world says, without opening it -/
theorem j_know {φ : Prop} (hP : ∀ w, sepL ws w → φ) (kk : φ → J X nL ws k n pc lv st) : J X nL ws k n pc lv st := by
  obtain ⟨⟨l, s0, D, ca⟩, p, e, R, s, m, args, below, meth, c, Q⟩ := X
  intro H locs ls hS hw hl
  obtain ⟨w, h1, h2, h3⟩ := id hw
  exact kk (hP w h3) H locs ls hS hw hl
/-- parts are put together -/
theorem j_close {P : Asn} {qs : List Asn} (hs : Sel ws qs ws1) (hP : ∀ w, sepL qs w → P w) (kk : J X nL (P :: ws1) k n pc lv st) : J X nL ws k n pc lv st := by
  refine j_mono (fun w h => ?_) kk
  obtain ⟨w1, w2, g1, g2, g3⟩ := hs w h
  exact ⟨w1, w2, g1, hP w1 g2, g3⟩
theorem j_less {lv' : List (Option Value)} (h : ∀ (i : Nat) (v : Value), lv'[i]? = some (some v) → lv[i]? = some (some v)) (kk : J X nL ws k n pc lv' st) : J X nL ws k n pc lv st := by
  obtain ⟨⟨l, s0, D, ca⟩, p, e, R, s, m, args, below, meth, c, Q⟩ := X
  intro H locs ls hS hw hl
  exact kk H locs ls hS hw (hl.less h)
theorem j_forget (i : Nat) (kk : J X nL ws k n pc (lv.set i none) st) : J X nL ws k n pc lv st := by
  refine j_less (fun j v h => ?_) kk
  by_cases hij : i = j
  · subst hij
    have hl := (List.getElem?_eq_some_iff.mp h).1
    rw [List.length_set] at hl
    rw [List.getElem?_set_self hl] at h
    cases h
  · rw [List.getElem?_set_ne hij] at h
    exact h
/-- more room used -/
theorem j_widen {k' n' : Nat} (h1 : k ≤ k') (h2 : n ≤ n') (kk : J X nL ws k' n' pc lv st) : J X nL ws k n pc lv st := by
  obtain ⟨⟨l, s0, D, ca⟩, p, e, R, s, m, args, below, meth, c, Q⟩ := X
  intro H locs ls hS hw hl
  exact W.widen h1 h2 (kk H locs ls hS hw hl)
theorem j_topi {x : Int32} (kk : ∀ y : Int32, y = x → J X nL ws k n pc lv (.int y :: st)) : J X nL ws k n pc lv (.int x :: st) := kk x rfl
theorem j_topl {x : Int64} (kk : ∀ y : Int64, y = x → J X nL ws k n pc lv (.long y :: st)) : J X nL ws k n pc lv (.long x :: st) := kk x rfl
theorem j_eqi {x y : Int32} (h : x = y) (kk : J X nL ws k n pc lv (.int y :: st)) : J X nL ws k n pc lv (.int x :: st) := h ▸ kk
theorem j_eql {x y : Int64} (h : x = y) (kk : J X nL ws k n pc lv (.long y :: st)) : J X nL ws k n pc lv (.long x :: st) := h ▸ kk
theorem j_eqv {x y : Value} (h : x = y) (kk : J X nL ws k n pc lv (y :: st)) : J X nL ws k n pc lv (x :: st) := h ▸ kk
/-- the end's Q -/
theorem QcO_of {l : Launch} {s0 s t : State} {D : va_G} {ca : Nat → ClassId} {H : Heap} {locs : List Loc} {r : Option Value} {dc ds : Nat} {ws' : List Asn} {a : Array Value} (hpo : po r dc ds ws') (hs : Sel ws (ws' ++ [F]) fr) (hk : k ≤ dc) (hn : n ≤ ds) (hS : va_S (A9 s0) s.heap H locs) (hw : Wld s0 D ws H) (h1 : H.size ≤ s.heap.size + k) (h2 : slotSum H ≤ slotSum s.heap + n) (ht : t.heap = H) : QcO (l, s0, D, ca) po F a s (.returned r) t :=
  ⟨⟨r, dc, ds, ws', rfl, hpo, by rw [ht]; exact hw.sel hs, by rw [ht]; omega, by rw [ht]; omega⟩, hS.F ht⟩
theorem j_iret (E : JE X own cc nL d mc ms) (B : JB X ret po px F mc ms) (hret : ret = some .int) {v : Int32} (dc ds : Nat) {ws' : List Asn} (hd : decode cc pc = .ok (.ireturn, 1)) (hs : Sel ws (ws' ++ [F]) fr) (hpo : po (some (.int v)) dc ds ws') (hk : k ≤ dc) (hn : n ≤ ds) (hmk : k ≤ mc) (hmn : n ≤ ms) : J X nL ws k n pc lv [.int v] := by
  obtain ⟨⟨l, s0, D, ca⟩, p, e, R, s, m, args, below, meth, c, Q⟩ := X
  obtain ⟨hx, hb, hml, hown, hwm, hold, hlocks, hG, hfr, hlo, hrc, hrs⟩ := E
  obtain ⟨hr, rfl⟩ := B
  subst hret
  intro H locs ls hS hw hl
  refine W.know fun h1 h2 => W.widen hmk hmn (vx_ret ?_)
  exact W.iret hx hb hr (fun t ht hW => QcO_of hpo hs hk hn hS hw h1 h2 ht) hS.2.2 hd
theorem j_zret (E : JE X own cc nL d mc ms) (B : JB X ret po px F mc ms) (hret : ret = some .boolean) {v : Int32} (hv : v = 0 ∨ v = 1) (dc ds : Nat) {ws' : List Asn} (hd : decode cc pc = .ok (.ireturn, 1)) (hs : Sel ws (ws' ++ [F]) fr) (hpo : po (some (.int v)) dc ds ws') (hk : k ≤ dc) (hn : n ≤ ds) (hmk : k ≤ mc) (hmn : n ≤ ms) : J X nL ws k n pc lv [.int v] := by
  obtain ⟨⟨l, s0, D, ca⟩, p, e, R, s, m, args, below, meth, c, Q⟩ := X
  obtain ⟨hx, hb, hml, hown, hwm, hold, hlocks, hG, hfr, hlo, hrc, hrs⟩ := E
  obtain ⟨hr, rfl⟩ := B
  subst hret
  intro H locs ls hS hw hl
  refine W.know fun h1 h2 => W.widen hmk hmn (vx_ret ?_)
  exact W.zret hx hb hr (by rcases hv with rfl | rfl <;> rfl) (fun t ht hW => QcO_of hpo hs hk hn hS hw h1 h2 ht) hS.2.2 hd
theorem j_lret (E : JE X own cc nL d mc ms) (B : JB X ret po px F mc ms) (hret : ret = some .long) {v : Int64} (dc ds : Nat) {ws' : List Asn} (hd : decode cc pc = .ok (.lreturn, 1)) (hs : Sel ws (ws' ++ [F]) fr) (hpo : po (some (.long v)) dc ds ws') (hk : k ≤ dc) (hn : n ≤ ds) (hmk : k ≤ mc) (hmn : n ≤ ms) : J X nL ws k n pc lv [.long v] := by
  obtain ⟨⟨l, s0, D, ca⟩, p, e, R, s, m, args, below, meth, c, Q⟩ := X
  obtain ⟨hx, hb, hml, hown, hwm, hold, hlocks, hG, hfr, hlo, hrc, hrs⟩ := E
  obtain ⟨hr, rfl⟩ := B
  subst hret
  intro H locs ls hS hw hl
  refine W.know fun h1 h2 => W.widen hmk hmn (vx_ret ?_)
  exact W.lret hx hb hr (fun t ht hW => QcO_of hpo hs hk hn hS hw h1 h2 ht) hS.2.2 hd
theorem j_vret (E : JE X own cc nL d mc ms) (B : JB X ret po px F mc ms) (hret : ret = none) (dc ds : Nat) {ws' : List Asn} (hd : decode cc pc = .ok (.return_, 1)) (hs : Sel ws (ws' ++ [F]) fr) (hpo : po none dc ds ws') (hk : k ≤ dc) (hn : n ≤ ds) (hmk : k ≤ mc) (hmn : n ≤ ms) : J X nL ws k n pc lv [] := by
  obtain ⟨⟨l, s0, D, ca⟩, p, e, R, s, m, args, below, meth, c, Q⟩ := X
  obtain ⟨hx, hb, hml, hown, hwm, hold, hlocks, hG, hfr, hlo, hrc, hrs⟩ := E
  obtain ⟨hr, rfl⟩ := B
  subst hret
  intro H locs ls hS hw hl
  refine W.know fun h1 h2 => W.widen hmk hmn (vx_ret ?_)
  exact W.vret hx hb hr (fun t ht hW => QcO_of hpo hs hk hn hS hw h1 h2 ht) hS.2.2 hd
theorem j_aret (E : JE X own cc nL d mc ms) (B : JB X ret po px F mc ms) {rt : FieldType} (hret : ret = some rt) (hrt : (∃ n, rt = .object n) ∨ ∃ t, rt = .array t) {v : Value} (hv : v = .null ∨ ∃ a, v = .ref a) (dc ds : Nat) {ws' : List Asn} (hd : decode cc pc = .ok (.areturn, 1)) (hs : Sel ws (ws' ++ [F]) fr) (hpo : po (some v) dc ds ws') (hk : k ≤ dc) (hn : n ≤ ds) (hmk : k ≤ mc) (hmn : n ≤ ms) : J X nL ws k n pc lv [v] := by
  obtain ⟨⟨l, s0, D, ca⟩, p, e, R, s, m, args, below, meth, c, Q⟩ := X
  obtain ⟨hx, hb, hml, hown, hwm, hold, hlocks, hG, hfr, hlo, hrc, hrs⟩ := E
  obtain ⟨hr, rfl⟩ := B
  subst hret
  intro H locs ls hS hw hl
  refine W.know fun h1 h2 => W.widen hmk hmn (vx_ret ?_)
  exact W.aret hx hb hr hrt hv (fun t ht hW => QcO_of hpo hs hk hn hS hw h1 h2 ht) hS.2.2 hd
/-- not caught: on to the caller -/
theorem jx_out (E : JE X own cc nL d mc ms) (B : JB X ret po px F mc ms) (T : ∀ x ∈ X.2.2.2.2.2.2.2.2.2.1.exceptionTable.toList, False) {En : String} (dc ds : Nat) {ws' : List Asn} (hs : Sel ws (ws' ++ [F]) fr) (hpx : px En dc ds ws') (hk : k ≤ dc) (hn : n ≤ ds) (hmk : k ≤ mc) (hmn : n ≤ ms) : JX X nL ws k n pc lv En := by
  obtain ⟨⟨l, s0, D, ca⟩, p, e, R, s, m, args, below, meth, c, Q⟩ := X
  obtain ⟨hx, hb, hml, hown, hwm, hold, hlocks, hG, hfr, hlo, hrc, hrs⟩ := E
  obtain ⟨hr, rfl⟩ := B
  intro H locs ls q ce rest hS hw hl h1 h2 h3
  refine vx_W.know fun g1 g2 => ?_
  exact vx_out (fun x hx => (T x hx).elim) hlocks h1 h2 h3 (fun t ht _ => ⟨⟨dc, ds, ws', hpx, by rw [ht]; exact hw.sel hs, by rw [ht]; omega, by rw [ht]; omega⟩, hS.F ht⟩) hS.2.2 hmk hmn
end JT
theorem pk_0 {P : Asn} {L : List Asn} : Pick (P :: L) P L := pick_0
theorem pk_1 {A0 P : Asn} {L : List Asn} : Pick (A0 :: P :: L) P (A0 :: L) := pick_s pk_0
theorem pk_2 {A0 A1 P : Asn} {L : List Asn} : Pick (A0 :: A1 :: P :: L) P (A0 :: A1 :: L) := pick_s pk_1
theorem pk_3 {A0 A1 A2 P : Asn} {L : List Asn} : Pick (A0 :: A1 :: A2 :: P :: L) P (A0 :: A1 :: A2 :: L) := pick_s pk_2
theorem pk_4 {A0 A1 A2 A3 P : Asn} {L : List Asn} : Pick (A0 :: A1 :: A2 :: A3 :: P :: L) P (A0 :: A1 :: A2 :: A3 :: L) := pick_s pk_3
theorem pk_5 {A0 A1 A2 A3 A4 P : Asn} {L : List Asn} : Pick (A0 :: A1 :: A2 :: A3 :: A4 :: P :: L) P (A0 :: A1 :: A2 :: A3 :: A4 :: L) := pick_s pk_4
theorem pk_6 {A0 A1 A2 A3 A4 A5 P : Asn} {L : List Asn} : Pick (A0 :: A1 :: A2 :: A3 :: A4 :: A5 :: P :: L) P (A0 :: A1 :: A2 :: A3 :: A4 :: A5 :: L) := pick_s pk_5
theorem pk_7 {A0 A1 A2 A3 A4 A5 A6 P : Asn} {L : List Asn} : Pick (A0 :: A1 :: A2 :: A3 :: A4 :: A5 :: A6 :: P :: L) P (A0 :: A1 :: A2 :: A3 :: A4 :: A5 :: A6 :: L) := pick_s pk_6
theorem pk_8 {A0 A1 A2 A3 A4 A5 A6 A7 P : Asn} {L : List Asn} : Pick (A0 :: A1 :: A2 :: A3 :: A4 :: A5 :: A6 :: A7 :: P :: L) P (A0 :: A1 :: A2 :: A3 :: A4 :: A5 :: A6 :: A7 :: L) := pick_s pk_7
theorem pk_9 {A0 A1 A2 A3 A4 A5 A6 A7 A8 P : Asn} {L : List Asn} : Pick (A0 :: A1 :: A2 :: A3 :: A4 :: A5 :: A6 :: A7 :: A8 :: P :: L) P (A0 :: A1 :: A2 :: A3 :: A4 :: A5 :: A6 :: A7 :: A8 :: L) := pick_s pk_8
theorem pk_10 {A0 A1 A2 A3 A4 A5 A6 A7 A8 A9 P : Asn} {L : List Asn} : Pick (A0 :: A1 :: A2 :: A3 :: A4 :: A5 :: A6 :: A7 :: A8 :: A9 :: P :: L) P (A0 :: A1 :: A2 :: A3 :: A4 :: A5 :: A6 :: A7 :: A8 :: A9 :: L) := pick_s pk_9
theorem pk_11 {A0 A1 A2 A3 A4 A5 A6 A7 A8 A9 A10 P : Asn} {L : List Asn} : Pick (A0 :: A1 :: A2 :: A3 :: A4 :: A5 :: A6 :: A7 :: A8 :: A9 :: A10 :: P :: L) P (A0 :: A1 :: A2 :: A3 :: A4 :: A5 :: A6 :: A7 :: A8 :: A9 :: A10 :: L) := pick_s pk_10
theorem pk_12 {A0 A1 A2 A3 A4 A5 A6 A7 A8 A9 A10 A11 P : Asn} {L : List Asn} : Pick (A0 :: A1 :: A2 :: A3 :: A4 :: A5 :: A6 :: A7 :: A8 :: A9 :: A10 :: A11 :: P :: L) P (A0 :: A1 :: A2 :: A3 :: A4 :: A5 :: A6 :: A7 :: A8 :: A9 :: A10 :: A11 :: L) := pick_s pk_11
theorem pk_13 {A0 A1 A2 A3 A4 A5 A6 A7 A8 A9 A10 A11 A12 P : Asn} {L : List Asn} : Pick (A0 :: A1 :: A2 :: A3 :: A4 :: A5 :: A6 :: A7 :: A8 :: A9 :: A10 :: A11 :: A12 :: P :: L) P (A0 :: A1 :: A2 :: A3 :: A4 :: A5 :: A6 :: A7 :: A8 :: A9 :: A10 :: A11 :: A12 :: L) := pick_s pk_12
theorem pk_14 {A0 A1 A2 A3 A4 A5 A6 A7 A8 A9 A10 A11 A12 A13 P : Asn} {L : List Asn} : Pick (A0 :: A1 :: A2 :: A3 :: A4 :: A5 :: A6 :: A7 :: A8 :: A9 :: A10 :: A11 :: A12 :: A13 :: P :: L) P (A0 :: A1 :: A2 :: A3 :: A4 :: A5 :: A6 :: A7 :: A8 :: A9 :: A10 :: A11 :: A12 :: A13 :: L) := pick_s pk_13
theorem pk_15 {A0 A1 A2 A3 A4 A5 A6 A7 A8 A9 A10 A11 A12 A13 A14 P : Asn} {L : List Asn} : Pick (A0 :: A1 :: A2 :: A3 :: A4 :: A5 :: A6 :: A7 :: A8 :: A9 :: A10 :: A11 :: A12 :: A13 :: A14 :: P :: L) P (A0 :: A1 :: A2 :: A3 :: A4 :: A5 :: A6 :: A7 :: A8 :: A9 :: A10 :: A11 :: A12 :: A13 :: A14 :: L) := pick_s pk_14
theorem pk_16 {A0 A1 A2 A3 A4 A5 A6 A7 A8 A9 A10 A11 A12 A13 A14 A15 P : Asn} {L : List Asn} : Pick (A0 :: A1 :: A2 :: A3 :: A4 :: A5 :: A6 :: A7 :: A8 :: A9 :: A10 :: A11 :: A12 :: A13 :: A14 :: A15 :: P :: L) P (A0 :: A1 :: A2 :: A3 :: A4 :: A5 :: A6 :: A7 :: A8 :: A9 :: A10 :: A11 :: A12 :: A13 :: A14 :: A15 :: L) := pick_s pk_15
theorem pk_17 {A0 A1 A2 A3 A4 A5 A6 A7 A8 A9 A10 A11 A12 A13 A14 A15 A16 P : Asn} {L : List Asn} : Pick (A0 :: A1 :: A2 :: A3 :: A4 :: A5 :: A6 :: A7 :: A8 :: A9 :: A10 :: A11 :: A12 :: A13 :: A14 :: A15 :: A16 :: P :: L) P (A0 :: A1 :: A2 :: A3 :: A4 :: A5 :: A6 :: A7 :: A8 :: A9 :: A10 :: A11 :: A12 :: A13 :: A14 :: A15 :: A16 :: L) := pick_s pk_16
theorem pk_18 {A0 A1 A2 A3 A4 A5 A6 A7 A8 A9 A10 A11 A12 A13 A14 A15 A16 A17 P : Asn} {L : List Asn} : Pick (A0 :: A1 :: A2 :: A3 :: A4 :: A5 :: A6 :: A7 :: A8 :: A9 :: A10 :: A11 :: A12 :: A13 :: A14 :: A15 :: A16 :: A17 :: P :: L) P (A0 :: A1 :: A2 :: A3 :: A4 :: A5 :: A6 :: A7 :: A8 :: A9 :: A10 :: A11 :: A12 :: A13 :: A14 :: A15 :: A16 :: A17 :: L) := pick_s pk_17
theorem pk_19 {A0 A1 A2 A3 A4 A5 A6 A7 A8 A9 A10 A11 A12 A13 A14 A15 A16 A17 A18 P : Asn} {L : List Asn} : Pick (A0 :: A1 :: A2 :: A3 :: A4 :: A5 :: A6 :: A7 :: A8 :: A9 :: A10 :: A11 :: A12 :: A13 :: A14 :: A15 :: A16 :: A17 :: A18 :: P :: L) P (A0 :: A1 :: A2 :: A3 :: A4 :: A5 :: A6 :: A7 :: A8 :: A9 :: A10 :: A11 :: A12 :: A13 :: A14 :: A15 :: A16 :: A17 :: A18 :: L) := pick_s pk_18
theorem pk_20 {A0 A1 A2 A3 A4 A5 A6 A7 A8 A9 A10 A11 A12 A13 A14 A15 A16 A17 A18 A19 P : Asn} {L : List Asn} : Pick (A0 :: A1 :: A2 :: A3 :: A4 :: A5 :: A6 :: A7 :: A8 :: A9 :: A10 :: A11 :: A12 :: A13 :: A14 :: A15 :: A16 :: A17 :: A18 :: A19 :: P :: L) P (A0 :: A1 :: A2 :: A3 :: A4 :: A5 :: A6 :: A7 :: A8 :: A9 :: A10 :: A11 :: A12 :: A13 :: A14 :: A15 :: A16 :: A17 :: A18 :: A19 :: L) := pick_s pk_19
theorem pk_21 {A0 A1 A2 A3 A4 A5 A6 A7 A8 A9 A10 A11 A12 A13 A14 A15 A16 A17 A18 A19 A20 P : Asn} {L : List Asn} : Pick (A0 :: A1 :: A2 :: A3 :: A4 :: A5 :: A6 :: A7 :: A8 :: A9 :: A10 :: A11 :: A12 :: A13 :: A14 :: A15 :: A16 :: A17 :: A18 :: A19 :: A20 :: P :: L) P (A0 :: A1 :: A2 :: A3 :: A4 :: A5 :: A6 :: A7 :: A8 :: A9 :: A10 :: A11 :: A12 :: A13 :: A14 :: A15 :: A16 :: A17 :: A18 :: A19 :: A20 :: L) := pick_s pk_20
theorem pk_22 {A0 A1 A2 A3 A4 A5 A6 A7 A8 A9 A10 A11 A12 A13 A14 A15 A16 A17 A18 A19 A20 A21 P : Asn} {L : List Asn} : Pick (A0 :: A1 :: A2 :: A3 :: A4 :: A5 :: A6 :: A7 :: A8 :: A9 :: A10 :: A11 :: A12 :: A13 :: A14 :: A15 :: A16 :: A17 :: A18 :: A19 :: A20 :: A21 :: P :: L) P (A0 :: A1 :: A2 :: A3 :: A4 :: A5 :: A6 :: A7 :: A8 :: A9 :: A10 :: A11 :: A12 :: A13 :: A14 :: A15 :: A16 :: A17 :: A18 :: A19 :: A20 :: A21 :: L) := pick_s pk_21
theorem pk_23 {A0 A1 A2 A3 A4 A5 A6 A7 A8 A9 A10 A11 A12 A13 A14 A15 A16 A17 A18 A19 A20 A21 A22 P : Asn} {L : List Asn} : Pick (A0 :: A1 :: A2 :: A3 :: A4 :: A5 :: A6 :: A7 :: A8 :: A9 :: A10 :: A11 :: A12 :: A13 :: A14 :: A15 :: A16 :: A17 :: A18 :: A19 :: A20 :: A21 :: A22 :: P :: L) P (A0 :: A1 :: A2 :: A3 :: A4 :: A5 :: A6 :: A7 :: A8 :: A9 :: A10 :: A11 :: A12 :: A13 :: A14 :: A15 :: A16 :: A17 :: A18 :: A19 :: A20 :: A21 :: A22 :: L) := pick_s pk_22

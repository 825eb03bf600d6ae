
/-! the judgement of a walk with parts: own work over the kit's rows -/
def clsL : List vw_C := [(RX0, TX0, 2), (RX2, TX2, 4), (RX3, TX3, 4), (RX4, TX4, 5), (RX5, TX5, 8), (RX6, TX6, 3), (RX7, TX7, 6), (RX8, TX8, 36), (RJx4a65c, TJx4a65c, 3)]
def tysL (ca : Nat → ClassId) : List (ClassId × FieldType) := [(ca 0, .byte), (ca 1, .int), (ca 2, .long), (ca 3, .boolean), (ca 4, .object "java/lang/Object")]
/-- launch, the law's start, classes, array classes -/
abbrev GT : Type := Launch × State × va_G × (Nat → ClassId)
def A9 (s0 : State) : Nat → Prop := fun q => s0.heap.size ≤ q
def GLB (g : GT) : Prop := g.1.stackTraces = false ∧ (∀ w ∈ lw_tbl, ∀ a : Array Value, w.before a g.2.1 = true) ∧ va_K g.2.2.1 clsL (tysL g.2.2.2) g.2.1
def Old (s0 : State) (H : Heap) : Prop := s0.heap.size ≤ H.size ∧ ∀ q : Nat, q < s0.heap.size → H[q]? = s0.heap[q]?
def Wld (s0 : State) (D : va_G) (ws : List Asn) (H : Heap) : Prop := ∃ w, va_P D clsL w H ∧ va_D (A9 s0) w ∧ sepL ws w
def slotSum (H : Heap) : Nat := H.foldl (fun n c => n + c.slots.size) 0
abbrev XT : Type := GT × Program × Env × Room × State × MethodId × Array Value × List Frame × Method × Code × (State → Prop)
def lHas (ls : Array Slot) (nL : Nat) (lv : List (Option Value)) : Prop := ls.size = nL ∧ lv_wf ls ∧ ∀ (i : Nat) (v : Value), lv[i]? = some (some v) → ls[i]? = some (.val v)
/-- what stands at every point of a body: own class, bytes, locals, depth, room -/
def JE (X : XT) (own : String) (cc : ByteArray) (nL d mc ms : Nat) : Prop := match X with
  | ((l, s0, D, ca), p, _, R, s, m, _, _, meth, c, _) => p.tables.exec = Jvm.exec ∧ c.code = cc ∧ c.maxLocals = nL ∧ s.vm.findClass own = some m.cls ∧ s0.WarmedH s.vm ∧ Old s0 s.heap ∧ meth.locks = false ∧ GLB (l, s0, D, ca) ∧ d ≤ R.frames ∧ 46 * d ≤ R.locals ∧ mc ≤ R.cells ∧ ms ≤ R.slots
def J (X : XT) (nL : Nat) (ws : List Asn) (k n pc : Nat) (lv : List (Option Value)) (st : List Value) : Prop := match X with
  | ((l, s0, D, _), p, e, R, s, m, args, below, meth, c, Q) => ∀ (H : Heap) (locs : List Loc) (ls : Array Slot), va_S (A9 s0) s.heap H locs → Wld s0 D ws H → lHas ls nL lv → W p l e R s m args below meth c H locs k n Q (F0 m pc ls st)
/-- the same, with an exception of class E thrown at pc -/
def JX (X : XT) (nL : Nat) (ws : List Asn) (k n pc : Nat) (lv : List (Option Value)) (E : String) : Prop := match X with
  | ((l, s0, D, _), p, e, R, s, m, args, below, meth, c, Q) => ∀ (H : Heap) (locs : List Loc) (ls : Array Slot) (q : Addr) (ce : Cell) (rest : List Value), va_S (A9 s0) s.heap H locs → Wld s0 D ws H → lHas ls nL lv → H[q]? = some ce → ce.vm = .none → s.vm.findClass E = some ce.cls → vx_W p l e R s m args below meth c H locs k n Q (F0 m pc ls rest) q
abbrev PoT : Type := Option Value → Nat → Nat → List Asn → Prop
abbrev PxT : Type := String → Nat → Nat → List Asn → Prop
def noX : PxT := fun _ _ _ _ => False
def PcO (g : GT) (av : List Value) (pre : List Asn) (F : Asn) : Array Value → State → Prop := va_Pc av (fun U => g.2.1.WarmedH U.vm ∧ Old g.2.1 U.heap ∧ Wld g.2.1 g.2.2.1 (pre ++ [F]) U.heap)
def QcO (g : GT) (po : PoT) (F : Asn) : Array Value → State → Outcome → State → Prop := fun _ st oc t => (∃ (r : Option Value) (dc ds : Nat) (ws' : List Asn), oc = .returned r ∧ po r dc ds ws' ∧ Wld g.2.1 g.2.2.1 (ws' ++ [F]) t.heap ∧ t.heap.size ≤ st.heap.size + dc ∧ slotSum t.heap ≤ slotSum st.heap + ds) ∧ va_F (A9 g.2.1) st t
def XcO (g : GT) (px : PxT) (F : Asn) : String → State → State → Prop := fun E st t => (∃ (dc ds : Nat) (ws' : List Asn), px E dc ds ws' ∧ Wld g.2.1 g.2.2.1 (ws' ++ [F]) t.heap ∧ t.heap.size ≤ st.heap.size + dc ∧ slotSum t.heap ≤ slotSum st.heap + ds) ∧ va_F (A9 g.2.1) st t
/-- a method: its name, bytes, locals, what it returns -/
abbrev MD : Type := MethodName × ByteArray × Nat × Option FieldType
def rmD (d mc ms : Nat) : Room := { frames := d, cells := mc, slots := ms, locals := 46 * d }
/-- a contract, at depth d, with mc cells of ms slots at most -/
def Ctr (g : GT) (M : MD) (d mc ms : Nat) (av : List Value) (pre : List Asn) (po : PoT) (px : PxT) : Prop :=
  ∀ F : Asn, vx_Met g.1 M.1 [.code M.1 M.2.1 M.2.2.1 M.2.2.2] (rmD d mc ms) (PcO g av pre F) (QcO g po F) (XcO g px F) mc ms (A9 g.2.1)
/-- what a body owes at its end -/
def JB (X : XT) (ret : Option FieldType) (po : PoT) (px : PxT) (F : Asn) (mc ms : Nat) : Prop := match X with
  | ((l, s0, D, ca), _, _, _, s, _, args, below, meth, _, Q) => meth.sig.returnType = ret ∧ Q = vx_MQ below (QcO (l, s0, D, ca) po F) (XcO (l, s0, D, ca) px F) args s mc ms (A9 s0)
theorem slotSum_eq (H : Heap) : slotSum H = (H.toList.map (·.slots.size)).sum := by
  unfold slotSum
  rw [← Array.foldl_toList]
  have key : ∀ (l : List Cell) (n : Nat), l.foldl (fun n c => n + c.slots.size) n = n + (l.map (·.slots.size)).sum := by
    intro l
    induction l with
    | nil => intro n; simp
    | cons a l ih => intro n; simp only [List.foldl_cons, List.map_cons, List.sum_cons]; rw [ih]; omega
  rw [key]; omega
section KB
variable {p : Program} {l : Launch} {e : Env} {R : Room} {s : State} {m : MethodId} {args : Array Value} {below : List Frame} {meth : Method} {c : Code} {H : Heap} {locs : List Loc} {k n : Nat} {Q : State → Prop} {g : JFrame}
theorem stand_sum {T : State} (X : Stand p l e R s m args below meth c T locs k n) : slotSum T.heap = slotSum s.heap + ((T.heap.toList.drop s.heap.size).map (·.slots.size)).sum := by
  have h0 : s.slotsTrue = true := by
    have h := X.room
    simp only [State.hasRoom, Bool.and_eq_true] at h
    exact h.2
  have h1 := X.book
  have h4 : T.slotsUsed = s.slotsUsed + _ := X.same.2.2.2.1
  unfold State.slotsTrue at h0 h1
  rw [beq_iff_eq] at h0 h1
  unfold slotSum
  rw [← h0, ← h1]
  exact h4
theorem W.know (h : H.size ≤ s.heap.size + k → slotSum H ≤ slotSum s.heap + n → W p l e R s m args below meth c H locs k n Q g) : W p l e R s m args below meth c H locs k n Q g := by
  intro T hT X
  refine h (by rw [← hT]; exact X.heapSize) ?_ T hT X
  rw [← hT, stand_sum X]
  exact Nat.add_le_add_left X.same.2.2.2.2.1 _
theorem stand_tight {T : State} {k' n' : Nat} (X : Stand p l e R s m args below meth c T locs k n) (h1 : T.heap.size ≤ s.heap.size + k') (h2 : slotSum T.heap ≤ slotSum s.heap + n') : Stand p l e R s m args below meth c T locs k' n' := by
  have h3 := stand_sum X
  have h4 := X.same
  refine { X with same := ⟨h4.1, h4.2.1, h1, h4.2.2.2.1, ?_, h4.2.2.2.2.2⟩ }
  show ((T.heap.toList.drop s.heap.size).map (·.slots.size)).sum ≤ n'
  omega
theorem W.tight {k' n' : Nat} (h1 : H.size ≤ s.heap.size + k') (h2 : slotSum H ≤ slotSum s.heap + n') (h : W p l e R s m args below meth c H locs k' n' Q g) : W p l e R s m args below meth c H locs k n Q g := by
  intro T hT X
  exact h T hT (stand_tight X (by rw [hT]; exact h1) (by rw [hT]; exact h2))
theorem vx_W.know {q : Addr} (h : H.size ≤ s.heap.size + k → slotSum H ≤ slotSum s.heap + n → vx_W p l e R s m args below meth c H locs k n Q g q) : vx_W p l e R s m args below meth c H locs k n Q g q := by
  intro T hT X
  refine h (by rw [← hT]; exact X.heapSize) ?_ T hT X
  rw [← hT, stand_sum X]
  exact Nat.add_le_add_left X.same.2.2.2.2.1 _
theorem vx_W.tight {q : Addr} {k' n' : Nat} (h1 : H.size ≤ s.heap.size + k') (h2 : slotSum H ≤ slotSum s.heap + n') (h : vx_W p l e R s m args below meth c H locs k' n' Q g q) : vx_W p l e R s m args below meth c H locs k n Q g q := by
  intro T hT X
  exact h T hT (stand_tight X (by rw [hT]; exact h1) (by rw [hT]; exact h2))
end KB
/-! locals by their places -/
def lA (lv : List (Option Value)) : List (Nat × Value) := (List.range lv.length).filterMap (fun i => match lv[i]? with | some (some v) => some (i, v) | _ => none)
theorem lA_mem {lv : List (Option Value)} {i : Nat} {v : Value} : (i, v) ∈ lA lv ↔ lv[i]? = some (some v) := by
  unfold lA
  rw [List.mem_filterMap]
  constructor
  · rintro ⟨j, hj, h⟩
    split at h
    · rename_i w hw
      cases h
      exact hw
    · cases h
  · intro h
    refine ⟨i, ?_, by rw [h]⟩
    rw [List.mem_range]
    exact (List.getElem?_eq_some_iff.mp h).1
theorem lHas.A {ls : Array Slot} {nL : Nat} {lv : List (Option Value)} (h : lHas ls nL lv) : lv_has ls nL (lA lv) := ⟨h.1, h.2.1, fun q hq => h.2.2 q.1 q.2 (lA_mem.mp hq)⟩
theorem lHas.of {ls : Array Slot} {nL : Nat} {lv : List (Option Value)} {l : List (Nat × Value)} (h : lv_has ls nL l) (hs : ∀ (i : Nat) (v : Value), lv[i]? = some (some v) → (i, v) ∈ l) : lHas ls nL lv := ⟨h.1, h.2.1, fun i v hi => h.2.2 (i, v) (hs i v hi)⟩
theorem lHas.at {ls : Array Slot} {nL : Nat} {lv : List (Option Value)} (h : lHas ls nL lv) {i : Nat} {v : Value} (hi : lv[i]? = some (some v)) : ls[i]? = some (.val v) := h.2.2 i v hi
/-- fewer locals are known -/
theorem lHas.less {ls : Array Slot} {nL : Nat} {lv lv' : List (Option Value)} (h : lHas ls nL lv) (hs : ∀ (i : Nat) (v : Value), lv'[i]? = some (some v) → lv[i]? = some (some v)) : lHas ls nL lv' := ⟨h.1, h.2.1, fun i v hi => h.2.2 i v (hs i v hi)⟩
/-- the slot ahead of i holds nothing of two slots -/
def lok (lv : List (Option Value)) (i : Nat) : Bool := match i with
  | 0 => true
  | j + 1 => match lv[j]? with
    | some (some (.long _)) => false
    | some (some (.double _)) => false
    | _ => true
theorem lok_spec {lv : List (Option Value)} {j : Nat} {v : Value} (h : lok lv (j + 1) = true) (hv : lv[j]? = some (some v)) : v.category = 1 := by
  unfold lok at h
  simp only [hv] at h
  cases v <;> first | rfl | (simp at h)
theorem lset_has1 {ls : Array Slot} {nL : Nat} {lv : List (Option Value)} {i : Nat} {v : Value} (hk : lok lv i = true) (h : lv_has ls nL ((i, v) :: (lA lv).filter (fun q => !(q.1 == i) && !(q.1 + 1 == i && q.2.category == 2)))) : lHas ls nL (lv.set i (some v)) := by
  refine lHas.of h fun j w hj => ?_
  by_cases hij : i = j
  · subst hij
    have hl : i < lv.length := by
      have := (List.getElem?_eq_some_iff.mp hj).1
      rwa [List.length_set] at this
    rw [List.getElem?_set_self hl] at hj
    cases hj
    exact List.mem_cons_self
  · rw [List.getElem?_set_ne hij] at hj
    refine List.mem_cons_of_mem _ (List.mem_filter.mpr ⟨lA_mem.mpr hj, ?_⟩)
    have h1 : (j == i) = false := by simp; omega
    have h2 : (j + 1 == i && w.category == 2) = false := by
      by_cases h3 : j + 1 = i
      · subst h3
        rw [lok_spec hk hj]
        simp
      · simp [h3]
    simp only [h1, h2]
    rfl
theorem lset_has2 {ls : Array Slot} {nL : Nat} {lv : List (Option Value)} {i : Nat} {v : Value} (hk : lok lv i = true) (h : lv_has ls nL ((i, v) :: (lA lv).filter (fun q => !(q.1 == i) && (!(q.1 == i + 1) && !(q.1 + 1 == i && q.2.category == 2))))) : lHas ls nL ((lv.set i (some v)).set (i + 1) none) := by
  refine lHas.of h fun j w hj => ?_
  by_cases hij1 : i + 1 = j
  · subst hij1
    have hl := (List.getElem?_eq_some_iff.mp hj).1
    rw [List.length_set, List.length_set] at hl
    rw [List.getElem?_set_self (by rw [List.length_set]; exact hl)] at hj
    cases hj
  · rw [List.getElem?_set_ne hij1] at hj
    by_cases hij : i = j
    · subst hij
      have hl : i < lv.length := by
        have := (List.getElem?_eq_some_iff.mp hj).1
        rwa [List.length_set] at this
      rw [List.getElem?_set_self hl] at hj
      cases hj
      exact List.mem_cons_self
    · rw [List.getElem?_set_ne hij] at hj
      refine List.mem_cons_of_mem _ (List.mem_filter.mpr ⟨lA_mem.mpr hj, ?_⟩)
      have h1 : (j == i) = false := by simp; omega
      have h4 : (j == i + 1) = false := by simp; omega
      have h2 : (j + 1 == i && w.category == 2) = false := by
        by_cases h3 : j + 1 = i
        · subst h3
          rw [lok_spec hk hj]
          simp
        · simp [h3]
      simp only [h1, h2, h4]
      rfl
theorem Old.S {s0 s : State} {H : Heap} {locs : List Loc} (h : Old s0 s.heap) (hS : va_S (A9 s0) s.heap H locs) : Old s0 H := ⟨Nat.le_trans h.1 hS.1, fun q hq => (hS.2.1 q (Nat.lt_of_lt_of_le hq h.1) (by unfold A9; omega)).trans (h.2 q hq)⟩
theorem Old.A {s0 s : State} (h : Old s0 s.heap) : ∀ q : Nat, s.heap.size ≤ q → A9 s0 q := fun q hq => Nat.le_trans h.1 hq
theorem Wld.sel {s0 : State} {D : va_G} {ws pre fr : List Asn} {H : Heap} (h : Wld s0 D ws H) (hs : Sel ws pre fr) : Wld s0 D pre H := by
  obtain ⟨w, hP, hD, hw⟩ := h
  obtain ⟨w1, h1, h2, h3⟩ := star_D (hs w hw) hP hD
  exact ⟨w1, h1, h2, h3⟩
theorem Wld.mono {s0 : State} {D : va_G} {ws ws' : List Asn} {H : Heap} (h : Wld s0 D ws H) (hs : ∀ w, sepL ws w → sepL ws' w) : Wld s0 D ws' H := by
  obtain ⟨w, hP, hD, hw⟩ := h
  exact ⟨w, hP, hD, hs w hw⟩
section JR
variable {X : XT} {own : String} {cc : ByteArray} {nL d mc ms : Nat} {ws : List Asn} {k n pc : Nat} {lv : List (Option Value)} {st : List Value}
theorem j_iadd (E : JE X own cc nL d mc ms) {x y : Int32} (pc' : Nat) (hd : decode cc pc = .ok (.iadd, 1)) (hp : pc + 1 = pc') (kk : J X nL ws k n pc' lv (.int (x + y) :: st)) : J X nL ws k n pc lv (.int y :: .int x :: st) := by
  obtain ⟨⟨l, s0, D, ca⟩, p, e, R, s, m, args, below, meth, c, Q⟩ := X
  obtain ⟨hx, hb, hml, hown, hwm, hold, hlocks, hG, hfr, hlo, hrc, hrs⟩ := E
  subst hp
  intro H locs ls hS hw hl
  exact lv_iadd hx hb hd (kk H locs ls hS hw hl)
theorem j_isub (E : JE X own cc nL d mc ms) {x y : Int32} (pc' : Nat) (hd : decode cc pc = .ok (.isub, 1)) (hp : pc + 1 = pc') (kk : J X nL ws k n pc' lv (.int (x - y) :: st)) : J X nL ws k n pc lv (.int y :: .int x :: st) := by
  obtain ⟨⟨l, s0, D, ca⟩, p, e, R, s, m, args, below, meth, c, Q⟩ := X
  obtain ⟨hx, hb, hml, hown, hwm, hold, hlocks, hG, hfr, hlo, hrc, hrs⟩ := E
  subst hp
  intro H locs ls hS hw hl
  exact lv_isub hx hb hd (kk H locs ls hS hw hl)
theorem j_imul (E : JE X own cc nL d mc ms) {x y : Int32} (pc' : Nat) (hd : decode cc pc = .ok (.imul, 1)) (hp : pc + 1 = pc') (kk : J X nL ws k n pc' lv (.int (x * y) :: st)) : J X nL ws k n pc lv (.int y :: .int x :: st) := by
  obtain ⟨⟨l, s0, D, ca⟩, p, e, R, s, m, args, below, meth, c, Q⟩ := X
  obtain ⟨hx, hb, hml, hown, hwm, hold, hlocks, hG, hfr, hlo, hrc, hrs⟩ := E
  subst hp
  intro H locs ls hS hw hl
  exact lv_imul hx hb hd (kk H locs ls hS hw hl)
theorem j_iand (E : JE X own cc nL d mc ms) {x y : Int32} (pc' : Nat) (hd : decode cc pc = .ok (.iand, 1)) (hp : pc + 1 = pc') (kk : J X nL ws k n pc' lv (.int (x &&& y) :: st)) : J X nL ws k n pc lv (.int y :: .int x :: st) := by
  obtain ⟨⟨l, s0, D, ca⟩, p, e, R, s, m, args, below, meth, c, Q⟩ := X
  obtain ⟨hx, hb, hml, hown, hwm, hold, hlocks, hG, hfr, hlo, hrc, hrs⟩ := E
  subst hp
  intro H locs ls hS hw hl
  exact lv_iand hx hb hd (kk H locs ls hS hw hl)
theorem j_ior (E : JE X own cc nL d mc ms) {x y : Int32} (pc' : Nat) (hd : decode cc pc = .ok (.ior, 1)) (hp : pc + 1 = pc') (kk : J X nL ws k n pc' lv (.int (x ||| y) :: st)) : J X nL ws k n pc lv (.int y :: .int x :: st) := by
  obtain ⟨⟨l, s0, D, ca⟩, p, e, R, s, m, args, below, meth, c, Q⟩ := X
  obtain ⟨hx, hb, hml, hown, hwm, hold, hlocks, hG, hfr, hlo, hrc, hrs⟩ := E
  subst hp
  intro H locs ls hS hw hl
  exact lv_ior hx hb hd (kk H locs ls hS hw hl)
theorem j_ixor (E : JE X own cc nL d mc ms) {x y : Int32} (pc' : Nat) (hd : decode cc pc = .ok (.ixor, 1)) (hp : pc + 1 = pc') (kk : J X nL ws k n pc' lv (.int (x ^^^ y) :: st)) : J X nL ws k n pc lv (.int y :: .int x :: st) := by
  obtain ⟨⟨l, s0, D, ca⟩, p, e, R, s, m, args, below, meth, c, Q⟩ := X
  obtain ⟨hx, hb, hml, hown, hwm, hold, hlocks, hG, hfr, hlo, hrc, hrs⟩ := E
  subst hp
  intro H locs ls hS hw hl
  exact lv_ixor hx hb hd (kk H locs ls hS hw hl)
theorem j_ishl (E : JE X own cc nL d mc ms) {x y : Int32} (pc' : Nat) (hd : decode cc pc = .ok (.ishl, 1)) (hp : pc + 1 = pc') (kk : J X nL ws k n pc' lv (.int (x <<< (y &&& 31)) :: st)) : J X nL ws k n pc lv (.int y :: .int x :: st) := by
  obtain ⟨⟨l, s0, D, ca⟩, p, e, R, s, m, args, below, meth, c, Q⟩ := X
  obtain ⟨hx, hb, hml, hown, hwm, hold, hlocks, hG, hfr, hlo, hrc, hrs⟩ := E
  subst hp
  intro H locs ls hS hw hl
  exact lv_ishl hx hb hd (kk H locs ls hS hw hl)
theorem j_ishr (E : JE X own cc nL d mc ms) {x y : Int32} (pc' : Nat) (hd : decode cc pc = .ok (.ishr, 1)) (hp : pc + 1 = pc') (kk : J X nL ws k n pc' lv (.int (x >>> (y &&& 31)) :: st)) : J X nL ws k n pc lv (.int y :: .int x :: st) := by
  obtain ⟨⟨l, s0, D, ca⟩, p, e, R, s, m, args, below, meth, c, Q⟩ := X
  obtain ⟨hx, hb, hml, hown, hwm, hold, hlocks, hG, hfr, hlo, hrc, hrs⟩ := E
  subst hp
  intro H locs ls hS hw hl
  exact lv_ishr hx hb hd (kk H locs ls hS hw hl)
theorem j_idiv (E : JE X own cc nL d mc ms) {x y : Int32} (pc' : Nat) (hd : decode cc pc = .ok (.idiv, 1)) (hne : ¬ y = 0) (hp : pc + 1 = pc') (kk : J X nL ws k n pc' lv (.int (x / y) :: st)) : J X nL ws k n pc lv (.int y :: .int x :: st) := by
  obtain ⟨⟨l, s0, D, ca⟩, p, e, R, s, m, args, below, meth, c, Q⟩ := X
  obtain ⟨hx, hb, hml, hown, hwm, hold, hlocks, hG, hfr, hlo, hrc, hrs⟩ := E
  subst hp
  intro H locs ls hS hw hl
  exact lv_idiv hx hb hd hne (kk H locs ls hS hw hl)
theorem j_irem (E : JE X own cc nL d mc ms) {x y : Int32} (pc' : Nat) (hd : decode cc pc = .ok (.irem, 1)) (hne : ¬ y = 0) (hp : pc + 1 = pc') (kk : J X nL ws k n pc' lv (.int (x - x / y * y) :: st)) : J X nL ws k n pc lv (.int y :: .int x :: st) := by
  obtain ⟨⟨l, s0, D, ca⟩, p, e, R, s, m, args, below, meth, c, Q⟩ := X
  obtain ⟨hx, hb, hml, hown, hwm, hold, hlocks, hG, hfr, hlo, hrc, hrs⟩ := E
  subst hp
  intro H locs ls hS hw hl
  exact lv_irem hx hb hd hne (kk H locs ls hS hw hl)
theorem j_ladd (E : JE X own cc nL d mc ms) {x y : Int64} (pc' : Nat) (hd : decode cc pc = .ok (.ladd, 1)) (hp : pc + 1 = pc') (kk : J X nL ws k n pc' lv (.long (x + y) :: st)) : J X nL ws k n pc lv (.long y :: .long x :: st) := by
  obtain ⟨⟨l, s0, D, ca⟩, p, e, R, s, m, args, below, meth, c, Q⟩ := X
  obtain ⟨hx, hb, hml, hown, hwm, hold, hlocks, hG, hfr, hlo, hrc, hrs⟩ := E
  subst hp
  intro H locs ls hS hw hl
  exact lv_ladd hx hb hd (kk H locs ls hS hw hl)
theorem j_lsub (E : JE X own cc nL d mc ms) {x y : Int64} (pc' : Nat) (hd : decode cc pc = .ok (.lsub, 1)) (hp : pc + 1 = pc') (kk : J X nL ws k n pc' lv (.long (x - y) :: st)) : J X nL ws k n pc lv (.long y :: .long x :: st) := by
  obtain ⟨⟨l, s0, D, ca⟩, p, e, R, s, m, args, below, meth, c, Q⟩ := X
  obtain ⟨hx, hb, hml, hown, hwm, hold, hlocks, hG, hfr, hlo, hrc, hrs⟩ := E
  subst hp
  intro H locs ls hS hw hl
  exact lv_lsub hx hb hd (kk H locs ls hS hw hl)
theorem j_lmul (E : JE X own cc nL d mc ms) {x y : Int64} (pc' : Nat) (hd : decode cc pc = .ok (.lmul, 1)) (hp : pc + 1 = pc') (kk : J X nL ws k n pc' lv (.long (x * y) :: st)) : J X nL ws k n pc lv (.long y :: .long x :: st) := by
  obtain ⟨⟨l, s0, D, ca⟩, p, e, R, s, m, args, below, meth, c, Q⟩ := X
  obtain ⟨hx, hb, hml, hown, hwm, hold, hlocks, hG, hfr, hlo, hrc, hrs⟩ := E
  subst hp
  intro H locs ls hS hw hl
  exact lv_lmul hx hb hd (kk H locs ls hS hw hl)
theorem j_land (E : JE X own cc nL d mc ms) {x y : Int64} (pc' : Nat) (hd : decode cc pc = .ok (.land, 1)) (hp : pc + 1 = pc') (kk : J X nL ws k n pc' lv (.long (x &&& y) :: st)) : J X nL ws k n pc lv (.long y :: .long x :: st) := by
  obtain ⟨⟨l, s0, D, ca⟩, p, e, R, s, m, args, below, meth, c, Q⟩ := X
  obtain ⟨hx, hb, hml, hown, hwm, hold, hlocks, hG, hfr, hlo, hrc, hrs⟩ := E
  subst hp
  intro H locs ls hS hw hl
  exact lv_land hx hb hd (kk H locs ls hS hw hl)
theorem j_lor (E : JE X own cc nL d mc ms) {x y : Int64} (pc' : Nat) (hd : decode cc pc = .ok (.lor, 1)) (hp : pc + 1 = pc') (kk : J X nL ws k n pc' lv (.long (x ||| y) :: st)) : J X nL ws k n pc lv (.long y :: .long x :: st) := by
  obtain ⟨⟨l, s0, D, ca⟩, p, e, R, s, m, args, below, meth, c, Q⟩ := X
  obtain ⟨hx, hb, hml, hown, hwm, hold, hlocks, hG, hfr, hlo, hrc, hrs⟩ := E
  subst hp
  intro H locs ls hS hw hl
  exact lv_lor hx hb hd (kk H locs ls hS hw hl)
theorem j_lxor (E : JE X own cc nL d mc ms) {x y : Int64} (pc' : Nat) (hd : decode cc pc = .ok (.lxor, 1)) (hp : pc + 1 = pc') (kk : J X nL ws k n pc' lv (.long (x ^^^ y) :: st)) : J X nL ws k n pc lv (.long y :: .long x :: st) := by
  obtain ⟨⟨l, s0, D, ca⟩, p, e, R, s, m, args, below, meth, c, Q⟩ := X
  obtain ⟨hx, hb, hml, hown, hwm, hold, hlocks, hG, hfr, hlo, hrc, hrs⟩ := E
  subst hp
  intro H locs ls hS hw hl
  exact lv_lxor hx hb hd (kk H locs ls hS hw hl)
theorem j_ineg (E : JE X own cc nL d mc ms) {x : Int32} (pc' : Nat) (hd : decode cc pc = .ok (.ineg, 1)) (hp : pc + 1 = pc') (kk : J X nL ws k n pc' lv (.int (-x) :: st)) : J X nL ws k n pc lv (.int x :: st) := by
  obtain ⟨⟨l, s0, D, ca⟩, p, e, R, s, m, args, below, meth, c, Q⟩ := X
  obtain ⟨hx, hb, hml, hown, hwm, hold, hlocks, hG, hfr, hlo, hrc, hrs⟩ := E
  subst hp
  intro H locs ls hS hw hl
  exact lv_ineg hx hb hd (kk H locs ls hS hw hl)
theorem j_lneg (E : JE X own cc nL d mc ms) {x : Int64} (pc' : Nat) (hd : decode cc pc = .ok (.lneg, 1)) (hp : pc + 1 = pc') (kk : J X nL ws k n pc' lv (.long (-x) :: st)) : J X nL ws k n pc lv (.long x :: st) := by
  obtain ⟨⟨l, s0, D, ca⟩, p, e, R, s, m, args, below, meth, c, Q⟩ := X
  obtain ⟨hx, hb, hml, hown, hwm, hold, hlocks, hG, hfr, hlo, hrc, hrs⟩ := E
  subst hp
  intro H locs ls hS hw hl
  exact lv_lneg hx hb hd (kk H locs ls hS hw hl)
theorem j_i2l (E : JE X own cc nL d mc ms) {x : Int32} (pc' : Nat) (hd : decode cc pc = .ok (.i2l, 1)) (hp : pc + 1 = pc') (kk : J X nL ws k n pc' lv (.long x.toInt64 :: st)) : J X nL ws k n pc lv (.int x :: st) := by
  obtain ⟨⟨l, s0, D, ca⟩, p, e, R, s, m, args, below, meth, c, Q⟩ := X
  obtain ⟨hx, hb, hml, hown, hwm, hold, hlocks, hG, hfr, hlo, hrc, hrs⟩ := E
  subst hp
  intro H locs ls hS hw hl
  exact lv_i2l hx hb hd rfl (kk H locs ls hS hw hl)
theorem j_l2i (E : JE X own cc nL d mc ms) {x : Int64} (pc' : Nat) (hd : decode cc pc = .ok (.l2i, 1)) (hp : pc + 1 = pc') (kk : J X nL ws k n pc' lv (.int x.toInt32 :: st)) : J X nL ws k n pc lv (.long x :: st) := by
  obtain ⟨⟨l, s0, D, ca⟩, p, e, R, s, m, args, below, meth, c, Q⟩ := X
  obtain ⟨hx, hb, hml, hown, hwm, hold, hlocks, hG, hfr, hlo, hrc, hrs⟩ := E
  subst hp
  intro H locs ls hS hw hl
  exact lv_l2i hx hb hd rfl (kk H locs ls hS hw hl)
theorem j_i2b (E : JE X own cc nL d mc ms) {x : Int32} (pc' : Nat) (hd : decode cc pc = .ok (.i2b, 1)) (hp : pc + 1 = pc') (kk : J X nL ws k n pc' lv (.int x.toInt8.toInt32 :: st)) : J X nL ws k n pc lv (.int x :: st) := by
  obtain ⟨⟨l, s0, D, ca⟩, p, e, R, s, m, args, below, meth, c, Q⟩ := X
  obtain ⟨hx, hb, hml, hown, hwm, hold, hlocks, hG, hfr, hlo, hrc, hrs⟩ := E
  subst hp
  intro H locs ls hS hw hl
  exact lv_i2b hx hb hd rfl (kk H locs ls hS hw hl)
theorem j_lushr (E : JE X own cc nL d mc ms) {x : Int64} {y : Int32} (pc' : Nat) (hd : decode cc pc = .ok (.lushr, 1)) (hp : pc + 1 = pc') (kk : J X nL ws k n pc' lv (.long (x.toUInt64 >>> (y.toInt64.toUInt64 &&& Int64.toUInt64 63)).toInt64 :: st)) : J X nL ws k n pc lv (.int y :: .long x :: st) := by
  obtain ⟨⟨l, s0, D, ca⟩, p, e, R, s, m, args, below, meth, c, Q⟩ := X
  obtain ⟨hx, hb, hml, hown, hwm, hold, hlocks, hG, hfr, hlo, hrc, hrs⟩ := E
  subst hp
  intro H locs ls hS hw hl
  exact lv_lushr hx hb hd rfl (kk H locs ls hS hw hl)
theorem j_lshl (E : JE X own cc nL d mc ms) {x : Int64} {y : Int32} (pc' : Nat) (hd : decode cc pc = .ok (.lshl, 1)) (hp : pc + 1 = pc') (kk : J X nL ws k n pc' lv (.long (x <<< (y.toInt64 &&& 63)) :: st)) : J X nL ws k n pc lv (.int y :: .long x :: st) := by
  obtain ⟨⟨l, s0, D, ca⟩, p, e, R, s, m, args, below, meth, c, Q⟩ := X
  obtain ⟨hx, hb, hml, hown, hwm, hold, hlocks, hG, hfr, hlo, hrc, hrs⟩ := E
  subst hp
  intro H locs ls hS hw hl
  exact lv_lshl hx hb hd rfl (kk H locs ls hS hw hl)
theorem j_lshr (E : JE X own cc nL d mc ms) {x : Int64} {y : Int32} (pc' : Nat) (hd : decode cc pc = .ok (.lshr, 1)) (hp : pc + 1 = pc') (kk : J X nL ws k n pc' lv (.long (x >>> (y.toInt64 &&& 63)) :: st)) : J X nL ws k n pc lv (.int y :: .long x :: st) := by
  obtain ⟨⟨l, s0, D, ca⟩, p, e, R, s, m, args, below, meth, c, Q⟩ := X
  obtain ⟨hx, hb, hml, hown, hwm, hold, hlocks, hG, hfr, hlo, hrc, hrs⟩ := E
  subst hp
  intro H locs ls hS hw hl
  exact lv_lshr hx hb hd rfl (kk H locs ls hS hw hl)
theorem j_lcmp (E : JE X own cc nL d mc ms) {x y : Int64} (pc' : Nat) (hd : decode cc pc = .ok (.lcmp, 1)) (hp : pc + 1 = pc') (kk : J X nL ws k n pc' lv (.int (lg_cmp x y) :: st)) : J X nL ws k n pc lv (.long y :: .long x :: st) := by
  obtain ⟨⟨l, s0, D, ca⟩, p, e, R, s, m, args, below, meth, c, Q⟩ := X
  obtain ⟨hx, hb, hml, hown, hwm, hold, hlocks, hG, hfr, hlo, hrc, hrs⟩ := E
  subst hp
  intro H locs ls hS hw hl
  exact W.lcmp hx hb hd (kk H locs ls hS hw hl)
theorem j_null (E : JE X own cc nL d mc ms) (pc' : Nat) (hd : decode cc pc = .ok (.aconst_null, 1)) (hp : pc + 1 = pc') (kk : J X nL ws k n pc' lv (.null :: st)) : J X nL ws k n pc lv (st) := by
  obtain ⟨⟨l, s0, D, ca⟩, p, e, R, s, m, args, below, meth, c, Q⟩ := X
  obtain ⟨hx, hb, hml, hown, hwm, hold, hlocks, hG, hfr, hlo, hrc, hrs⟩ := E
  subst hp
  intro H locs ls hS hw hl
  exact lv_null hx hb hd (kk H locs ls hS hw hl)
theorem j_iconst (E : JE X own cc nL d mc ms) {z : Int} (v : Int32) (pc' : Nat) (hd : decode cc pc = .ok (.iconst z, 1)) (hv : Int32.ofInt z = v) (hp : pc + 1 = pc') (kk : J X nL ws k n pc' lv (.int v :: st)) : J X nL ws k n pc lv (st) := by
  obtain ⟨⟨l, s0, D, ca⟩, p, e, R, s, m, args, below, meth, c, Q⟩ := X
  obtain ⟨hx, hb, hml, hown, hwm, hold, hlocks, hG, hfr, hlo, hrc, hrs⟩ := E
  subst hp
  intro H locs ls hS hw hl
  exact lv_iconst hx hb hd hv (kk H locs ls hS hw hl)
theorem j_bipush (E : JE X own cc nL d mc ms) {z : Int} (v : Int32) (pc' : Nat) (hd : decode cc pc = .ok (.bipush z, 2)) (hv : (Int8.ofInt z).toInt32 = v) (hp : pc + 2 = pc') (kk : J X nL ws k n pc' lv (.int v :: st)) : J X nL ws k n pc lv (st) := by
  obtain ⟨⟨l, s0, D, ca⟩, p, e, R, s, m, args, below, meth, c, Q⟩ := X
  obtain ⟨hx, hb, hml, hown, hwm, hold, hlocks, hG, hfr, hlo, hrc, hrs⟩ := E
  subst hp
  intro H locs ls hS hw hl
  exact lv_bipush hx hb hd hv (kk H locs ls hS hw hl)
theorem j_sipush (E : JE X own cc nL d mc ms) {z : Int} (v : Int32) (pc' : Nat) (hd : decode cc pc = .ok (.sipush z, 3)) (hv : (Int16.ofInt z).toInt32 = v) (hp : pc + 3 = pc') (kk : J X nL ws k n pc' lv (.int v :: st)) : J X nL ws k n pc lv (st) := by
  obtain ⟨⟨l, s0, D, ca⟩, p, e, R, s, m, args, below, meth, c, Q⟩ := X
  obtain ⟨hx, hb, hml, hown, hwm, hold, hlocks, hG, hfr, hlo, hrc, hrs⟩ := E
  subst hp
  intro H locs ls hS hw hl
  exact lv_sipush hx hb hd hv (kk H locs ls hS hw hl)
theorem j_lconst (E : JE X own cc nL d mc ms) {z : Fin 2} (v : Int64) (pc' : Nat) (hd : decode cc pc = .ok (.lconst z, 1)) (hv : Int64.ofNat (z : Nat) = v) (hp : pc + 1 = pc') (kk : J X nL ws k n pc' lv (.long v :: st)) : J X nL ws k n pc lv (st) := by
  obtain ⟨⟨l, s0, D, ca⟩, p, e, R, s, m, args, below, meth, c, Q⟩ := X
  obtain ⟨hx, hb, hml, hown, hwm, hold, hlocks, hG, hfr, hlo, hrc, hrs⟩ := E
  subst hp
  intro H locs ls hS hw hl
  exact lv_lconst hx hb hd hv (kk H locs ls hS hw hl)
theorem j_dup (E : JE X own cc nL d mc ms) {va : Value} (pc' : Nat) (hd : decode cc pc = .ok (.dup, 1)) (hc : va.category = 1) (hp : pc + 1 = pc') (kk : J X nL ws k n pc' lv (va :: va :: st)) : J X nL ws k n pc lv (va :: st) := by
  obtain ⟨⟨l, s0, D, ca⟩, p, e, R, s, m, args, below, meth, c, Q⟩ := X
  obtain ⟨hx, hb, hml, hown, hwm, hold, hlocks, hG, hfr, hlo, hrc, hrs⟩ := E
  subst hp
  intro H locs ls hS hw hl
  exact lv_dup hx hb hd hc (kk H locs ls hS hw hl)
theorem j_pop (E : JE X own cc nL d mc ms) {va : Value} (pc' : Nat) (hd : decode cc pc = .ok (.pop, 1)) (hc : va.category = 1) (hp : pc + 1 = pc') (kk : J X nL ws k n pc' lv (st)) : J X nL ws k n pc lv (va :: st) := by
  obtain ⟨⟨l, s0, D, ca⟩, p, e, R, s, m, args, below, meth, c, Q⟩ := X
  obtain ⟨hx, hb, hml, hown, hwm, hold, hlocks, hG, hfr, hlo, hrc, hrs⟩ := E
  subst hp
  intro H locs ls hS hw hl
  exact lv_pop hx hb hd hc (kk H locs ls hS hw hl)
theorem j_dup_x1 (E : JE X own cc nL d mc ms) {va vb : Value} (pc' : Nat) (hd : decode cc pc = .ok (.dup_x1, 1)) (hc : va.category = 1) (hc2 : vb.category = 1) (hp : pc + 1 = pc') (kk : J X nL ws k n pc' lv (va :: vb :: va :: st)) : J X nL ws k n pc lv (va :: vb :: st) := by
  obtain ⟨⟨l, s0, D, ca⟩, p, e, R, s, m, args, below, meth, c, Q⟩ := X
  obtain ⟨hx, hb, hml, hown, hwm, hold, hlocks, hG, hfr, hlo, hrc, hrs⟩ := E
  subst hp
  intro H locs ls hS hw hl
  exact lv_dup_x1 hx hb hd hc hc2 (kk H locs ls hS hw hl)
theorem j_dup2_11 (E : JE X own cc nL d mc ms) {va vb : Value} (pc' : Nat) (hd : decode cc pc = .ok (.dup2, 1)) (hc : va.category = 1) (hc2 : vb.category = 1) (hp : pc + 1 = pc') (kk : J X nL ws k n pc' lv (va :: vb :: va :: vb :: st)) : J X nL ws k n pc lv (va :: vb :: st) := by
  obtain ⟨⟨l, s0, D, ca⟩, p, e, R, s, m, args, below, meth, c, Q⟩ := X
  obtain ⟨hx, hb, hml, hown, hwm, hold, hlocks, hG, hfr, hlo, hrc, hrs⟩ := E
  subst hp
  intro H locs ls hS hw hl
  exact lv_dup2_11 hx hb hd hc hc2 (kk H locs ls hS hw hl)
theorem j_iload_n (E : JE X own cc nL d mc ms) {q : Fin 4} {x : Int32} (pc' : Nat) (hd : decode cc pc = .ok (.iload_n q, 1)) (i : Nat) (hi : (q : Nat) = i) (hv : lv[i]? = some (some (.int x))) (hp : pc + 1 = pc') (kk : J X nL ws k n pc' lv (.int x :: st)) : J X nL ws k n pc lv (st) := by
  obtain ⟨⟨l, s0, D, ca⟩, p, e, R, s, m, args, below, meth, c, Q⟩ := X
  obtain ⟨hx, hb, hml, hown, hwm, hold, hlocks, hG, hfr, hlo, hrc, hrs⟩ := E
  subst hp
  intro H locs ls hS hw hl
  exact lv_iload_n hx hb hd hi (hl.at hv) (kk H locs ls hS hw hl)
theorem j_iload (E : JE X own cc nL d mc ms) {i : Nat} {x : Int32} (pc' : Nat) (hd : decode cc pc = .ok (.iload i, 2)) (hv : lv[i]? = some (some (.int x))) (hp : pc + 2 = pc') (kk : J X nL ws k n pc' lv (.int x :: st)) : J X nL ws k n pc lv (st) := by
  obtain ⟨⟨l, s0, D, ca⟩, p, e, R, s, m, args, below, meth, c, Q⟩ := X
  obtain ⟨hx, hb, hml, hown, hwm, hold, hlocks, hG, hfr, hlo, hrc, hrs⟩ := E
  subst hp
  intro H locs ls hS hw hl
  exact lv_iload hx hb hd (hl.at hv) (kk H locs ls hS hw hl)
theorem j_istore_n (E : JE X own cc nL d mc ms) {q : Fin 4} {x : Int32} (pc' : Nat) (hd : decode cc pc = .ok (.istore_n q, 1)) (i : Nat) (hi : (q : Nat) = i) (hn : i < nL) (hk : lok lv i = true) (hp : pc + 1 = pc') (kk : J X nL ws k n pc' (lv.set i (some (.int x))) (st)) : J X nL ws k n pc lv (.int x :: st) := by
  obtain ⟨⟨l, s0, D, ca⟩, p, e, R, s, m, args, below, meth, c, Q⟩ := X
  obtain ⟨hx, hb, hml, hown, hwm, hold, hlocks, hG, hfr, hlo, hrc, hrs⟩ := E
  subst hp
  intro H locs ls hS hw hl
  exact lv_istore_n hx hb hd hi hl.A hn rfl (fun ls hl => kk H locs ls hS hw (lset_has1 hk hl))
theorem j_istore (E : JE X own cc nL d mc ms) {i : Nat} {x : Int32} (pc' : Nat) (hd : decode cc pc = .ok (.istore i, 2)) (hn : i < nL) (hk : lok lv i = true) (hp : pc + 2 = pc') (kk : J X nL ws k n pc' (lv.set i (some (.int x))) (st)) : J X nL ws k n pc lv (.int x :: st) := by
  obtain ⟨⟨l, s0, D, ca⟩, p, e, R, s, m, args, below, meth, c, Q⟩ := X
  obtain ⟨hx, hb, hml, hown, hwm, hold, hlocks, hG, hfr, hlo, hrc, hrs⟩ := E
  subst hp
  intro H locs ls hS hw hl
  exact lv_istore hx hb hd hl.A hn rfl (fun ls hl => kk H locs ls hS hw (lset_has1 hk hl))
theorem j_lload_n (E : JE X own cc nL d mc ms) {q : Fin 4} {x : Int64} (pc' : Nat) (hd : decode cc pc = .ok (.lload_n q, 1)) (i : Nat) (hi : (q : Nat) = i) (hv : lv[i]? = some (some (.long x))) (hp : pc + 1 = pc') (kk : J X nL ws k n pc' lv (.long x :: st)) : J X nL ws k n pc lv (st) := by
  obtain ⟨⟨l, s0, D, ca⟩, p, e, R, s, m, args, below, meth, c, Q⟩ := X
  obtain ⟨hx, hb, hml, hown, hwm, hold, hlocks, hG, hfr, hlo, hrc, hrs⟩ := E
  subst hp
  intro H locs ls hS hw hl
  exact lv_lload_n hx hb hd hi (hl.at hv) (kk H locs ls hS hw hl)
theorem j_lload (E : JE X own cc nL d mc ms) {i : Nat} {x : Int64} (pc' : Nat) (hd : decode cc pc = .ok (.lload i, 2)) (hv : lv[i]? = some (some (.long x))) (hp : pc + 2 = pc') (kk : J X nL ws k n pc' lv (.long x :: st)) : J X nL ws k n pc lv (st) := by
  obtain ⟨⟨l, s0, D, ca⟩, p, e, R, s, m, args, below, meth, c, Q⟩ := X
  obtain ⟨hx, hb, hml, hown, hwm, hold, hlocks, hG, hfr, hlo, hrc, hrs⟩ := E
  subst hp
  intro H locs ls hS hw hl
  exact lv_lload hx hb hd (hl.at hv) (kk H locs ls hS hw hl)
theorem j_lstore_n (E : JE X own cc nL d mc ms) {q : Fin 4} {x : Int64} (pc' : Nat) (hd : decode cc pc = .ok (.lstore_n q, 1)) (i : Nat) (hi : (q : Nat) = i) (hn : i + 1 < nL) (hk : lok lv i = true) (hp : pc + 1 = pc') (kk : J X nL ws k n pc' ((lv.set i (some (.long x))).set (i + 1) none) (st)) : J X nL ws k n pc lv (.long x :: st) := by
  obtain ⟨⟨l, s0, D, ca⟩, p, e, R, s, m, args, below, meth, c, Q⟩ := X
  obtain ⟨hx, hb, hml, hown, hwm, hold, hlocks, hG, hfr, hlo, hrc, hrs⟩ := E
  subst hp
  intro H locs ls hS hw hl
  exact lv_lstore_n hx hb hd hi hl.A hn rfl (fun ls hl => kk H locs ls hS hw (lset_has2 hk hl))
theorem j_lstore (E : JE X own cc nL d mc ms) {i : Nat} {x : Int64} (pc' : Nat) (hd : decode cc pc = .ok (.lstore i, 2)) (hn : i + 1 < nL) (hk : lok lv i = true) (hp : pc + 2 = pc') (kk : J X nL ws k n pc' ((lv.set i (some (.long x))).set (i + 1) none) (st)) : J X nL ws k n pc lv (.long x :: st) := by
  obtain ⟨⟨l, s0, D, ca⟩, p, e, R, s, m, args, below, meth, c, Q⟩ := X
  obtain ⟨hx, hb, hml, hown, hwm, hold, hlocks, hG, hfr, hlo, hrc, hrs⟩ := E
  subst hp
  intro H locs ls hS hw hl
  exact lv_lstore hx hb hd hl.A hn rfl (fun ls hl => kk H locs ls hS hw (lset_has2 hk hl))
theorem j_aload_n (E : JE X own cc nL d mc ms) {q : Fin 4} {x : Nat} (pc' : Nat) (hd : decode cc pc = .ok (.aload_n q, 1)) (i : Nat) (hi : (q : Nat) = i) (hv : lv[i]? = some (some (.ref x))) (hp : pc + 1 = pc') (kk : J X nL ws k n pc' lv (.ref x :: st)) : J X nL ws k n pc lv (st) := by
  obtain ⟨⟨l, s0, D, ca⟩, p, e, R, s, m, args, below, meth, c, Q⟩ := X
  obtain ⟨hx, hb, hml, hown, hwm, hold, hlocks, hG, hfr, hlo, hrc, hrs⟩ := E
  subst hp
  intro H locs ls hS hw hl
  exact lv_aload_n hx hb hd hi (hl.at hv) (kk H locs ls hS hw hl)
theorem j_aload (E : JE X own cc nL d mc ms) {i : Nat} {x : Nat} (pc' : Nat) (hd : decode cc pc = .ok (.aload i, 2)) (hv : lv[i]? = some (some (.ref x))) (hp : pc + 2 = pc') (kk : J X nL ws k n pc' lv (.ref x :: st)) : J X nL ws k n pc lv (st) := by
  obtain ⟨⟨l, s0, D, ca⟩, p, e, R, s, m, args, below, meth, c, Q⟩ := X
  obtain ⟨hx, hb, hml, hown, hwm, hold, hlocks, hG, hfr, hlo, hrc, hrs⟩ := E
  subst hp
  intro H locs ls hS hw hl
  exact lv_aload hx hb hd (hl.at hv) (kk H locs ls hS hw hl)
theorem j_astore_n (E : JE X own cc nL d mc ms) {q : Fin 4} {x : Nat} (pc' : Nat) (hd : decode cc pc = .ok (.astore_n q, 1)) (i : Nat) (hi : (q : Nat) = i) (hn : i < nL) (hk : lok lv i = true) (hp : pc + 1 = pc') (kk : J X nL ws k n pc' (lv.set i (some (.ref x))) (st)) : J X nL ws k n pc lv (.ref x :: st) := by
  obtain ⟨⟨l, s0, D, ca⟩, p, e, R, s, m, args, below, meth, c, Q⟩ := X
  obtain ⟨hx, hb, hml, hown, hwm, hold, hlocks, hG, hfr, hlo, hrc, hrs⟩ := E
  subst hp
  intro H locs ls hS hw hl
  exact lv_astore_n hx hb hd hi hl.A hn rfl (fun ls hl => kk H locs ls hS hw (lset_has1 hk hl))
theorem j_astore (E : JE X own cc nL d mc ms) {i : Nat} {x : Nat} (pc' : Nat) (hd : decode cc pc = .ok (.astore i, 2)) (hn : i < nL) (hk : lok lv i = true) (hp : pc + 2 = pc') (kk : J X nL ws k n pc' (lv.set i (some (.ref x))) (st)) : J X nL ws k n pc lv (.ref x :: st) := by
  obtain ⟨⟨l, s0, D, ca⟩, p, e, R, s, m, args, below, meth, c, Q⟩ := X
  obtain ⟨hx, hb, hml, hown, hwm, hold, hlocks, hG, hfr, hlo, hrc, hrs⟩ := E
  subst hp
  intro H locs ls hS hw hl
  exact lv_astore hx hb hd hl.A hn rfl (fun ls hl => kk H locs ls hS hw (lset_has1 hk hl))
theorem j_aload_nN (E : JE X own cc nL d mc ms) {q : Fin 4} (pc' : Nat) (hd : decode cc pc = .ok (.aload_n q, 1)) (i : Nat) (hi : (q : Nat) = i) (hv : lv[i]? = some (some .null)) (hp : pc + 1 = pc') (kk : J X nL ws k n pc' lv (.null :: st)) : J X nL ws k n pc lv (st) := by
  obtain ⟨⟨l, s0, D, ca⟩, p, e, R, s, m, args, below, meth, c, Q⟩ := X
  obtain ⟨hx, hb, hml, hown, hwm, hold, hlocks, hG, hfr, hlo, hrc, hrs⟩ := E
  subst hp
  intro H locs ls hS hw hl
  exact lv_aload_nN hx hb hd hi (hl.at hv) (kk H locs ls hS hw hl)
theorem j_iinc (E : JE X own cc nL d mc ms) {i : Nat} {z : Int} {x : Int32} (v : Int32) (pc' : Nat) (hd : decode cc pc = .ok (.iinc i z, 3)) (hv : lv[i]? = some (some (.int x))) (hz : x + Int32.ofInt z = v) (hn : i < nL) (hk : lok lv i = true) (hp : pc + 3 = pc') (kk : J X nL ws k n pc' (lv.set i (some (.int v))) st) : J X nL ws k n pc lv st := by
  obtain ⟨⟨l, s0, D, ca⟩, p, e, R, s, m, args, below, meth, c, Q⟩ := X
  obtain ⟨hx, hb, hml, hown, hwm, hold, hlocks, hG, hfr, hlo, hrc, hrs⟩ := E
  subst hp
  intro H locs ls hS hw hl
  obtain ⟨q, hq⟩ := List.getElem?_of_mem (lA_mem.mpr hv)
  exact lv_iinc hx hb hd hl.A hq hz hn rfl (fun ls hl => kk H locs ls hS hw (lset_has1 hk hl))
theorem j_if_eq (E : JE X own cc nL d mc ms) {x : Int32} {off : Int} (tgt pc' : Nat) (hd : decode cc pc = .ok (.ifCond .eq off, 3)) (ht : (pc : Int) + off = (tgt : Int)) (hp : pc + 3 = pc') (kt : x = 0 → J X nL ws k n tgt lv st) (kf : ¬ x = 0 → J X nL ws k n pc' lv st) : J X nL ws k n pc lv (.int x :: st) := by
  obtain ⟨⟨l, s0, D, ca⟩, p, e, R, s, m, args, below, meth, c, Q⟩ := X
  obtain ⟨hx, hb, hml, hown, hwm, hold, hlocks, hG, hfr, hlo, hrc, hrs⟩ := E
  subst hp
  intro H locs ls hS hw hl
  exact lv_if_eq hx hb hd ht (fun z => kt z H locs ls hS hw hl) (fun z => kf z H locs ls hS hw hl)
theorem j_if_ne (E : JE X own cc nL d mc ms) {x : Int32} {off : Int} (tgt pc' : Nat) (hd : decode cc pc = .ok (.ifCond .ne off, 3)) (ht : (pc : Int) + off = (tgt : Int)) (hp : pc + 3 = pc') (kt : ¬ x = 0 → J X nL ws k n tgt lv st) (kf : x = 0 → J X nL ws k n pc' lv st) : J X nL ws k n pc lv (.int x :: st) := by
  obtain ⟨⟨l, s0, D, ca⟩, p, e, R, s, m, args, below, meth, c, Q⟩ := X
  obtain ⟨hx, hb, hml, hown, hwm, hold, hlocks, hG, hfr, hlo, hrc, hrs⟩ := E
  subst hp
  intro H locs ls hS hw hl
  exact lv_if_ne hx hb hd ht (fun z => kt z H locs ls hS hw hl) (fun z => kf z H locs ls hS hw hl)
theorem j_if_lt (E : JE X own cc nL d mc ms) {x : Int32} {off : Int} (tgt pc' : Nat) (hd : decode cc pc = .ok (.ifCond .lt off, 3)) (ht : (pc : Int) + off = (tgt : Int)) (hp : pc + 3 = pc') (kt : x < 0 → J X nL ws k n tgt lv st) (kf : ¬ x < 0 → J X nL ws k n pc' lv st) : J X nL ws k n pc lv (.int x :: st) := by
  obtain ⟨⟨l, s0, D, ca⟩, p, e, R, s, m, args, below, meth, c, Q⟩ := X
  obtain ⟨hx, hb, hml, hown, hwm, hold, hlocks, hG, hfr, hlo, hrc, hrs⟩ := E
  subst hp
  intro H locs ls hS hw hl
  exact lv_if_lt hx hb hd ht (fun z => kt z H locs ls hS hw hl) (fun z => kf z H locs ls hS hw hl)
theorem j_if_ge (E : JE X own cc nL d mc ms) {x : Int32} {off : Int} (tgt pc' : Nat) (hd : decode cc pc = .ok (.ifCond .ge off, 3)) (ht : (pc : Int) + off = (tgt : Int)) (hp : pc + 3 = pc') (kt : 0 ≤ x → J X nL ws k n tgt lv st) (kf : ¬ 0 ≤ x → J X nL ws k n pc' lv st) : J X nL ws k n pc lv (.int x :: st) := by
  obtain ⟨⟨l, s0, D, ca⟩, p, e, R, s, m, args, below, meth, c, Q⟩ := X
  obtain ⟨hx, hb, hml, hown, hwm, hold, hlocks, hG, hfr, hlo, hrc, hrs⟩ := E
  subst hp
  intro H locs ls hS hw hl
  exact lv_if_ge hx hb hd ht (fun z => kt z H locs ls hS hw hl) (fun z => kf z H locs ls hS hw hl)
theorem j_if_gt (E : JE X own cc nL d mc ms) {x : Int32} {off : Int} (tgt pc' : Nat) (hd : decode cc pc = .ok (.ifCond .gt off, 3)) (ht : (pc : Int) + off = (tgt : Int)) (hp : pc + 3 = pc') (kt : 0 < x → J X nL ws k n tgt lv st) (kf : ¬ 0 < x → J X nL ws k n pc' lv st) : J X nL ws k n pc lv (.int x :: st) := by
  obtain ⟨⟨l, s0, D, ca⟩, p, e, R, s, m, args, below, meth, c, Q⟩ := X
  obtain ⟨hx, hb, hml, hown, hwm, hold, hlocks, hG, hfr, hlo, hrc, hrs⟩ := E
  subst hp
  intro H locs ls hS hw hl
  exact lv_if_gt hx hb hd ht (fun z => kt z H locs ls hS hw hl) (fun z => kf z H locs ls hS hw hl)
theorem j_if_le (E : JE X own cc nL d mc ms) {x : Int32} {off : Int} (tgt pc' : Nat) (hd : decode cc pc = .ok (.ifCond .le off, 3)) (ht : (pc : Int) + off = (tgt : Int)) (hp : pc + 3 = pc') (kt : x ≤ 0 → J X nL ws k n tgt lv st) (kf : ¬ x ≤ 0 → J X nL ws k n pc' lv st) : J X nL ws k n pc lv (.int x :: st) := by
  obtain ⟨⟨l, s0, D, ca⟩, p, e, R, s, m, args, below, meth, c, Q⟩ := X
  obtain ⟨hx, hb, hml, hown, hwm, hold, hlocks, hG, hfr, hlo, hrc, hrs⟩ := E
  subst hp
  intro H locs ls hS hw hl
  exact lv_if_le hx hb hd ht (fun z => kt z H locs ls hS hw hl) (fun z => kf z H locs ls hS hw hl)
theorem j_icmp_eq (E : JE X own cc nL d mc ms) {x y : Int32} {off : Int} (tgt pc' : Nat) (hd : decode cc pc = .ok (.if_icmp .eq off, 3)) (ht : (pc : Int) + off = (tgt : Int)) (hp : pc + 3 = pc') (kt : x = y → J X nL ws k n tgt lv st) (kf : ¬ x = y → J X nL ws k n pc' lv st) : J X nL ws k n pc lv (.int y :: .int x :: st) := by
  obtain ⟨⟨l, s0, D, ca⟩, p, e, R, s, m, args, below, meth, c, Q⟩ := X
  obtain ⟨hx, hb, hml, hown, hwm, hold, hlocks, hG, hfr, hlo, hrc, hrs⟩ := E
  subst hp
  intro H locs ls hS hw hl
  exact lv_icmp_eq hx hb hd ht (fun z => kt z H locs ls hS hw hl) (fun z => kf z H locs ls hS hw hl)
theorem j_icmp_ne (E : JE X own cc nL d mc ms) {x y : Int32} {off : Int} (tgt pc' : Nat) (hd : decode cc pc = .ok (.if_icmp .ne off, 3)) (ht : (pc : Int) + off = (tgt : Int)) (hp : pc + 3 = pc') (kt : ¬ x = y → J X nL ws k n tgt lv st) (kf : x = y → J X nL ws k n pc' lv st) : J X nL ws k n pc lv (.int y :: .int x :: st) := by
  obtain ⟨⟨l, s0, D, ca⟩, p, e, R, s, m, args, below, meth, c, Q⟩ := X
  obtain ⟨hx, hb, hml, hown, hwm, hold, hlocks, hG, hfr, hlo, hrc, hrs⟩ := E
  subst hp
  intro H locs ls hS hw hl
  exact lv_icmp_ne hx hb hd ht (fun z => kt z H locs ls hS hw hl) (fun z => kf z H locs ls hS hw hl)
theorem j_icmp_lt (E : JE X own cc nL d mc ms) {x y : Int32} {off : Int} (tgt pc' : Nat) (hd : decode cc pc = .ok (.if_icmp .lt off, 3)) (ht : (pc : Int) + off = (tgt : Int)) (hp : pc + 3 = pc') (kt : x < y → J X nL ws k n tgt lv st) (kf : ¬ x < y → J X nL ws k n pc' lv st) : J X nL ws k n pc lv (.int y :: .int x :: st) := by
  obtain ⟨⟨l, s0, D, ca⟩, p, e, R, s, m, args, below, meth, c, Q⟩ := X
  obtain ⟨hx, hb, hml, hown, hwm, hold, hlocks, hG, hfr, hlo, hrc, hrs⟩ := E
  subst hp
  intro H locs ls hS hw hl
  exact lv_icmp_lt hx hb hd ht (fun z => kt z H locs ls hS hw hl) (fun z => kf z H locs ls hS hw hl)
theorem j_icmp_ge (E : JE X own cc nL d mc ms) {x y : Int32} {off : Int} (tgt pc' : Nat) (hd : decode cc pc = .ok (.if_icmp .ge off, 3)) (ht : (pc : Int) + off = (tgt : Int)) (hp : pc + 3 = pc') (kt : y ≤ x → J X nL ws k n tgt lv st) (kf : ¬ y ≤ x → J X nL ws k n pc' lv st) : J X nL ws k n pc lv (.int y :: .int x :: st) := by
  obtain ⟨⟨l, s0, D, ca⟩, p, e, R, s, m, args, below, meth, c, Q⟩ := X
  obtain ⟨hx, hb, hml, hown, hwm, hold, hlocks, hG, hfr, hlo, hrc, hrs⟩ := E
  subst hp
  intro H locs ls hS hw hl
  exact lv_icmp_ge hx hb hd ht (fun z => kt z H locs ls hS hw hl) (fun z => kf z H locs ls hS hw hl)
theorem j_icmp_gt (E : JE X own cc nL d mc ms) {x y : Int32} {off : Int} (tgt pc' : Nat) (hd : decode cc pc = .ok (.if_icmp .gt off, 3)) (ht : (pc : Int) + off = (tgt : Int)) (hp : pc + 3 = pc') (kt : y < x → J X nL ws k n tgt lv st) (kf : ¬ y < x → J X nL ws k n pc' lv st) : J X nL ws k n pc lv (.int y :: .int x :: st) := by
  obtain ⟨⟨l, s0, D, ca⟩, p, e, R, s, m, args, below, meth, c, Q⟩ := X
  obtain ⟨hx, hb, hml, hown, hwm, hold, hlocks, hG, hfr, hlo, hrc, hrs⟩ := E
  subst hp
  intro H locs ls hS hw hl
  exact lv_icmp_gt hx hb hd ht (fun z => kt z H locs ls hS hw hl) (fun z => kf z H locs ls hS hw hl)
theorem j_icmp_le (E : JE X own cc nL d mc ms) {x y : Int32} {off : Int} (tgt pc' : Nat) (hd : decode cc pc = .ok (.if_icmp .le off, 3)) (ht : (pc : Int) + off = (tgt : Int)) (hp : pc + 3 = pc') (kt : x ≤ y → J X nL ws k n tgt lv st) (kf : ¬ x ≤ y → J X nL ws k n pc' lv st) : J X nL ws k n pc lv (.int y :: .int x :: st) := by
  obtain ⟨⟨l, s0, D, ca⟩, p, e, R, s, m, args, below, meth, c, Q⟩ := X
  obtain ⟨hx, hb, hml, hown, hwm, hold, hlocks, hG, hfr, hlo, hrc, hrs⟩ := E
  subst hp
  intro H locs ls hS hw hl
  exact lv_icmp_le hx hb hd ht (fun z => kt z H locs ls hS hw hl) (fun z => kf z H locs ls hS hw hl)
theorem j_goto (E : JE X own cc nL d mc ms) {off : Int} (tgt : Nat) (hd : decode cc pc = .ok (.goto off, 3)) (ht : (pc : Int) + off = (tgt : Int)) (kk : J X nL ws k n tgt lv st) : J X nL ws k n pc lv st := by
  obtain ⟨⟨l, s0, D, ca⟩, p, e, R, s, m, args, below, meth, c, Q⟩ := X
  obtain ⟨hx, hb, hml, hown, hwm, hold, hlocks, hG, hfr, hlo, hrc, hrs⟩ := E
  intro H locs ls hS hw hl
  exact lv_goto hx hb hd ht (kk H locs ls hS hw hl)
theorem j_tableOut (E : JE X own cc nL d mc ms) {dflt lo hi : Int} {offs : Array Int} {len : Nat} {x : Int32} (tgt : Nat) (hd : decode cc pc = .ok (.tableswitch dflt lo hi offs, len)) (h : x.toInt < lo ∨ hi < x.toInt) (ht : (pc : Int) + dflt = (tgt : Int)) (kk : J X nL ws k n tgt lv st) : J X nL ws k n pc lv (.int x :: st) := by
  obtain ⟨⟨l, s0, D, ca⟩, p, e, R, s, m, args, below, meth, c, Q⟩ := X
  obtain ⟨hx, hb, hml, hown, hwm, hold, hlocks, hG, hfr, hlo, hrc, hrs⟩ := E
  intro H locs ls hS hw hl
  exact lv_tableOut hx hb hd h ht (kk H locs ls hS hw hl)
theorem j_tableIn (E : JE X own cc nL d mc ms) {dflt lo hi : Int} {offs : Array Int} {len : Nat} {x : Int32} {off : Int} (tgt : Nat) (hd : decode cc pc = .ok (.tableswitch dflt lo hi offs, len)) (h1 : ¬ x.toInt < lo) (h2 : ¬ hi < x.toInt) (ho : offs[(x.toInt - lo).toNat]? = some off) (ht : (pc : Int) + off = (tgt : Int)) (kk : J X nL ws k n tgt lv st) : J X nL ws k n pc lv (.int x :: st) := by
  obtain ⟨⟨l, s0, D, ca⟩, p, e, R, s, m, args, below, meth, c, Q⟩ := X
  obtain ⟨hx, hb, hml, hown, hwm, hold, hlocks, hG, hfr, hlo, hrc, hrs⟩ := E
  intro H locs ls hS hw hl
  exact lv_tableIn hx hb hd h1 h2 ho ht (kk H locs ls hS hw hl)
end JR

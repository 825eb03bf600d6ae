/-! rows on cells, over the parts of a world -/
def W9 (w : Cond) : Prop := w ∈ lw_tbl ∧ goodWord w = true
theorem GLB.word {g : GT} (h : GLB g) {s : State} (hw : g.2.1.WarmedH s.vm) {w : Cond} (h9 : W9 w) (a : Array Value) : w.before a s = true := word_at hw (good_of_word h9.2) (h.2.1 w h9.1 #[])
theorem GLB.K {g : GT} (h : GLB g) {s : State} (hw : g.2.1.WarmedH s.vm) : va_K g.2.2.1 clsL (tysL g.2.2.2) s := va_K.moved hw.alike h.2.2
/-- a field of a class, as an instruction of 'own' names it -/
def CLok (C : String) (T : u_T) (N : Nat) (ty0 : Nat → FieldType) : Prop := (∀ w ∈ u_ws C T N, W9 w) ∧ (∀ k, k < N → parseFieldDescriptor (T k).2.2.1 = some (ty0 k)) ∧ ∀ a, a < N → ∀ b, b < N → a ≠ b → (T a).2.1 ≠ (T b).2.1
def FLk (own : String) (index ci kf : Nat) (ty : FieldType) (fin : Bool) : Prop := ∃ (C : String) (T : u_T) (N : Nat) (ty0 : Nat → FieldType) (ref : String), clsL[ci]? = some (C, T, N) ∧ kf < N ∧ CLok C T N ty0 ∧ W9 (.fieldLink own index ref (T kf).2.1 (T kf).2.2.1) ∧ ((T kf).1 = ref ∨ W9 (.sameField ref (T kf).1 (T kf).2.1 (T kf).2.2.1)) ∧ (T kf).2.2.2 = fin ∧ parseFieldDescriptor (T kf).2.2.1 = some ty ∧ (fin = true → (T kf).1 = own)
/-- .. of a nest mate -/
def FLn (own : String) (index ci kf : Nat) (ty : FieldType) : Prop := ∃ (C : String) (T : u_T) (N : Nat) (ty0 : Nat → FieldType) (ref host : String), clsL[ci]? = some (C, T, N) ∧ kf < N ∧ CLok C T N ty0 ∧ (.fieldLinkNest own index ref (T kf).2.1 (T kf).2.2.1 host) ∈ lw_tbl ∧ (T kf).1 = ref ∧ (T kf).2.2.2 = false ∧ parseFieldDescriptor (T kf).2.2.1 = some ty
def aB (g : GT) (n : Nat) (f : Nat → Int32) : va_E := .inl (g.2.2.2 0, n, .inl f)
def aI (g : GT) (n : Nat) (f : Nat → Int32) : va_E := .inl (g.2.2.2 1, n, .inl f)
def aJ (g : GT) (n : Nat) (f : Nat → Int64) : va_E := .inl (g.2.2.2 2, n, .inr (.inl f))
def aZ (g : GT) (n : Nat) (f : Nat → Int32) : va_E := .inl (g.2.2.2 3, n, .inl f)
def aO (g : GT) (n : Nat) (f : Nat → Option Nat) : va_E := .inl (g.2.2.2 4, n, .inr (.inr (.inr (.inr f))))
section JH
variable {X : XT} {own : String} {cc : ByteArray} {nL d mc ms : Nat} {ws ws1 : List Asn} {k n pc : Nat} {lv : List (Option Value)} {st : List Value} {a : Nat}
theorem j_getf (E : JE X own cc nL d mc ms) {index ci kf : Nat} {ty : FieldType} {fin : Bool} {fs : List Value} {v : Value} (pc' : Nat) (hd : decode cc pc = .ok (.getfield index, 3)) (hF : FLk own index ci kf ty fin) (hp : Pick ws (pt a (.inr (ci, fs))) ws1) (hv : fs[kf]? = some v) (hpc : pc + 3 = pc') (kk : J X nL ws k n pc' lv (v :: st)) : J X nL ws k n pc lv (.ref a :: st) := by
  obtain ⟨⟨l, s0, D, ca⟩, p, e, R, s, m, args, below, meth, c, Q⟩ := X
  obtain ⟨hx, hb, hml, hown, hwm, hold, hlocks, hG, hfr, hlo, hrc, hrs⟩ := E
  subst hpc
  intro H locs ls hS hw hl
  obtain ⟨w, hP, hD, hs⟩ := id hw
  obtain ⟨q, hq, -⟩ := pick_at hp hs
  obtain ⟨C, T, N, ty0, ref, hc, hk, hcl, hl9, hsm, -, -, -⟩ := hF
  refine va_get (Ts := u_ws C T N) hx hb (fun w h => hG.word hwm (hcl.1 w h) _) (fun w h => h) hown (hG.K hwm) hP q hq hc kf hk (hG.word hwm hl9 _) (fun x h => ?_) hv hd (kk H locs ls hS hw hl)
  rcases hsm with h1 | h1
  · rw [← h1]; exact h
  · exact u_same (hG.word hwm h1 args) x h
theorem j_getfN (E : JE X own cc nL d mc ms) {index ci kf : Nat} {ty : FieldType} {fs : List Value} {v : Value} (pc' : Nat) (hd : decode cc pc = .ok (.getfield index, 3)) (hF : FLn own index ci kf ty) (hp : Pick ws (pt a (.inr (ci, fs))) ws1) (hv : fs[kf]? = some v) (hpc : pc + 3 = pc') (kk : J X nL ws k n pc' lv (v :: st)) : J X nL ws k n pc lv (.ref a :: st) := by
  obtain ⟨⟨l, s0, D, ca⟩, p, e, R, s, m, args, below, meth, c, Q⟩ := X
  obtain ⟨hx, hb, hml, hown, hwm, hold, hlocks, hG, hfr, hlo, hrc, hrs⟩ := E
  subst hpc
  intro H locs ls hS hw hl
  obtain ⟨w, hP, hD, hs⟩ := id hw
  obtain ⟨q, hq, -⟩ := pick_at hp hs
  obtain ⟨C, T, N, ty0, ref, host, hc, hk, hcl, hl9, hsm, -, -⟩ := hF
  refine va_getN (host := host) (Ts := u_ws C T N) hx hb (fun w h => hG.word hwm (hcl.1 w h) _) (fun w h => h) hown (hG.K hwm) hP q hq hc kf hk (va_Nw.use rfl (va_Nw.warmF hwm (hG.2.1 _ hl9 #[]))) (fun x h => ?_) hv hd (kk H locs ls hS hw hl)
  rw [← hsm]; exact h
theorem j_putf (E : JE X own cc nL d mc ms) {index ci kf : Nat} {ty : FieldType} {fs : List Value} {v : Value} (pc' : Nat) (hd : decode cc pc = .ok (.putfield index, 3)) (hF : FLk own index ci kf ty false) (hp : Pick ws (pt a (.inr (ci, fs))) ws1) (hn : narrow ty v = v) (hf : fits ty v = true) (hl : kf < fs.length) (hpc : pc + 3 = pc') (kk : J X nL (pt a (.inr (ci, fs.set kf v)) :: ws1) k n pc' lv st) : J X nL ws k n pc lv (v :: .ref a :: st) := by
  obtain ⟨⟨l, s0, D, ca⟩, p, e, R, s, m, args, below, meth, c, Q⟩ := X
  obtain ⟨hx, hb, hml, hown, hwm, hold, hlocks, hG, hfr, hlo, hrc, hrs⟩ := E
  subst hpc
  intro H locs ls hS hw hls
  obtain ⟨w, hP, hD, hs⟩ := id hw
  obtain ⟨q, hq, hset⟩ := pick_at hp hs
  obtain ⟨C, T, N, ty0, ref, hc, hk, hcl, hl9, hsm, hfin, hty, -⟩ := hF
  refine va_put (Ts := u_ws C T N) hx hb (fun w h => hG.word hwm (hcl.1 w h) _) (fun w h => h) ty0 hcl.2.1 hcl.2.2 hown (hG.K hwm) hP hD hS q hq hc kf hk (hG.word hwm hl9 _) (fun x h => ?_) hfin hty hn hf hl hd (fun H1 locs1 hP1 hD1 hS1 => kk H1 locs1 ls hS1 ⟨_, hP1, hD1, hset _⟩ hls)
  rcases hsm with h1 | h1
  · rw [← h1]; exact h
  · exact u_same (hG.word hwm h1 args) x h
theorem j_putfN (E : JE X own cc nL d mc ms) {index ci kf : Nat} {ty : FieldType} {fs : List Value} {v : Value} (pc' : Nat) (hd : decode cc pc = .ok (.putfield index, 3)) (hF : FLn own index ci kf ty) (hp : Pick ws (pt a (.inr (ci, fs))) ws1) (hn : narrow ty v = v) (hf : fits ty v = true) (hl : kf < fs.length) (hpc : pc + 3 = pc') (kk : J X nL (pt a (.inr (ci, fs.set kf v)) :: ws1) k n pc' lv st) : J X nL ws k n pc lv (v :: .ref a :: st) := by
  obtain ⟨⟨l, s0, D, ca⟩, p, e, R, s, m, args, below, meth, c, Q⟩ := X
  obtain ⟨hx, hb, hml, hown, hwm, hold, hlocks, hG, hfr, hlo, hrc, hrs⟩ := E
  subst hpc
  intro H locs ls hS hw hls
  obtain ⟨w, hP, hD, hs⟩ := id hw
  obtain ⟨q, hq, hset⟩ := pick_at hp hs
  obtain ⟨C, T, N, ty0, ref, host, hc, hk, hcl, hl9, hsm, hfin, hty⟩ := hF
  refine va_putN (host := host) (Ts := u_ws C T N) hx hb (fun w h => hG.word hwm (hcl.1 w h) _) (fun w h => h) ty0 hcl.2.1 hcl.2.2 hown (hG.K hwm) hP hD hS q hq hc kf hk (va_Nw.use rfl (va_Nw.warmF hwm (hG.2.1 _ hl9 #[]))) (fun x h => ?_) hfin hty hn hf hl hd (fun H1 locs1 hP1 hD1 hS1 => kk H1 locs1 ls hS1 ⟨_, hP1, hD1, hset _⟩ hls)
  rw [← hsm]; exact h
/-- in a constructor -/
def JIn (X : XT) : Prop := X.2.2.2.2.2.2.2.2.1.name = "<init>"
theorem j_putfF (E : JE X own cc nL d mc ms) (hin : JIn X) {index ci kf : Nat} {ty : FieldType} {fs : List Value} {v : Value} (pc' : Nat) (hd : decode cc pc = .ok (.putfield index, 3)) (hF : FLk own index ci kf ty true) (hp : Pick ws (pt a (.inr (ci, fs))) ws1) (hn : narrow ty v = v) (hf : fits ty v = true) (hl : kf < fs.length) (hpc : pc + 3 = pc') (kk : J X nL (pt a (.inr (ci, fs.set kf v)) :: ws1) k n pc' lv st) : J X nL ws k n pc lv (v :: .ref a :: st) := by
  obtain ⟨⟨l, s0, D, ca⟩, p, e, R, s, m, args, below, meth, c, Q⟩ := X
  obtain ⟨hx, hb, hml, hown, hwm, hold, hlocks, hG, hfr, hlo, hrc, hrs⟩ := E
  subst hpc
  intro H locs ls hS hw hls
  obtain ⟨w, hP, hD, hs⟩ := id hw
  obtain ⟨q, hq, hset⟩ := pick_at hp hs
  obtain ⟨C, T, N, ty0, ref, hc, hk, hcl, hl9, hsm, hfin, hty, hdecl⟩ := hF
  refine va_putF (Ts := u_ws C T N) hx hb (fun w h => hG.word hwm (hcl.1 w h) _) (fun w h => h) ty0 hcl.2.1 hcl.2.2 hown (hG.K hwm) hP hD hS q hq hc kf hk (hG.word hwm hl9 _) (fun x h => ?_) hfin hin (hdecl rfl) hty hn hf hl hd (fun H1 locs1 hP1 hD1 hS1 => kk H1 locs1 ls hS1 ⟨_, hP1, hD1, hset _⟩ hls)
  rcases hsm with h1 | h1
  · rw [← h1]; exact h
  · exact u_same (hG.word hwm h1 args) x h
/-- a new object of class ci -/
def CNk (own : String) (index ci : Nat) (fs : List Value) (N : Nat) : Prop := ∃ (C : String) (T : u_T) (ty0 : Nat → FieldType), clsL[ci]? = some (C, T, N) ∧ CLok C T N ty0 ∧ W9 (.classLink own index C) ∧ W9 (.instantiable C N) ∧ W9 (.initialized C) ∧ ∀ j, j < N → defaultValue (ty0 j) = vp_V fs j
theorem j_new (E : JE X own cc nL d mc ms) {index ci N : Nat} {fs : List Value} (pc' : Nat) (hd : decode cc pc = .ok (.new index, 3)) (hF : CNk own index ci fs N) (hk : k + 1 ≤ mc) (hn : n + N ≤ ms) (hpc : pc + 3 = pc') (kk : ∀ q : Nat, J X nL (pt q (.inr (ci, fs)) :: ws) (k + 1) (n + N) pc' lv (.ref q :: st)) : J X nL ws k n pc lv st := by
  obtain ⟨⟨l, s0, D, ca⟩, p, e, R, s, m, args, below, meth, c, Q⟩ := X
  obtain ⟨hx, hb, hml, hown, hwm, hold, hlocks, hG, hfr, hlo, hrc, hrs⟩ := E
  subst hpc
  intro H locs ls hS hw hls
  obtain ⟨w, hP, hD, hs⟩ := id hw
  obtain ⟨C, T, ty0, hc, hcl, h1, h2, h3, h4⟩ := hF
  exact va_new (Ts := u_ws C T N) hx hb (fun w h => hG.word hwm (hcl.1 w h) _) (fun w h => h) ty0 hcl.2.1 hown (hG.word hwm h1 _) (hG.word hwm h2 _) (hG.word hwm h3 _) (hG.K hwm) hP hD hS hold.A hc h4 (Nat.le_trans hk hrc) (Nat.le_trans hn hrs) hd (fun q H1 hP1 hD1 hS1 => kk q H1 locs ls hS1 ⟨_, hP1, hD1, sepL_new hs⟩ hls)
/-- Object.<init> -/
theorem j_objI (E : JE X own cc nL d mc ms) {index : Nat} (pc' : Nat) (hd : decode cc pc = .ok (.invokespecial index, 3)) (h1 : W9 (.methodLink own index Lib.objectInit)) (h2 : W9 (.instanceMethod Lib.objectInit)) (h3 : W9 (.code Lib.objectInit ⟨#[0xb1]⟩ 1 none)) (hst : (st.map fun v => v.category).sum + 12 ≤ 46) (hd1 : 1 ≤ d) (hpc : pc + 3 = pc') (kk : J X nL ws k n pc' lv st) : J X nL ws k n pc lv (.ref a :: st) := by
  obtain ⟨⟨l, s0, D, ca⟩, p, e, R, s, m, args, below, meth, c, Q⟩ := X
  obtain ⟨hx, hb, hml, hown, hwm, hold, hlocks, hG, hfr, hlo, hrc, hrs⟩ := E
  subst hpc
  intro H locs ls hS hw hls
  refine W.objInit hx hb hown (hG.word hwm h1 _) (hG.word hwm h2 _) (hG.word hwm h3 _) rfl (by rw [hml]; exact hls.1) rfl hd (by omega) ?_ (W.eq (g2 := F0 m (pc + 3) ls st) rfl (kk H locs ls hS hw hls))
  show 2 * 0 + (st.map fun v => v.category).sum + 12 ≤ R.locals
  omega
/-- constants -/
theorem j_ldcI (E : JE X own cc nL d mc ms) {index : Nat} (v : Int32) (pc' : Nat) (hd : decode cc pc = .ok (.ldc index, 2)) (h1 : W9 (.constant own index v)) (hpc : pc + 2 = pc') (kk : J X nL ws k n pc' lv (.int v :: st)) : J X nL ws k n pc lv st := by
  obtain ⟨⟨l, s0, D, ca⟩, p, e, R, s, m, args, below, meth, c, Q⟩ := X
  obtain ⟨hx, hb, hml, hown, hwm, hold, hlocks, hG, hfr, hlo, hrc, hrs⟩ := E
  subst hpc
  intro H locs ls hS hw hls
  exact lv_ldc hx hb hown (hG.word hwm h1 _) hd (kk H locs ls hS hw hls)
theorem j_ldcL (E : JE X own cc nL d mc ms) {index : Nat} (v : Int64) (pc' : Nat) (hd : decode cc pc = .ok (.ldc2_w index, 3)) (h1 : W9 (.constantLong own index v)) (hpc : pc + 3 = pc') (kk : J X nL ws k n pc' lv (.long v :: st)) : J X nL ws k n pc lv st := by
  obtain ⟨⟨l, s0, D, ca⟩, p, e, R, s, m, args, below, meth, c, Q⟩ := X
  obtain ⟨hx, hb, hml, hown, hwm, hold, hlocks, hG, hfr, hlo, hrc, hrs⟩ := E
  subst hpc
  intro H locs ls hS hw hls
  exact lv_ldc2 hx hb hown (hG.word hwm h1 _) hd (kk H locs ls hS hw hls)
/-- arrays: reading -/
theorem j_bald (E : JE X own cc nL d mc ms) {N : Nat} {f : Nat → Int32} {i : Int32} (pc' : Nat) (hd : decode cc pc = .ok (.baload, 1)) (hp : Pick ws (pt a (aB X.1 N f)) ws1) (hin : vp_in i N) (hpc : pc + 1 = pc') (kk : J X nL ws k n pc' lv (.int (f i.toNatClampNeg) :: st)) : J X nL ws k n pc lv (.int i :: .ref a :: st) := by
  obtain ⟨⟨l, s0, D, ca⟩, p, e, R, s, m, args, below, meth, c, Q⟩ := X
  obtain ⟨hx, hb, hml, hown, hwm, hold, hlocks, hG, hfr, hlo, hrc, hrs⟩ := E
  subst hpc
  intro H locs ls hS hw hl
  obtain ⟨w, hP, hD, hs⟩ := id hw
  obtain ⟨q, hq, -⟩ := pick_at hp hs
  exact va_bald hx hb (hG.K hwm) hP q 0 hq rfl hin hd (kk H locs ls hS hw hl)
theorem j_iald (E : JE X own cc nL d mc ms) {N : Nat} {f : Nat → Int32} {i : Int32} (pc' : Nat) (hd : decode cc pc = .ok (.iaload, 1)) (hp : Pick ws (pt a (aI X.1 N f)) ws1) (hin : vp_in i N) (hpc : pc + 1 = pc') (kk : J X nL ws k n pc' lv (.int (f i.toNatClampNeg) :: st)) : J X nL ws k n pc lv (.int i :: .ref a :: st) := by
  obtain ⟨⟨l, s0, D, ca⟩, p, e, R, s, m, args, below, meth, c, Q⟩ := X
  obtain ⟨hx, hb, hml, hown, hwm, hold, hlocks, hG, hfr, hlo, hrc, hrs⟩ := E
  subst hpc
  intro H locs ls hS hw hl
  obtain ⟨w, hP, hD, hs⟩ := id hw
  obtain ⟨q, hq, -⟩ := pick_at hp hs
  exact va_iald hx hb (hG.K hwm) hP q 1 hq rfl hin hd (kk H locs ls hS hw hl)
theorem j_lald (E : JE X own cc nL d mc ms) {N : Nat} {f : Nat → Int64} {i : Int32} (pc' : Nat) (hd : decode cc pc = .ok (.laload, 1)) (hp : Pick ws (pt a (aJ X.1 N f)) ws1) (hin : vp_in i N) (hpc : pc + 1 = pc') (kk : J X nL ws k n pc' lv (.long (f i.toNatClampNeg) :: st)) : J X nL ws k n pc lv (.int i :: .ref a :: st) := by
  obtain ⟨⟨l, s0, D, ca⟩, p, e, R, s, m, args, below, meth, c, Q⟩ := X
  obtain ⟨hx, hb, hml, hown, hwm, hold, hlocks, hG, hfr, hlo, hrc, hrs⟩ := E
  subst hpc
  intro H locs ls hS hw hl
  obtain ⟨w, hP, hD, hs⟩ := id hw
  obtain ⟨q, hq, -⟩ := pick_at hp hs
  exact va_lald hx hb (hG.K hwm) hP q 2 hq rfl hin hd (kk H locs ls hS hw hl)
theorem j_zald (E : JE X own cc nL d mc ms) {N : Nat} {f : Nat → Int32} {i : Int32} (pc' : Nat) (hd : decode cc pc = .ok (.baload, 1)) (hp : Pick ws (pt a (aZ X.1 N f)) ws1) (hin : vp_in i N) (hpc : pc + 1 = pc') (kk : J X nL ws k n pc' lv (.int (f i.toNatClampNeg) :: st)) : J X nL ws k n pc lv (.int i :: .ref a :: st) := by
  obtain ⟨⟨l, s0, D, ca⟩, p, e, R, s, m, args, below, meth, c, Q⟩ := X
  obtain ⟨hx, hb, hml, hown, hwm, hold, hlocks, hG, hfr, hlo, hrc, hrs⟩ := E
  subst hpc
  intro H locs ls hS hw hl
  obtain ⟨w, hP, hD, hs⟩ := id hw
  obtain ⟨q, hq, -⟩ := pick_at hp hs
  exact va_zald hx hb (hG.K hwm) hP q 3 hq rfl hin hd (kk H locs ls hS hw hl)
theorem j_aald (E : JE X own cc nL d mc ms) {N : Nat} {f : Nat → Option Nat} {i : Int32} (pc' : Nat) (hd : decode cc pc = .ok (.aaload, 1)) (hp : Pick ws (pt a (aO X.1 N f)) ws1) (hin : vp_in i N) (hpc : pc + 1 = pc') (kk : J X nL ws k n pc' lv (va_rf (f i.toNatClampNeg) :: st)) : J X nL ws k n pc lv (.int i :: .ref a :: st) := by
  obtain ⟨⟨l, s0, D, ca⟩, p, e, R, s, m, args, below, meth, c, Q⟩ := X
  obtain ⟨hx, hb, hml, hown, hwm, hold, hlocks, hG, hfr, hlo, hrc, hrs⟩ := E
  subst hpc
  intro H locs ls hS hw hl
  obtain ⟨w, hP, hD, hs⟩ := id hw
  obtain ⟨q, hq, -⟩ := pick_at hp hs
  exact va_aldq hx hb (hG.K hwm) hP q 4 hq rfl hin hd (kk H locs ls hS hw hl)
/-- arrays: length -/
theorem j_alen (E : JE X own cc nL d mc ms) {i : Fin 5} {x : vp_A} (v : Int32) (pc' : Nat) (hd : decode cc pc = .ok (.arraylength, 1)) (hp : Pick ws (pt a (.inl (X.1.2.2.2 i, x))) ws1) (hv : Int32.ofNat x.1 = v) (hpc : pc + 1 = pc') (kk : J X nL ws k n pc' lv (.int v :: st)) : J X nL ws k n pc lv (.ref a :: st) := by
  obtain ⟨⟨l, s0, D, ca⟩, p, e, R, s, m, args, below, meth, c, Q⟩ := X
  obtain ⟨hx, hb, hml, hown, hwm, hold, hlocks, hG, hfr, hlo, hrc, hrs⟩ := E
  subst hpc
  intro H locs ls hS hw hl
  obtain ⟨w, hP, hD, hs⟩ := id hw
  obtain ⟨q, hq, -⟩ := pick_at hp hs
  obtain ⟨ty, ht⟩ : ∃ ty, (tysL ca)[(i : Nat)]? = some (ca i, ty) := by
    match i with
    | 0 => exact ⟨_, rfl⟩
    | 1 => exact ⟨_, rfl⟩
    | 2 => exact ⟨_, rfl⟩
    | 3 => exact ⟨_, rfl⟩
    | 4 => exact ⟨_, rfl⟩
  exact va_alen hx hb (hG.K hwm) hP q i hq ht hv hd (kk H locs ls hS hw hl)
/-- arrays: writing -/
theorem j_bast (E : JE X own cc nL d mc ms) {N : Nat} {f : Nat → Int32} {i x : Int32} (pc' : Nat) (hd : decode cc pc = .ok (.bastore, 1)) (hp : Pick ws (pt a (aB X.1 N f)) ws1) (hin : vp_in i N) (hpc : pc + 1 = pc') (kk : J X nL (pt a (aB X.1 N (upd f i.toNatClampNeg (vp_nar .byte x))) :: ws1) k n pc' lv st) : J X nL ws k n pc lv (.int x :: .int i :: .ref a :: st) := by
  obtain ⟨⟨l, s0, D, ca⟩, p, e, R, s, m, args, below, meth, c, Q⟩ := X
  obtain ⟨hx, hb, hml, hown, hwm, hold, hlocks, hG, hfr, hlo, hrc, hrs⟩ := E
  subst hpc
  intro H locs ls hS hw hl
  obtain ⟨w, hP, hD, hs⟩ := id hw
  obtain ⟨q, hq, hset⟩ := pick_at hp hs
  exact va_bast hx hb (hG.K hwm) hP hD hS q 0 hq rfl hin hd (fun H1 locs1 hP1 hD1 hS1 => kk H1 locs1 ls hS1 ⟨_, hP1, hD1, hset _⟩ hl)
theorem j_iast (E : JE X own cc nL d mc ms) {N : Nat} {f : Nat → Int32} {i x : Int32} (pc' : Nat) (hd : decode cc pc = .ok (.iastore, 1)) (hp : Pick ws (pt a (aI X.1 N f)) ws1) (hin : vp_in i N) (hpc : pc + 1 = pc') (kk : J X nL (pt a (aI X.1 N (upd f i.toNatClampNeg x)) :: ws1) k n pc' lv st) : J X nL ws k n pc lv (.int x :: .int i :: .ref a :: st) := by
  obtain ⟨⟨l, s0, D, ca⟩, p, e, R, s, m, args, below, meth, c, Q⟩ := X
  obtain ⟨hx, hb, hml, hown, hwm, hold, hlocks, hG, hfr, hlo, hrc, hrs⟩ := E
  subst hpc
  intro H locs ls hS hw hl
  obtain ⟨w, hP, hD, hs⟩ := id hw
  obtain ⟨q, hq, hset⟩ := pick_at hp hs
  exact va_iast hx hb (hG.K hwm) hP hD hS q 1 hq rfl hin hd (fun H1 locs1 hP1 hD1 hS1 => kk H1 locs1 ls hS1 ⟨_, hP1, hD1, hset _⟩ hl)
theorem j_last (E : JE X own cc nL d mc ms) {N : Nat} {f : Nat → Int64} {i : Int32} {x : Int64} (pc' : Nat) (hd : decode cc pc = .ok (.lastore, 1)) (hp : Pick ws (pt a (aJ X.1 N f)) ws1) (hin : vp_in i N) (hpc : pc + 1 = pc') (kk : J X nL (pt a (aJ X.1 N (vp_updL f i.toNatClampNeg x)) :: ws1) k n pc' lv st) : J X nL ws k n pc lv (.long x :: .int i :: .ref a :: st) := by
  obtain ⟨⟨l, s0, D, ca⟩, p, e, R, s, m, args, below, meth, c, Q⟩ := X
  obtain ⟨hx, hb, hml, hown, hwm, hold, hlocks, hG, hfr, hlo, hrc, hrs⟩ := E
  subst hpc
  intro H locs ls hS hw hl
  obtain ⟨w, hP, hD, hs⟩ := id hw
  obtain ⟨q, hq, hset⟩ := pick_at hp hs
  exact va_last hx hb (hG.K hwm) hP hD hS q 2 hq rfl hin hd (fun H1 locs1 hP1 hD1 hS1 => kk H1 locs1 ls hS1 ⟨_, hP1, hD1, hset _⟩ hl)
theorem j_zast (E : JE X own cc nL d mc ms) {N : Nat} {f : Nat → Int32} {i x : Int32} (pc' : Nat) (hd : decode cc pc = .ok (.bastore, 1)) (hp : Pick ws (pt a (aZ X.1 N f)) ws1) (hin : vp_in i N) (hpc : pc + 1 = pc') (kk : J X nL (pt a (aZ X.1 N (upd f i.toNatClampNeg (vp_nar .boolean x))) :: ws1) k n pc' lv st) : J X nL ws k n pc lv (.int x :: .int i :: .ref a :: st) := by
  obtain ⟨⟨l, s0, D, ca⟩, p, e, R, s, m, args, below, meth, c, Q⟩ := X
  obtain ⟨hx, hb, hml, hown, hwm, hold, hlocks, hG, hfr, hlo, hrc, hrs⟩ := E
  subst hpc
  intro H locs ls hS hw hl
  obtain ⟨w, hP, hD, hs⟩ := id hw
  obtain ⟨q, hq, hset⟩ := pick_at hp hs
  exact va_zast hx hb (hG.K hwm) hP hD hS q 3 hq rfl hin hd (fun H1 locs1 hP1 hD1 hS1 => kk H1 locs1 ls hS1 ⟨_, hP1, hD1, hset _⟩ hl)
/-- a null into an array of objects -/
theorem j_aastN (E : JE X own cc nL d mc ms) {N : Nat} {f : Nat → Option Nat} {i : Int32} (pc' : Nat) (hd : decode cc pc = .ok (.aastore, 1)) (hp : Pick ws (pt a (aO X.1 N f)) ws1) (hin : vp_in i N) (hpc : pc + 1 = pc') (kk : J X nL (pt a (aO X.1 N (va_up f i.toNatClampNeg none)) :: ws1) k n pc' lv st) : J X nL ws k n pc lv (.null :: .int i :: .ref a :: st) := by
  obtain ⟨⟨l, s0, D, ca⟩, p, e, R, s, m, args, below, meth, c, Q⟩ := X
  obtain ⟨hx, hb, hml, hown, hwm, hold, hlocks, hG, hfr, hlo, hrc, hrs⟩ := E
  subst hpc
  intro H locs ls hS hw hl
  obtain ⟨w, hP, hD, hs⟩ := id hw
  obtain ⟨q, hq, hset⟩ := pick_at hp hs
  exact va_astqN hx hb (hG.K hwm) hP hD hS q 4 hq rfl hin hd (fun H1 locs1 hP1 hD1 hS1 => kk H1 locs1 ls hS1 ⟨_, hP1, hD1, hset _⟩ hl)
end JH
/-- new arrays -/
theorem cell0 {ca cb : ClassId} {s : State} {ty : FieldType} (h1 : va_RA s ca ty) (h2 : va_RA s cb ty) : ca = cb := by
  have h : ∀ c, va_RA s c ty → s.vm.findClass ("[" ++ ty.toString) = some c := by
    intro c h
    cases ty with
    | object C => exact h.choose_spec.choose_spec.2.2.2
    | _ => exact h
  exact Option.some.inj ((h ca h1).symm.trans (h cb h2))
section JN
variable {X : XT} {own : String} {cc : ByteArray} {nL d mc ms : Nat} {ws ws1 : List Asn} {k n pc : Nat} {lv : List (Option Value)} {st : List Value} {a : Nat}
theorem j_newB (E : JE X own cc nL d mc ms) {i : Int32} (N : Nat) (pc' : Nat) (hd : decode cc pc = .ok (.newarray .byte, 2)) (h1 : W9 (.arrayClass .byte)) (hi : ¬ i < 0) (hN : i.toNatClampNeg = N) (hb9 : N ≤ 536870912) (hk : k + 1 ≤ mc) (hn : n + N ≤ ms) (hpc : pc + 2 = pc') (kk : ∀ q : Nat, J X nL (pt q (aB X.1 N (fun _ => 0)) :: ws) (k + 1) (n + N) pc' lv (.ref q :: st)) : J X nL ws k n pc lv (.int i :: st) := by
  obtain ⟨⟨l, s0, D, ca⟩, p, e, R, s, m, args, below, meth, c, Q⟩ := X
  obtain ⟨hx, hb, hml, hown, hwm, hold, hlocks, hG, hfr, hlo, hrc, hrs⟩ := E
  subst hpc
  intro H locs ls hS hw hl
  obtain ⟨w, hP, hD, hs⟩ := id hw
  refine va_newa (atype := .byte) (ty := .byte) (a0 := (N, .inl (fun _ => 0))) hx hb (hG.word hwm h1 _) rfl (hG.K hwm) hP hD hS hold.A (fun _ => rfl) hi hN (by show N * 1 ≤ _; omega) (Nat.le_trans hk hrc) (Nat.le_trans hn hrs) hd (fun q cA H1 hK1 hP1 hD1 hS1 => ?_)
  have e9 : cA = ca 0 := cell0 (hK1.2 5 _ rfl).2 ((hG.K hwm).2 0 _ rfl).2
  subst e9
  exact kk q H1 locs ls hS1 ⟨_, hP1, hD1, sepL_new hs⟩ hl
theorem j_newI (E : JE X own cc nL d mc ms) {i : Int32} (N : Nat) (pc' : Nat) (hd : decode cc pc = .ok (.newarray .int, 2)) (h1 : W9 (.arrayClass .int)) (hi : ¬ i < 0) (hN : i.toNatClampNeg = N) (hb9 : N ≤ 100000000) (hk : k + 1 ≤ mc) (hn : n + N ≤ ms) (hpc : pc + 2 = pc') (kk : ∀ q : Nat, J X nL (pt q (aI X.1 N (fun _ => 0)) :: ws) (k + 1) (n + N) pc' lv (.ref q :: st)) : J X nL ws k n pc lv (.int i :: st) := by
  obtain ⟨⟨l, s0, D, ca⟩, p, e, R, s, m, args, below, meth, c, Q⟩ := X
  obtain ⟨hx, hb, hml, hown, hwm, hold, hlocks, hG, hfr, hlo, hrc, hrs⟩ := E
  subst hpc
  intro H locs ls hS hw hl
  obtain ⟨w, hP, hD, hs⟩ := id hw
  refine va_newa (atype := .int) (ty := .int) (a0 := (N, .inl (fun _ => 0))) hx hb (hG.word hwm h1 _) rfl (hG.K hwm) hP hD hS hold.A (fun _ => rfl) hi hN (by show N * 4 ≤ _; omega) (Nat.le_trans hk hrc) (Nat.le_trans hn hrs) hd (fun q cA H1 hK1 hP1 hD1 hS1 => ?_)
  have e9 : cA = ca 1 := cell0 (hK1.2 5 _ rfl).2 ((hG.K hwm).2 1 _ rfl).2
  subst e9
  exact kk q H1 locs ls hS1 ⟨_, hP1, hD1, sepL_new hs⟩ hl
theorem j_newJ (E : JE X own cc nL d mc ms) {i : Int32} (N : Nat) (pc' : Nat) (hd : decode cc pc = .ok (.newarray .long, 2)) (h1 : W9 (.arrayClass .long)) (hi : ¬ i < 0) (hN : i.toNatClampNeg = N) (hb9 : N ≤ 60000000) (hk : k + 1 ≤ mc) (hn : n + N ≤ ms) (hpc : pc + 2 = pc') (kk : ∀ q : Nat, J X nL (pt q (aJ X.1 N (fun _ => 0)) :: ws) (k + 1) (n + N) pc' lv (.ref q :: st)) : J X nL ws k n pc lv (.int i :: st) := by
  obtain ⟨⟨l, s0, D, ca⟩, p, e, R, s, m, args, below, meth, c, Q⟩ := X
  obtain ⟨hx, hb, hml, hown, hwm, hold, hlocks, hG, hfr, hlo, hrc, hrs⟩ := E
  subst hpc
  intro H locs ls hS hw hl
  obtain ⟨w, hP, hD, hs⟩ := id hw
  refine va_newa (atype := .long) (ty := .long) (a0 := (N, .inr (.inl (fun _ => 0)))) hx hb (hG.word hwm h1 _) rfl (hG.K hwm) hP hD hS hold.A (fun _ => rfl) hi hN (by show N * 8 ≤ _; omega) (Nat.le_trans hk hrc) (Nat.le_trans hn hrs) hd (fun q cA H1 hK1 hP1 hD1 hS1 => ?_)
  have e9 : cA = ca 2 := cell0 (hK1.2 5 _ rfl).2 ((hG.K hwm).2 2 _ rfl).2
  subst e9
  exact kk q H1 locs ls hS1 ⟨_, hP1, hD1, sepL_new hs⟩ hl
theorem j_newZ (E : JE X own cc nL d mc ms) {i : Int32} (N : Nat) (pc' : Nat) (hd : decode cc pc = .ok (.newarray .boolean, 2)) (h1 : W9 (.arrayClass .boolean)) (hi : ¬ i < 0) (hN : i.toNatClampNeg = N) (hb9 : N ≤ 100000000) (hk : k + 1 ≤ mc) (hn : n + N ≤ ms) (hpc : pc + 2 = pc') (kk : ∀ q : Nat, J X nL (pt q (aZ X.1 N (fun _ => 0)) :: ws) (k + 1) (n + N) pc' lv (.ref q :: st)) : J X nL ws k n pc lv (.int i :: st) := by
  obtain ⟨⟨l, s0, D, ca⟩, p, e, R, s, m, args, below, meth, c, Q⟩ := X
  obtain ⟨hx, hb, hml, hown, hwm, hold, hlocks, hG, hfr, hlo, hrc, hrs⟩ := E
  subst hpc
  intro H locs ls hS hw hl
  obtain ⟨w, hP, hD, hs⟩ := id hw
  refine va_newa (atype := .boolean) (ty := .boolean) (a0 := (N, .inl (fun _ => 0))) hx hb (hG.word hwm h1 _) rfl (hG.K hwm) hP hD hS hold.A (fun _ => rfl) hi hN (by show N * 1 ≤ _; omega) (Nat.le_trans hk hrc) (Nat.le_trans hn hrs) hd (fun q cA H1 hK1 hP1 hD1 hS1 => ?_)
  have e9 : cA = ca 3 := cell0 (hK1.2 5 _ rfl).2 ((hG.K hwm).2 3 _ rfl).2
  subst e9
  exact kk q H1 locs ls hS1 ⟨_, hP1, hD1, sepL_new hs⟩ hl
theorem j_newO (E : JE X own cc nL d mc ms) {i : Int32} {index : Nat} (N : Nat) (pc' : Nat) (hd : decode cc pc = .ok (.anewarray index, 3)) (h1 : W9 (.classLink own index "java/lang/Object")) (h2 : .arrayOver (.object "java/lang/Object") ∈ lw_tbl) (hi : ¬ i < 0) (hN : i.toNatClampNeg = N) (hb9 : N ≤ 100000000) (hk : k + 1 ≤ mc) (hn : n + N ≤ ms) (hpc : pc + 3 = pc') (kk : ∀ q : Nat, J X nL (pt q (aO X.1 N (fun _ => none)) :: ws) (k + 1) (n + N) pc' lv (.ref q :: st)) : J X nL ws k n pc lv (.int i :: st) := by
  obtain ⟨⟨l, s0, D, ca⟩, p, e, R, s, m, args, below, meth, c, Q⟩ := X
  obtain ⟨hx, hb, hml, hown, hwm, hold, hlocks, hG, hfr, hlo, hrc, hrs⟩ := E
  subst hpc
  intro H locs ls hS hw hl
  obtain ⟨w, hP, hD, hs⟩ := id hw
  refine va_newq hx hb hown (hG.word hwm h1 _) (va_AO.moved hwm.alike (va_AO.of (hG.2.1 _ h2 #[]))) (hG.K hwm) hP hD hS hold.A hi hN (by show N * 4 ≤ _; omega) (Nat.le_trans hk hrc) (Nat.le_trans hn hrs) hd (fun q cA H1 hK1 hP1 hD1 hS1 => ?_)
  have e9 : cA = ca 4 := cell0 (hK1.2 5 _ rfl).2 ((hG.K hwm).2 4 _ rfl).2
  subst e9
  exact kk q H1 locs ls hS1 ⟨_, hP1, hD1, sepL_new hs⟩ hl
end JN

/-! more rows -/
/-- a final field of a nest mate, to be read -/
def FLnF (own : String) (index ci kf : Nat) (ty : FieldType) : Prop := ∃ (C : String) (T : u_T) (N : Nat) (ty0 : Nat → FieldType) (ref host : String), clsL[ci]? = some (C, T, N) ∧ kf < N ∧ CLok C T N ty0 ∧ (.fieldLinkNest own index ref (T kf).2.1 (T kf).2.2.1 host) ∈ lw_tbl ∧ (T kf).1 = ref ∧ parseFieldDescriptor (T kf).2.2.1 = some ty
section JM
variable {X : XT} {own : String} {cc : ByteArray} {nL d mc ms : Nat} {ws ws1 : List Asn} {k n pc : Nat} {lv : List (Option Value)} {st : List Value} {a : Nat}
theorem j_getfF (E : JE X own cc nL d mc ms) {index ci kf : Nat} {ty : FieldType} {fs : List Value} {v : Value} (pc' : Nat) (hd : decode cc pc = .ok (.getfield index, 3)) (hF : FLnF own index ci kf ty) (hp : Pick ws (pt a (.inr (ci, fs))) ws1) (hv : fs[kf]? = some v) (hpc : pc + 3 = pc') (kk : J X nL ws k n pc' lv (v :: st)) : J X nL ws k n pc lv (.ref a :: st) := by
  obtain ⟨⟨l, s0, D, ca⟩, p, e, R, s, m, args, below, meth, c, Q⟩ := X
  obtain ⟨hx, hb, hml, hown, hwm, hold, hlocks, hG, hfr, hlo, hrc, hrs⟩ := E
  subst hpc
  intro H locs ls hS hw hl
  obtain ⟨w, hP, hD, hs⟩ := id hw
  obtain ⟨q, hq, -⟩ := pick_at hp hs
  obtain ⟨C, T, N, ty0, ref, host, hc, hk, hcl, hl9, hsm, -⟩ := hF
  refine va_getN (host := host) (Ts := u_ws C T N) hx hb (fun w h => hG.word hwm (hcl.1 w h) _) (fun w h => h) hown (hG.K hwm) hP q hq hc kf hk (va_Nw.use rfl (va_Nw.warmF hwm (hG.2.1 _ hl9 #[]))) (fun x h => ?_) hv hd (kk H locs ls hS hw hl)
  rw [← hsm]; exact h
theorem j_alenB (E : JE X own cc nL d mc ms) {N : Nat} {f : Nat → Int32} (pc' : Nat) (hd : decode cc pc = .ok (.arraylength, 1)) (hp : Pick ws (pt a (aB X.1 N f)) ws1) (hpc : pc + 1 = pc') (kk : J X nL ws k n pc' lv (.int (nI N) :: st)) : J X nL ws k n pc lv (.ref a :: st) := j_alen (i := 0) E (nI N) pc' hd hp rfl hpc kk
theorem j_alenI (E : JE X own cc nL d mc ms) {N : Nat} {f : Nat → Int32} (pc' : Nat) (hd : decode cc pc = .ok (.arraylength, 1)) (hp : Pick ws (pt a (aI X.1 N f)) ws1) (hpc : pc + 1 = pc') (kk : J X nL ws k n pc' lv (.int (nI N) :: st)) : J X nL ws k n pc lv (.ref a :: st) := j_alen (i := 1) E (nI N) pc' hd hp rfl hpc kk
theorem j_alenJ (E : JE X own cc nL d mc ms) {N : Nat} {f : Nat → Int64} (pc' : Nat) (hd : decode cc pc = .ok (.arraylength, 1)) (hp : Pick ws (pt a (aJ X.1 N f)) ws1) (hpc : pc + 1 = pc') (kk : J X nL ws k n pc' lv (.int (nI N) :: st)) : J X nL ws k n pc lv (.ref a :: st) := j_alen (i := 2) E (nI N) pc' hd hp rfl hpc kk
theorem j_alenZ (E : JE X own cc nL d mc ms) {N : Nat} {f : Nat → Int32} (pc' : Nat) (hd : decode cc pc = .ok (.arraylength, 1)) (hp : Pick ws (pt a (aZ X.1 N f)) ws1) (hpc : pc + 1 = pc') (kk : J X nL ws k n pc' lv (.int (nI N) :: st)) : J X nL ws k n pc lv (.ref a :: st) := j_alen (i := 3) E (nI N) pc' hd hp rfl hpc kk
theorem j_alenO (E : JE X own cc nL d mc ms) {N : Nat} {f : Nat → Option Nat} (pc' : Nat) (hd : decode cc pc = .ok (.arraylength, 1)) (hp : Pick ws (pt a (aO X.1 N f)) ws1) (hpc : pc + 1 = pc') (kk : J X nL ws k n pc' lv (.int (nI N) :: st)) : J X nL ws k n pc lv (.ref a :: st) := j_alen (i := 4) E (nI N) pc' hd hp rfl hpc kk
end JM

/-! the object's state: tape, values, counts, out, fault -/
abbrev AS : Type := List UInt8 × List VT × Nat × Nat × List UInt8 × Nat × Nat
def AOk (S : AS) : Prop := S.1.length ≤ 65536 ∧ S.2.1.length ≤ 3000 ∧ S.2.2.1 ≤ 6000 ∧ S.2.2.2.1 ≤ 65536 ∧ S.2.2.2.2.1.length ≤ 65536 ∧ S.2.2.2.2.2.1 ≤ 8 ∧ S.2.2.2.2.2.2 ≤ 65536 ∧ ∀ v ∈ S.2.1, VTok S.2.1.length S.2.2.1 v
theorem VTok.more {n np n2 np2 : Nat} {v : VT} (h : VTok n np v) (h1 : n ≤ n2) (h2 : np ≤ np2) : VTok n2 np2 v :=
  ⟨h.1, h.2.1, Nat.le_trans h.2.2.1 h2, fun p hp => Nat.lt_of_lt_of_le (h.2.2.2.1 p hp) h1, h.2.2.2.2⟩
abbrev PGF (x tp vl rd ou lf rt : Nat) : Asn := pt x (.inr (6, [.ref tp, .ref vl, .ref rd, .ref ou, .ref lf, .ref rt]))
def PGt (S : AS) (vs : List VE) (P Q capT capV capG c1 k1 c2 k2 c3 k3 : Nat) : Prop := AOk S ∧ vts vs = S.2.1 ∧ (∀ e ∈ vs, e.2.2 = -1) ∧ P = 5 * (capT + c1 + c2 + c3) + 64 * (capV + capG + k1 + k2 + k3) ∧ Q = 2 * (capT + c1 + c2 + c3) + 4 * (capV + capG + k1 + k2 + k3)
def PGL (g : GT) (z : Nat → Nat) (x : Nat) (S : AS) (tp vl rd ld gr e ou p1 m1 lf p2 m2 rt p3 m3 capT capV capG c1 k1 c2 k2 c3 k3 : Nat) (b2 b3 : List UInt8) (vs : List VE) : List Asn :=
  [PGF x tp vl rd ou lf rt, ROW g tp S.1 capT, VLS g z vl vs S.2.2.1 S.2.2.2.1 capV, RDR rd ld gr e (nI S.2.2.2.2.2.1) (nI S.2.2.2.2.2.2), LEAx ld, LST g z gr [] capG, PCK g z ou p1 m1 S.2.2.2.2.1 c1 k1, PCK g z lf p2 m2 b2 c2 k2, PCK g z rt p3 m3 b3 c3 k3]
/-- the object x in the state S; P and Q tell how much room its rows have taken -/
def PGA (g : GT) (z : Nat → Nat) (x : Nat) (S : AS) (P Q : Nat) : Asn := fun w => ∃ (tp vl rd ld gr e ou p1 m1 lf p2 m2 rt p3 m3 capT capV capG c1 k1 c2 k2 c3 k3 : Nat) (b2 b3 : List UInt8) (vs : List VE), PGt S vs P Q capT capV capG c1 k1 c2 k2 c3 k3 ∧ sepL (PGL g z x S tp vl rd ld gr e ou p1 m1 lf p2 m2 rt p3 m3 capT capV capG c1 k1 c2 k2 c3 k3 b2 b3 vs) w
theorem pga_has {g : GT} {z : Nat → Nat} {x P Q : Nat} {S : AS} : Has (PGA g z x S P Q) x 6 := fun w h => by
  obtain ⟨tp, vl, rd, ld, gr, e, ou, p1, m1, lf, p2, m2, rt, p3, m3, capT, capV, capG, c1, k1, c2, k2, c3, k3, b2, b3, vs, -, w1, w2, hp, h1, -⟩ := h
  have h2 : w1 = [(x, .inr (6, [.ref tp, .ref vl, .ref rd, .ref ou, .ref lf, .ref rt]))] := h1
  exact ⟨_, hp.symm.subset (List.mem_append_left _ (by rw [h2]; exact List.mem_singleton.mpr rfl))⟩
theorem pga_rcv {g : GT} {z : Nat → Nat} {x P Q : Nat} {S : AS} {L : List Asn} : Rcv (PGA g z x S P Q :: L) x 6 := rcv_0 pga_has
section
variable {X : XT} {nL : Nat} {ws ws1 : List Asn} {k n pc : Nat} {lv : List (Option Value)} {st : List Value} {z : Nat → Nat} {x P Q : Nat} {S : AS}
theorem pga_open (hp : Pick ws (PGA X.1 z x S P Q) ws1) (kk : ∀ (tp vl rd ld gr e ou p1 m1 lf p2 m2 rt p3 m3 capT capV capG c1 k1 c2 k2 c3 k3 : Nat) (b2 b3 : List UInt8) (vs : List VE), PGt S vs P Q capT capV capG c1 k1 c2 k2 c3 k3 → J X nL (PGL X.1 z x S tp vl rd ld gr e ou p1 m1 lf p2 m2 rt p3 m3 capT capV capG c1 k1 c2 k2 c3 k3 b2 b3 vs ++ ws1) k n pc lv st) : J X nL ws k n pc lv st := by
  obtain ⟨⟨l, s0, D, ca⟩, p, e, R, s, m, args, below, meth, c, Q⟩ := X
  intro H locs ls hS hw hl
  obtain ⟨w, h1, h2, h3⟩ := hw
  obtain ⟨w1, w2, g1, g2, g3⟩ := hp w h3
  obtain ⟨tp, vl, rd, ld, gr, e, ou, p1, m1, lf, p2, m2, rt, p3, m3, capT, capV, capG, c1, k1, c2, k2, c3, k3, b2, b3, vs, hf, hq⟩ := g2
  exact kk tp vl rd ld gr e ou p1 m1 lf p2 m2 rt p3 m3 capT capV capG c1 k1 c2 k2 c3 k3 b2 b3 vs hf H locs ls hS ⟨w, h1, h2, sepL_join ⟨w1, w2, g1, hq, g3⟩⟩ hl
theorem pga_close {tp vl rd ld gr e ou p1 m1 lf p2 m2 rt p3 m3 capT capV capG c1 k1 c2 k2 c3 k3 np nb cd pl : Nat} {tape out b2 b3 : List UInt8} {vs : List VE} (us : List VT) (hs : Sel ws [PGF x tp vl rd ou lf rt, ROW X.1 tp tape capT, VLS X.1 z vl vs np nb capV, RDR rd ld gr e (nI cd) (nI pl), LEAx ld, LST X.1 z gr [] capG, PCK X.1 z ou p1 m1 out c1 k1, PCK X.1 z lf p2 m2 b2 c2 k2, PCK X.1 z rt p3 m3 b3 c3 k3] ws1)
    (h1 : AOk (tape, us, np, nb, out, cd, pl)) (h2 : vts vs = us) (h3 : ∀ e ∈ vs, e.2.2 = -1) (kk : J X nL (PGA X.1 z x (tape, us, np, nb, out, cd, pl) (5 * (capT + c1 + c2 + c3) + 64 * (capV + capG + k1 + k2 + k3)) (2 * (capT + c1 + c2 + c3) + 4 * (capV + capG + k1 + k2 + k3)) :: ws1) k n pc lv st) : J X nL ws k n pc lv st :=
  j_close hs (fun w hw => ⟨tp, vl, rd, ld, gr, e, ou, p1, m1, lf, p2, m2, rt, p3, m3, capT, capV, capG, c1, k1, c2, k2, c3, k3, b2, b3, vs, ⟨h1, h2, h3, rfl, rfl⟩, hw⟩) kk
/-- all capacities are bounded -/
theorem pgl_know {tp vl rd ld gr e ou p1 m1 lf p2 m2 rt p3 m3 capT capV capG c1 k1 c2 k2 c3 k3 np nb cd pl : Nat} {tape out b2 b3 : List UInt8} {vs : List VE} {L : List Asn} : ∀ w, sepL ([PGF x tp vl rd ou lf rt, ROW X.1 tp tape capT, VLS X.1 z vl vs np nb capV, RDR rd ld gr e (nI cd) (nI pl), LEAx ld, LST X.1 z gr [] capG, PCK X.1 z ou p1 m1 out c1 k1, PCK X.1 z lf p2 m2 b2 c2 k2, PCK X.1 z rt p3 m3 b3 c3 k3] ++ L) w → (capT ≤ 131072 ∧ capV ≤ 20000 ∧ capG ≤ 20000) ∧ (64 ≤ c1 ∧ c1 ≤ 131072 ∧ k1 ≤ 20000) ∧ (64 ≤ c2 ∧ c2 ≤ 131072 ∧ k2 ≤ 20000) ∧ (64 ≤ c3 ∧ c3 ≤ 131072 ∧ k3 ≤ 20000) := by
  rintro w ⟨-, -, -, -, w1, w2, -, a1, w3, w4, -, a2, -, -, -, -, -, -, -, -, w5, w6, -, a3, w7, w8, -, a4, w9, w10, -, a5, w11, w12, -, a6, -⟩
  exact ⟨⟨(row_know w1 a1).2, vls_know w3 a2, lst_know w5 a3⟩, pck_know w7 a4, pck_know w9 a5, pck_know w11 a6⟩
end
theorem vsok_of {S : AS} {vs : List VE} (h : AOk S) (h2 : vts vs = S.2.1) (h3 : ∀ e ∈ vs, e.2.2 = -1) : VSOK vs := by
  have hl : vs.length = S.2.1.length := by rw [← h2, vts, List.length_map]
  refine ⟨by rw [hl]; exact h.2.1, fun e he => ⟨?_, h3 e he⟩⟩
  have h4 : e.2.1 ∈ S.2.1 := by
    rw [← h2, vts]
    exact List.mem_map.mpr ⟨e, he, rfl⟩
  rw [hl]
  exact (h.2.2.2.2.2.2.2 _ h4).more (Nat.le_refl _) h.2.2.1
theorem vts_len (vs : List VE) : (vts vs).length = vs.length := List.length_map _
theorem vts_app (vs : List VE) (e : VE) : vts (vs ++ [e]) = vts vs ++ [e.2.1] := by rw [vts, List.map_append]; rfl
/-! the steps -/
def sKeep (kd : Nat) (nm : Int64) (dt : Int32) (cde : Nat) (S : AS) : Nat × Int32 × AS :=
  if S.2.1.length < 3000 then (0, nI S.2.1.length, (S.1, S.2.1 ++ [(kd, nm, dt, [], [])], S.2.2)) else (cde, 0, S)
def sFeed (a b c d e : Int32) (S : AS) : Nat × Int32 × AS :=
  if S.1.length + 20 ≤ 65536 then (0, nI (S.1.length + 20), (S.1 ++ (beB a.toInt64 4 ++ (beB b.toInt64 4 ++ (beB c.toInt64 4 ++ (beB d.toInt64 4 ++ beB e.toInt64 4)))), S.2)) else (1, 0, S)
def sEnd (n : Int32) (S : AS) : Nat × Int32 × AS :=
  if inB n (S.1.length + 1) = true then (0, 0, (S.1.take n.toNatClampNeg, S.2)) else (1, 0, S)
def sUnpack (S : AS) : Nat × Int32 × AS := match rdAll S.1 S.2.1.length S.2.2.1 S.2.2.2.1 with
  | .inl x => (0, -1, ([], S.2.1, S.2.2.1, S.2.2.2.1, S.2.2.2.2.1, x.1, x.2))
  | .inr x => (0, nI x.1, ([], S.2.1 ++ x.2.1, x.2.2.1, x.2.2.2, S.2.2.2.2.1, 0, 0))
def sFault (w : Int32) (S : AS) : Nat × Int32 × AS := if w = 0 then (0, nI S.2.2.2.2.2.1, S) else if w = 1 then (0, nI S.2.2.2.2.2.2, S) else (1, 0, S)
def sSkip (i : Int32) (S : AS) : Nat × Int32 × AS := if inB i S.1.length = true then (0, oI (skV S.1 (S.1.length - i.toNatClampNeg) i.toNatClampNeg 1), S) else (1, 0, S)
def sPack (v : Int32) (S : AS) : Nat × Int32 × AS := if inB v S.2.1.length = true then
    (match packU S.2.1 65536 v.toNatClampNeg with
    | some p => (0, nI p.length, (S.1, S.2.1, S.2.2.1, S.2.2.2.1, p, S.2.2.2.2.2))
    | none => (2, 0, (S.1, S.2.1, S.2.2.1, S.2.2.2.1, [], S.2.2.2.2.2)))
  else (1, 0, S)
def sShown (i : Int32) (S : AS) : Nat × Int32 × AS := if inB i S.2.2.2.2.1.length = true then (0, nI (S.2.2.2.2.1.getD i.toNatClampNeg 0).toNat, S) else (1, 0, S)
def sTime (sec : Int64) (na : Int32) (S : AS) : Nat × Int32 × AS := if na < 0 ∨ 999999999 < na then (1, 0, S) else sKeep 10 sec na 2 S
def sGroup (kd : Int32) (S : AS) : Nat × Int32 × AS := if kd = 7 then sKeep 7 0 0 2 S else if kd = 8 then sKeep 8 0 0 2 S else (1, 0, S)
def sTape (kd : Nat) (dt : Int32) (S : AS) : Nat × Int32 × AS :=
  if S.2.1.length < 3000 ∧ S.2.2.2.1 + S.1.length ≤ 65536 then (0, nI S.2.1.length, ([], S.2.1 ++ [(kd, 0, dt, S.1, [])], S.2.2.1, S.2.2.2.1 + S.1.length, S.2.2.2.2)) else (2, 0, S)
def sRow (kd : Int32) (S : AS) : Nat × Int32 × AS := if kd = 6 then sTape 6 0 S else if kd = 5 ∧ chBad S.1 S.1.length S.1.length 0 = none then sTape 5 0 S else (1, 0, S)
def sExt (ty : Int32) (S : AS) : Nat × Int32 × AS := if ty < -128 ∨ 127 < ty ∨ ty = -1 ∨ ty = 0 then (1, 0, S) else sTape 9 ty S
def sAdd (l v : Int32) (S : AS) : Nat × Int32 × AS :=
  if ¬ inB l S.2.1.length = true ∨ ¬ inB v S.2.1.length = true then (1, 0, S)
  else if ¬ (vAt S.2.1 l.toNatClampNeg).1 = 7 then (2, 0, S)
  else if 6000 < S.2.2.1 + 1 then (3, 0, S)
  else (0, nI ((vAt S.2.1 l.toNatClampNeg).2.2.2.2.length + 1), (S.1, S.2.1.set l.toNatClampNeg (vadd (vAt S.2.1 l.toNatClampNeg) v.toNatClampNeg), S.2.2.1 + 1, S.2.2.2))
def sPut (m c v : Int32) (S : AS) : Nat × Int32 × AS :=
  if ¬ inB m S.2.1.length = true ∨ ¬ inB c S.2.1.length = true ∨ ¬ inB v S.2.1.length = true then (1, 0, S)
  else if ¬ (vAt S.2.1 m.toNatClampNeg).1 = 8 then (2, 0, S)
  else if 6000 < S.2.2.1 + 2 then (3, 0, S)
  else (0, nI (((vAt S.2.1 m.toNatClampNeg).2.2.2.2.length + 2) / 2), (S.1, S.2.1.set m.toNatClampNeg (vadd (vadd (vAt S.2.1 m.toNatClampNeg) c.toNatClampNeg) v.toNatClampNeg), S.2.2.1 + 2, S.2.2.2))
def sAbout (v w : Int32) (S : AS) : Nat × Int32 × AS :=
  if ¬ inB v S.2.1.length = true then (1, 0, S)
  else if w = 0 then (0, nI (vAt S.2.1 v.toNatClampNeg).1, S)
  else if w = 1 then (0, nI (vlen (vAt S.2.1 v.toNatClampNeg)), S)
  else if w = 2 then (0, (if (vAt S.2.1 v.toNatClampNeg).1 = 2 then 0 else (vAt S.2.1 v.toNatClampNeg).2.2.1), S)
  else if w = 3 then (0, (if (vAt S.2.1 v.toNatClampNeg).1 = 7 ∨ (vAt S.2.1 v.toNatClampNeg).1 = 8 then 0 else match packU S.2.1 65536 v.toNatClampNeg with | some p => nI p.length | none => 0), S)
  else (2, 0, S)
def sNumber (v : Int32) (S : AS) : Nat × Int64 × AS :=
  if ¬ inB v S.2.1.length = true then (1, 0, S)
  else if ¬ ((vAt S.2.1 v.toNatClampNeg).1 = 2 ∨ (vAt S.2.1 v.toNatClampNeg).1 = 3 ∨ (vAt S.2.1 v.toNatClampNeg).1 = 4 ∨ (vAt S.2.1 v.toNatClampNeg).1 = 10) then (2, 0, S)
  else if (vAt S.2.1 v.toNatClampNeg).1 = 2 ∧ (vAt S.2.1 v.toNatClampNeg).2.2.1 = 1 then (3, 0, S)
  else (0, (vAt S.2.1 v.toNatClampNeg).2.1, S)
def sPart (v i : Int32) (S : AS) : Nat × Int32 × AS :=
  if ¬ inB v S.2.1.length = true then (1, 0, S)
  else if inB i (vAt S.2.1 v.toNatClampNeg).2.2.2.1.length = true then (0, nI ((vAt S.2.1 v.toNatClampNeg).2.2.2.1.getD i.toNatClampNeg 0).toNat, S)
  else if inB i (vAt S.2.1 v.toNatClampNeg).2.2.2.2.length = true then (0, nI ((vAt S.2.1 v.toNatClampNeg).2.2.2.2.getD i.toNatClampNeg 0), S)
  else (1, 0, S)
def sSame (a b : Int32) (S : AS) : Nat × Int32 × AS :=
  if ¬ inB a S.2.1.length = true ∨ ¬ inB b S.2.1.length = true then (1, 0, S)
  else match packU S.2.1 65536 a.toNatClampNeg with
    | none => (2, 0, S)
    | some p => match packU S.2.1 65536 b.toNatClampNeg with
      | none => (2, 0, S)
      | some q => (0, (if p = q then 1 else 0), S)
/-- the value of the first pair whose key is packed so -/
def findV (us : List VT) (p : List UInt8) : List Nat → Int32
  | c :: v :: ps => if packU us 65536 c = some p then nI v else findV us p ps
  | _ => -1
def sFind (m c : Int32) (S : AS) : Nat × Int32 × AS :=
  if ¬ inB m S.2.1.length = true ∨ ¬ inB c S.2.1.length = true then (1, 0, S)
  else if ¬ (vAt S.2.1 m.toNatClampNeg).1 = 8 then (2, 0, S)
  else match packU S.2.1 65536 c.toNatClampNeg with
    | none => (3, 0, S)
    | some p => (0, findV S.2.1 p (vAt S.2.1 m.toNatClampNeg).2.2.2.2, S)
def sCount (w : Int32) (S : AS) : Nat × Int32 × AS :=
  if w = 0 then (0, nI S.2.1.length, S) else if w = 1 then (0, nI S.2.2.1, S) else if w = 2 then (0, nI S.2.2.2.1, S) else if w = 3 then (0, nI S.1.length, S) else if w = 4 then (0, nI S.2.2.2.2.1.length, S) else (1, 0, S)
def sClear (S : AS) : Nat × Int32 × AS := (0, nI S.2.1.length, (S.1, [], 0, 0, S.2.2.2.2))

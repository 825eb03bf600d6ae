/-! the model: the tables of values -/
/-- where the bytes of a value begin -/
def bse : List VT → Nat → Nat
  | _, 0 => 0
  | [], _ + 1 => 0
  | v :: us, i + 1 => v.2.2.2.1.length + bse us i
theorem bse_0 : ∀ us : List VT, bse us 0 = 0
  | [] => rfl
  | _ :: _ => rfl
theorem bse_app (e : List VT) : ∀ (us : List VT) (i : Nat), i ≤ us.length → bse (us ++ e) i = bse us i
  | us, 0, _ => by rw [bse_0, bse_0]
  | [], i + 1, h => absurd h (Nat.not_succ_le_zero i)
  | v :: us, i + 1, h => by
    rw [List.cons_append, bse, bse, bse_app e us i (Nat.le_of_succ_le_succ h)]
theorem bse_snoc (v : VT) : ∀ us : List VT, bse (us ++ [v]) (us.length + 1) = bse us us.length + v.2.2.2.1.length
  | [] => by
    show v.2.2.2.1.length + bse [] 0 = 0 + v.2.2.2.1.length
    rw [bse_0, Nat.add_comm]
  | u :: us => by
    rw [List.cons_append, List.length_cons, bse, bse, bse_snoc v us, Nat.add_assoc]
theorem bse_set {v : VT} : ∀ (us : List VT) (k i : Nat), v.2.2.2.1 = (us.getD k (0, 0, 0, [], [])).2.2.2.1 → bse (us.set k v) i = bse us i
  | us, k, 0, _ => by rw [bse_0, bse_0]
  | [], k, i + 1, _ => rfl
  | u :: us, 0, i + 1, h => by
    have h1 : v.2.2.2.1 = u.2.2.2.1 := h
    rw [List.set_cons_zero, bse, bse, h1]
  | u :: us, k + 1, i + 1, h => by
    rw [List.set_cons_succ, bse, bse, bse_set us k i h]
/-- a value's row in the tables, but for its parts -/
def TBv (us : List VT) (R : LK) (zs : List Nat) (nb : Nat) (mk : Nat → Nat) (fk : Nat → Int32) (fn : Nat → Int64) (fh fe ff fl fz flk fnx fb fq : Nat → Int32) (i : Nat) (v : VT) : Prop :=
  (fk i = nI v.1 ∧ fn i = v.2.1 ∧ fh i = (if v.1 = 2 ∧ v.2.2.1 = 1 then 1 else 0) ∧ fe i = (if v.1 = 2 then 0 else v.2.2.1) ∧ fz i = nI (zs.getD i 0) ∧ fq i = nI (mk i)) ∧ ((v.1 = 7 ∨ v.1 = 8) → ff i = oI (lkF R i) ∧ fl i = oI (lkL R i)) ∧ (v.2.2.2.1 = [] ∨ ∃ o : Nat, ff i = nI o ∧ (o + v.2.2.2.1.length ≤ nb ∧ o = bse us i) ∧ ∀ j, j < v.2.2.2.1.length → fb (o + j) = by8 (v.2.2.2.1.getD j 0))
def TBR (us : List VT) (zs : List Nat) (R : LK) (nb : Nat) (mk : Nat → Nat) (fk : Nat → Int32) (fn : Nat → Int64) (fh fe ff fl fz flk fnx fb fq : Nat → Int32) : Prop :=
  (∀ i v, us[i]? = some v → TBv us R zs nb mk fk fn fh fe ff fl fz flk fnx fb fq i v) ∧ (∀ k, k < R.length → flk k = nI (lkV R k) ∧ fnx k = oI (lkN R k)) ∧ (Fit8 fb ∧ nb = bse us us.length) ∧ zs.length = us.length ∧ OWN R us.length ∧ us.length ≤ 3000 ∧ R.length ≤ 6000 ∧ nb ≤ 65536
/-- the tables: values, said sizes, links, bytes, marks -/
def TB (g : GT) (r : Nat → Nat) (us : List VT) (zs : List Nat) (R : LK) (nb : Nat) (mk : Nat → Nat) : Asn := fun w => ∃ (fk : Nat → Int32) (fn : Nat → Int64) (fh fe ff fl fz flk fnx fb fq : Nat → Int32), TBR us zs R nb mk fk fn fh fe ff fl fz flk fnx fb fq ∧ sepL [pt (r 6) (aI g 3000 fk), pt (r 7) (aJ g 3000 fn), pt (r 8) (aZ g 3000 fh), pt (r 9) (aI g 3000 fe), pt (r 10) (aI g 3000 ff), pt (r 11) (aI g 3000 fl), pt (r 12) (aI g 3000 fz), pt (r 14) (aI g 6000 flk), pt (r 15) (aI g 6000 fnx), pt (r 16) (aB g 65536 fb), pt (r 22) (aI g 3000 fq)] w
theorem tb_know {g : GT} {r : Nat → Nat} {us : List VT} {zs : List Nat} {R : LK} {nb : Nat} {mk : Nat → Nat} : ∀ w, TB g r us zs R nb mk w → zs.length = us.length ∧ OWN R us.length ∧ us.length ≤ 3000 ∧ R.length ≤ 6000 ∧ nb ≤ 65536 := by
  rintro w ⟨fk, fn, fh, fe, ff, fl, fz, flk, fnx, fb, fq, h, -⟩
  exact h.2.2.2
theorem tb_know2 {g : GT} {r : Nat → Nat} {us : List VT} {zs : List Nat} {R : LK} {nb : Nat} {mk : Nat → Nat} : ∀ w, TB g r us zs R nb mk w → nb = bse us us.length := by
  rintro w ⟨fk, fn, fh, fe, ff, fl, fz, flk, fnx, fb, fq, h, -⟩
  exact h.2.2.1.2
section
variable {X : XT} {own : String} {cc : ByteArray} {nL d mc ms k n pc : Nat} {lv : List (Option Value)} {st : List Value} {ws ws1 : List Asn} {r : Nat → Nat} {us : List VT} {zs : List Nat} {R : LK} {nb : Nat} {mk : Nat → Nat}
theorem tb_open (hp : Pick ws (TB X.1 r us zs R nb mk) ws1) (kk : ∀ (fk : Nat → Int32) (fn : Nat → Int64) (fh fe ff fl fz flk fnx fb fq : Nat → Int32), TBR us zs R nb mk fk fn fh fe ff fl fz flk fnx fb fq → J X nL ([pt (r 6) (aI X.1 3000 fk), pt (r 7) (aJ X.1 3000 fn), pt (r 8) (aZ X.1 3000 fh), pt (r 9) (aI X.1 3000 fe), pt (r 10) (aI X.1 3000 ff), pt (r 11) (aI X.1 3000 fl), pt (r 12) (aI X.1 3000 fz), pt (r 14) (aI X.1 6000 flk), pt (r 15) (aI X.1 6000 fnx), pt (r 16) (aB X.1 65536 fb), pt (r 22) (aI X.1 3000 fq)] ++ ws1) k n pc lv st) : J X nL ws k n pc lv st := by
  obtain ⟨⟨l, s0, D, ca⟩, p, e, R9, s, m, args, below, meth, c, Q⟩ := X
  intro H locs ls hS hw hl
  obtain ⟨w, h1, h2, h3⟩ := hw
  obtain ⟨w1, w2, g1, g2, g3⟩ := hp w h3
  obtain ⟨fk, fn, fh, fe, ff, fl, fz, flk, fnx, fb, fq, hf, hq⟩ := g2
  exact kk fk fn fh fe ff fl fz flk fnx fb fq hf H locs ls hS ⟨w, h1, h2, sepL_join ⟨w1, w2, g1, hq, g3⟩⟩ hl
theorem tb_close {fk : Nat → Int32} {fn : Nat → Int64} {fh fe ff fl fz flk fnx fb fq : Nat → Int32} (us : List VT) (zs : List Nat) (R : LK) (nb : Nat) (mk : Nat → Nat) (hs : Sel ws [pt (r 6) (aI X.1 3000 fk), pt (r 7) (aJ X.1 3000 fn), pt (r 8) (aZ X.1 3000 fh), pt (r 9) (aI X.1 3000 fe), pt (r 10) (aI X.1 3000 ff), pt (r 11) (aI X.1 3000 fl), pt (r 12) (aI X.1 3000 fz), pt (r 14) (aI X.1 6000 flk), pt (r 15) (aI X.1 6000 fnx), pt (r 16) (aB X.1 65536 fb), pt (r 22) (aI X.1 3000 fq)] ws1) (h : TBR us zs R nb mk fk fn fh fe ff fl fz flk fnx fb fq) (kk : J X nL (TB X.1 r us zs R nb mk :: ws1) k n pc lv st) : J X nL ws k n pc lv st :=
  j_close hs (fun w hw => ⟨fk, fn, fh, fe, ff, fl, fz, flk, fnx, fb, fq, h, hw⟩) kk
theorem TBR.at {us : List VT} {zs : List Nat} {R : LK} {nb : Nat} {mk : Nat → Nat} {fk : Nat → Int32} {fn : Nat → Int64} {fh fe ff fl fz flk fnx fb fq : Nat → Int32} (h : TBR us zs R nb mk fk fn fh fe ff fl fz flk fnx fb fq) {i : Nat} (hi : i < us.length) : TBv us R zs nb mk fk fn fh fe ff fl fz flk fnx fb fq i (vAt us i) := by
  refine h.1 i _ ?_
  rw [vAt, List.getD_eq_getElem?_getD, List.getElem?_eq_getElem hi]
  rfl
theorem j_tbK (E : JE X own cc nL d mc ms) {i : Nat} (pc' : Nat) (hd : decode cc pc = .ok (.iaload, 1)) (hp : Pick ws (TB X.1 r us zs R nb mk) ws1) (hi : i < us.length) (hpc : pc + 1 = pc') (kk : J X nL (TB X.1 r us zs R nb mk :: ws1) k n pc' lv (.int (nI (vAt us i).1) :: st)) : J X nL ws k n pc lv (.int (nI i) :: .ref (r 6) :: st) := by
  refine j_know (pick_know hp tb_know) (fun hk9 => ?_)
  refine tb_open hp ?_
  intro fk fn fh fe ff fl fz flk fnx fb fq h
  dsimp only [List.cons_append, List.nil_append]
  refine j_iald E pc' hd ((by repeat (first | with_reducible exact pick_0 | with_reducible apply pick_s))) (vp_in_nI (N := 3000) (by omega) (by omega)) hpc ?_
  rw [nI_clamp (by omega)]
  rw [show fk i = nI (vAt us i).1 from (h.at hi).1.1]
  exact tb_close us zs R nb mk ((by repeat (first | with_reducible exact pick_0 | with_reducible apply pick_s | exact sel_0 | apply sel_s))) h kk
theorem j_tbN (E : JE X own cc nL d mc ms) {i : Nat} (pc' : Nat) (hd : decode cc pc = .ok (.laload, 1)) (hp : Pick ws (TB X.1 r us zs R nb mk) ws1) (hi : i < us.length) (hpc : pc + 1 = pc') (kk : J X nL (TB X.1 r us zs R nb mk :: ws1) k n pc' lv (.long ((vAt us i).2.1) :: st)) : J X nL ws k n pc lv (.int (nI i) :: .ref (r 7) :: st) := by
  refine j_know (pick_know hp tb_know) (fun hk9 => ?_)
  refine tb_open hp ?_
  intro fk fn fh fe ff fl fz flk fnx fb fq h
  dsimp only [List.cons_append, List.nil_append]
  refine j_lald E pc' hd ((by repeat (first | with_reducible exact pick_0 | with_reducible apply pick_s))) (vp_in_nI (N := 3000) (by omega) (by omega)) hpc ?_
  rw [nI_clamp (by omega)]
  rw [show fn i = (vAt us i).2.1 from (h.at hi).1.2.1]
  exact tb_close us zs R nb mk ((by repeat (first | with_reducible exact pick_0 | with_reducible apply pick_s | exact sel_0 | apply sel_s))) h kk
theorem j_tbH (E : JE X own cc nL d mc ms) {i : Nat} (pc' : Nat) (hd : decode cc pc = .ok (.baload, 1)) (hp : Pick ws (TB X.1 r us zs R nb mk) ws1) (hi : i < us.length) (hpc : pc + 1 = pc') (kk : J X nL (TB X.1 r us zs R nb mk :: ws1) k n pc' lv (.int (if (vAt us i).1 = 2 ∧ (vAt us i).2.2.1 = 1 then 1 else 0) :: st)) : J X nL ws k n pc lv (.int (nI i) :: .ref (r 8) :: st) := by
  refine j_know (pick_know hp tb_know) (fun hk9 => ?_)
  refine tb_open hp ?_
  intro fk fn fh fe ff fl fz flk fnx fb fq h
  dsimp only [List.cons_append, List.nil_append]
  refine j_zald E pc' hd ((by repeat (first | with_reducible exact pick_0 | with_reducible apply pick_s))) (vp_in_nI (N := 3000) (by omega) (by omega)) hpc ?_
  rw [nI_clamp (by omega)]
  rw [show fh i = if (vAt us i).1 = 2 ∧ (vAt us i).2.2.1 = 1 then 1 else 0 from (h.at hi).1.2.2.1]
  exact tb_close us zs R nb mk ((by repeat (first | with_reducible exact pick_0 | with_reducible apply pick_s | exact sel_0 | apply sel_s))) h kk
theorem j_tbE (E : JE X own cc nL d mc ms) {i : Nat} (pc' : Nat) (hd : decode cc pc = .ok (.iaload, 1)) (hp : Pick ws (TB X.1 r us zs R nb mk) ws1) (hi : i < us.length) (hpc : pc + 1 = pc') (kk : J X nL (TB X.1 r us zs R nb mk :: ws1) k n pc' lv (.int (if (vAt us i).1 = 2 then 0 else (vAt us i).2.2.1) :: st)) : J X nL ws k n pc lv (.int (nI i) :: .ref (r 9) :: st) := by
  refine j_know (pick_know hp tb_know) (fun hk9 => ?_)
  refine tb_open hp ?_
  intro fk fn fh fe ff fl fz flk fnx fb fq h
  dsimp only [List.cons_append, List.nil_append]
  refine j_iald E pc' hd ((by repeat (first | with_reducible exact pick_0 | with_reducible apply pick_s))) (vp_in_nI (N := 3000) (by omega) (by omega)) hpc ?_
  rw [nI_clamp (by omega)]
  rw [show fe i = if (vAt us i).1 = 2 then 0 else (vAt us i).2.2.1 from (h.at hi).1.2.2.2.1]
  exact tb_close us zs R nb mk ((by repeat (first | with_reducible exact pick_0 | with_reducible apply pick_s | exact sel_0 | apply sel_s))) h kk
theorem j_tbZ (E : JE X own cc nL d mc ms) {i : Nat} (pc' : Nat) (hd : decode cc pc = .ok (.iaload, 1)) (hp : Pick ws (TB X.1 r us zs R nb mk) ws1) (hi : i < us.length) (hpc : pc + 1 = pc') (kk : J X nL (TB X.1 r us zs R nb mk :: ws1) k n pc' lv (.int (nI (zs.getD i 0)) :: st)) : J X nL ws k n pc lv (.int (nI i) :: .ref (r 12) :: st) := by
  refine j_know (pick_know hp tb_know) (fun hk9 => ?_)
  refine tb_open hp ?_
  intro fk fn fh fe ff fl fz flk fnx fb fq h
  dsimp only [List.cons_append, List.nil_append]
  refine j_iald E pc' hd ((by repeat (first | with_reducible exact pick_0 | with_reducible apply pick_s))) (vp_in_nI (N := 3000) (by omega) (by omega)) hpc ?_
  rw [nI_clamp (by omega)]
  rw [show fz i = nI (zs.getD i 0) from (h.at hi).1.2.2.2.2.1]
  exact tb_close us zs R nb mk ((by repeat (first | with_reducible exact pick_0 | with_reducible apply pick_s | exact sel_0 | apply sel_s))) h kk
theorem j_tbQ (E : JE X own cc nL d mc ms) {i : Nat} (pc' : Nat) (hd : decode cc pc = .ok (.iaload, 1)) (hp : Pick ws (TB X.1 r us zs R nb mk) ws1) (hi : i < us.length) (hpc : pc + 1 = pc') (kk : J X nL (TB X.1 r us zs R nb mk :: ws1) k n pc' lv (.int (nI (mk i)) :: st)) : J X nL ws k n pc lv (.int (nI i) :: .ref (r 22) :: st) := by
  refine j_know (pick_know hp tb_know) (fun hk9 => ?_)
  refine tb_open hp ?_
  intro fk fn fh fe ff fl fz flk fnx fb fq h
  dsimp only [List.cons_append, List.nil_append]
  refine j_iald E pc' hd ((by repeat (first | with_reducible exact pick_0 | with_reducible apply pick_s))) (vp_in_nI (N := 3000) (by omega) (by omega)) hpc ?_
  rw [nI_clamp (by omega)]
  rw [show fq i = nI (mk i) from (h.at hi).1.2.2.2.2.2]
  exact tb_close us zs R nb mk ((by repeat (first | with_reducible exact pick_0 | with_reducible apply pick_s | exact sel_0 | apply sel_s))) h kk
theorem j_tbF (E : JE X own cc nL d mc ms) {i : Nat} (pc' : Nat) (hd : decode cc pc = .ok (.iaload, 1)) (hp : Pick ws (TB X.1 r us zs R nb mk) ws1) (hi : i < us.length) (hg : (vAt us i).1 = 7 ∨ (vAt us i).1 = 8) (hpc : pc + 1 = pc') (kk : J X nL (TB X.1 r us zs R nb mk :: ws1) k n pc' lv (.int (oI (lkF R i)) :: st)) : J X nL ws k n pc lv (.int (nI i) :: .ref (r 10) :: st) := by
  refine j_know (pick_know hp tb_know) (fun hk9 => ?_)
  refine tb_open hp ?_
  intro fk fn fh fe ff fl fz flk fnx fb fq h
  dsimp only [List.cons_append, List.nil_append]
  refine j_iald E pc' hd ((by repeat (first | with_reducible exact pick_0 | with_reducible apply pick_s))) (vp_in_nI (N := 3000) (by omega) (by omega)) hpc ?_
  rw [nI_clamp (by omega)]
  rw [show ff i = oI (lkF R i) from ((h.at hi).2.1 hg).1]
  exact tb_close us zs R nb mk ((by repeat (first | with_reducible exact pick_0 | with_reducible apply pick_s | exact sel_0 | apply sel_s))) h kk
theorem j_tbLK (E : JE X own cc nL d mc ms) {i : Nat} (pc' : Nat) (hd : decode cc pc = .ok (.iaload, 1)) (hp : Pick ws (TB X.1 r us zs R nb mk) ws1) (hi : i < R.length) (hpc : pc + 1 = pc') (kk : J X nL (TB X.1 r us zs R nb mk :: ws1) k n pc' lv (.int (nI (lkV R i)) :: st)) : J X nL ws k n pc lv (.int (nI i) :: .ref (r 14) :: st) := by
  refine j_know (pick_know hp tb_know) (fun hk9 => ?_)
  refine tb_open hp ?_
  intro fk fn fh fe ff fl fz flk fnx fb fq h
  dsimp only [List.cons_append, List.nil_append]
  refine j_iald E pc' hd ((by repeat (first | with_reducible exact pick_0 | with_reducible apply pick_s))) (vp_in_nI (N := 6000) (by omega) (by omega)) hpc ?_
  rw [nI_clamp (by omega)]
  rw [show flk i = nI (lkV R i) from (h.2.1 i hi).1]
  exact tb_close us zs R nb mk ((by repeat (first | with_reducible exact pick_0 | with_reducible apply pick_s | exact sel_0 | apply sel_s))) h kk
theorem j_tbNX (E : JE X own cc nL d mc ms) {i : Nat} (pc' : Nat) (hd : decode cc pc = .ok (.iaload, 1)) (hp : Pick ws (TB X.1 r us zs R nb mk) ws1) (hi : i < R.length) (hpc : pc + 1 = pc') (kk : J X nL (TB X.1 r us zs R nb mk :: ws1) k n pc' lv (.int (oI (lkN R i)) :: st)) : J X nL ws k n pc lv (.int (nI i) :: .ref (r 15) :: st) := by
  refine j_know (pick_know hp tb_know) (fun hk9 => ?_)
  refine tb_open hp ?_
  intro fk fn fh fe ff fl fz flk fnx fb fq h
  dsimp only [List.cons_append, List.nil_append]
  refine j_iald E pc' hd ((by repeat (first | with_reducible exact pick_0 | with_reducible apply pick_s))) (vp_in_nI (N := 6000) (by omega) (by omega)) hpc ?_
  rw [nI_clamp (by omega)]
  rw [show fnx i = oI (lkN R i) from (h.2.1 i hi).2]
  exact tb_close us zs R nb mk ((by repeat (first | with_reducible exact pick_0 | with_reducible apply pick_s | exact sel_0 | apply sel_s))) h kk
/-- a mark -/
def mkS (mk : Nat → Nat) (i q : Nat) : Nat → Nat := fun j => if j = i then q else mk j
theorem mkS_s (mk : Nat → Nat) (i q : Nat) : mkS mk i q i = q := if_pos rfl
theorem mkS_n (mk : Nat → Nat) {i q j : Nat} (h : ¬ j = i) : mkS mk i q j = mk j := if_neg h
/-- written -/
theorem j_tbQs (E : JE X own cc nL d mc ms) {i q : Nat} (pc' : Nat) (hd : decode cc pc = .ok (.iastore, 1)) (hp : Pick ws (TB X.1 r us zs R nb mk) ws1) (hi : i < us.length) (hpc : pc + 1 = pc') (kk : J X nL (TB X.1 r us zs R nb (mkS mk i q) :: ws1) k n pc' lv st) : J X nL ws k n pc lv (.int (nI q) :: .int (nI i) :: .ref (r 22) :: st) := by
  refine j_know (pick_know hp tb_know) (fun hk9 => ?_)
  refine tb_open hp ?_
  intro fk fn fh fe ff fl fz flk fnx fb fq h
  dsimp only [List.cons_append, List.nil_append]
  refine j_iast E pc' hd (by repeat (first | with_reducible exact pick_0 | with_reducible apply pick_s)) (vp_in_nI (N := 3000) (by omega) (by omega)) hpc ?_
  rw [nI_clamp (by omega)]
  refine tb_close us zs R nb _ (by repeat (first | with_reducible exact pick_0 | with_reducible apply pick_s | exact sel_0 | apply sel_s)) ⟨fun j v hv => ?_, h.2⟩ kk
  obtain ⟨⟨a1, a2, a3, a4, a5, a6⟩, a7⟩ := h.1 j v hv
  refine ⟨⟨a1, a2, a3, a4, a5, ?_⟩, a7⟩
  by_cases e : j = i
  · subst e
    rw [pk_us, mkS_s]
  · rw [pk_un e, mkS_n mk e]
    exact a6
end
set_option maxHeartbeats 4000000 in
theorem c_m_bytes {g : GT} (hG : GLB g) (d m : Nat) (r : Nat → Nat) {th ts os vc lc bc pkg cm op fc fp at_ bgc got : Int32} {pr : Int64} (a i : Nat) (st : Option (List UInt8)) (us : List VT) (zs : List Nat) (R : LK) (nb : Nat) (mk : Nat → Nat) (hd : 1 ≤ d) (hi : i < us.length) (hz : zs.getD i 0 = (vAt us i).2.2.2.1.length) : CtrV g mX8_bytesTo 7 d 0 0 m [.ref a, .int (nI i)] [MF m r th ts os vc lc bc (pkP st) pkg cm (fuP st) op fc fp at_ bgc got pr, BF g a st, TB g r us zs R nb mk] (fun o dc ds ws' => o = none ∧ dc = 0 ∧ ds = 0 ∧ ws' = [MF m r th ts os vc lc bc (pkP (wr 65536 st (vAt us i).2.2.2.1)) pkg cm (fuP (wr 65536 st (vAt us i).2.2.2.1)) op fc fp at_ bgc got pr, BF g a (wr 65536 st (vAt us i).2.2.2.1), TB g r us zs R nb mk]) noX := by
  refine ⟨rcv_pt, ?_⟩
  refine ctr_intro hG (by decide +kernel) (Nat.le_of_ble_eq_true rfl) ?_
  rintro X F rfl E B hI T
  replace E : JE X RX8 cX8_bytesTo 4 d 0 0 := E
  show J X _ [MF m r th ts os vc lc bc (pkP st) pkg cm (fuP st) op fc fp at_ bgc got pr, BF X.1 a st, TB X.1 r us zs R nb mk, F] 0 0 0 [some (.ref m), some (.ref a), some (.int (nI i)), none] []
  refine j_know (pick_know (P := TB X.1 r us zs R nb mk) (by repeat (first | with_reducible exact pick_0 | with_reducible apply pick_s)) tb_know) (fun hk9 => ?_)
  refine j_know (pick_know (P := BF X.1 a st) (by repeat (first | with_reducible exact pick_0 | with_reducible apply pick_s)) bf_know) (fun hbl => ?_)
  refine j_iconst E (0) 1 dX8_bytesTo_0 (by decide) rfl ?_
  refine j_istore_n E 2 dX8_bytesTo_1 3 rfl (Nat.le_of_ble_eq_true rfl) rfl rfl ?_
  dsimp only [List.set]
  refine tb_open (by repeat (first | with_reducible exact pick_0 | with_reducible apply pick_s)) ?_
  intro fk fn fh fe ff fl fz flk fnx fb fq h
  dsimp only [List.cons_append, List.nil_append]
  have hv := h.at hi
  obtain ⟨bs, hbs⟩ : ∃ bs, bs = (vAt us i).2.2.2.1 := ⟨_, rfl⟩
  have hz9 : fz i = nI bs.length := by rw [hv.1.2.2.2.2.1, hz, hbs]
  have hbb := hv.2.2
  rw [← hbs] at hbb B
  have hbl2 : bs.length ≤ 65536 := by
    rcases hbb with e | ⟨o, -, ⟨e, -⟩, -⟩
    · rw [e]
      exact Nat.zero_le _
    · omega
  obtain ⟨Rz, hRz⟩ : ∃ Rz, Rz = wr 65536 st bs := ⟨_, rfl⟩
  rw [← hRz] at B
  have loop : ∀ (q j : Nat) (st : Option (List UInt8)), j + q = bs.length → (∀ p, st = some p → p.length ≤ 65536) → Rz = wr 65536 st (bs.drop j) → J X 4 ([pt (r 6) (aI X.1 3000 fk), pt (r 7) (aJ X.1 3000 fn), pt (r 8) (aZ X.1 3000 fh), pt (r 9) (aI X.1 3000 fe), pt (r 10) (aI X.1 3000 ff), pt (r 11) (aI X.1 3000 fl), pt (r 12) (aI X.1 3000 fz), pt (r 14) (aI X.1 6000 flk), pt (r 15) (aI X.1 6000 fnx), pt (r 16) (aB X.1 65536 fb), pt (r 22) (aI X.1 3000 fq)] ++ [MF m r th ts os vc lc bc (pkP st) pkg cm (fuP st) op fc fp at_ bgc got pr, BF X.1 a st, F]) 0 0 2 [some (.ref m), some (.ref a), some (.int (nI i)), some (.int (nI j))] [] := by
    intro q
    induction q with
    | zero =>
      intro j st hj hb9 hr
      dsimp only [List.cons_append, List.nil_append]
      rw [List.drop_of_length_le (by omega), wr_nil hb9] at hr
      rw [hr] at B
      refine j_iload_n E 3 dX8_bytesTo_2 3 rfl rfl rfl ?_
      refine j_aload_n E 4 dX8_bytesTo_3 0 rfl rfl rfl ?_
      refine j_getf E 7 dX8_bytesTo_4 fl_X8_38 (by repeat (first | with_reducible exact pick_0 | with_reducible apply pick_s)) (by rfl) rfl ?_
      refine j_iload_n E 8 dX8_bytesTo_7 2 rfl rfl rfl ?_
      refine j_iald E 9 dX8_bytesTo_8 (by repeat (first | with_reducible exact pick_0 | with_reducible apply pick_s)) (vp_in_nI (by omega) (by omega)) rfl ?_
      refine j_eqi (y := nI bs.length) (by rw [nI_clamp (by omega)]; exact hz9) ?_
      refine j_icmp_ge E 36 12 dX8_bytesTo_9 (by decide) rfl (fun h9 => ?_) (fun h9 => ?_)
      · refine tb_close us zs R nb mk (by repeat (first | with_reducible exact pick_0 | with_reducible apply pick_s | exact sel_0 | apply sel_s)) h ?_
        exact j_vret E B rfl 0 0 dX8_bytesTo_36 (by repeat (first | with_reducible exact pick_0 | with_reducible apply pick_s | exact sel_0 | apply sel_s)) ⟨rfl, rfl, rfl, rfl⟩ (by omega) (by omega) (by omega) (by omega)
      · exact absurd (nI_le (by omega) (by omega)) h9
    | succ q ih =>
      intro j st hj hb9 hr
      dsimp only [List.cons_append, List.nil_append]
      have hjl : j < bs.length := by omega
      rw [List.drop_eq_getElem_cons hjl] at hr
      obtain ⟨o, o1, o2, o3⟩ := hbb.resolve_left (fun e => by rw [e] at hjl; exact absurd hjl (Nat.not_lt_zero _))
      refine j_iload_n E 3 dX8_bytesTo_2 3 rfl rfl rfl ?_
      refine j_aload_n E 4 dX8_bytesTo_3 0 rfl rfl rfl ?_
      refine j_getf E 7 dX8_bytesTo_4 fl_X8_38 (by repeat (first | with_reducible exact pick_0 | with_reducible apply pick_s)) (by rfl) rfl ?_
      refine j_iload_n E 8 dX8_bytesTo_7 2 rfl rfl rfl ?_
      refine j_iald E 9 dX8_bytesTo_8 (by repeat (first | with_reducible exact pick_0 | with_reducible apply pick_s)) (vp_in_nI (by omega) (by omega)) rfl ?_
      refine j_eqi (y := nI bs.length) (by rw [nI_clamp (by omega)]; exact hz9) ?_
      refine j_icmp_ge E 36 12 dX8_bytesTo_9 (by decide) rfl (fun h9 => ?_) (fun h9 => ?_)
      · exact absurd h9 (nI_ge hjl (by omega))
      · refine j_aload_n E 13 dX8_bytesTo_12 0 rfl rfl rfl ?_
        refine j_aload_n E 14 dX8_bytesTo_13 1 rfl rfl rfl ?_
        refine j_aload_n E 15 dX8_bytesTo_14 0 rfl rfl rfl ?_
        refine j_getf E 18 dX8_bytesTo_15 fl_X8_47 (by repeat (first | with_reducible exact pick_0 | with_reducible apply pick_s)) (by rfl) rfl ?_
        refine j_aload_n E 19 dX8_bytesTo_18 0 rfl rfl rfl ?_
        refine j_getf E 22 dX8_bytesTo_19 fl_X8_32 (by repeat (first | with_reducible exact pick_0 | with_reducible apply pick_s)) (by rfl) rfl ?_
        refine j_iload_n E 23 dX8_bytesTo_22 2 rfl rfl rfl ?_
        refine j_iald E 24 dX8_bytesTo_23 (by repeat (first | with_reducible exact pick_0 | with_reducible apply pick_s)) (vp_in_nI (by omega) (by omega)) rfl ?_
        refine j_eqi (y := nI o) (by rw [nI_clamp (by omega)]; exact o1) ?_
        refine j_iload_n E 25 dX8_bytesTo_24 3 rfl rfl rfl ?_
        refine j_iadd E 26 dX8_bytesTo_25 rfl ?_
        refine j_eqi (nI_add o j) ?_
        refine j_bald E 27 dX8_bytesTo_26 (by repeat (first | with_reducible exact pick_0 | with_reducible apply pick_s)) (vp_in_nI (by omega) (by omega)) rfl ?_
        refine j_eqi (y := by8 (bs.getD j 0)) (by rw [nI_clamp (by omega)]; exact o3 j hjl) ?_
        refine j_callV E (c_m_byte hG (d-1) m r a (by8 (bs.getD j 0)) st) 30 dX8_bytesTo_27 _ _ _ iv_X8_209 rfl rfl rfl (by repeat (first | with_reducible exact pick_0 | with_reducible apply pick_s | exact sel_0 | apply sel_s)) (by omega) (by omega) (by omega) (Nat.le_of_ble_eq_true rfl) rfl ?_
        rintro _ _ _ _ ⟨rfl, rfl, rfl, rfl⟩
        dsimp only [List.cons_append, List.nil_append, Option.toList]
        refine j_iinc E _ 33 dX8_bytesTo_30 rfl rfl (Nat.le_of_ble_eq_true rfl) rfl rfl ?_
        dsimp only [List.set]
        refine j_goto E 2 dX8_bytesTo_33 (by decide) ?_
        rw [lo8_by8]
        refine j_know (pick_know (P := BF X.1 a (wr 65536 st [bs.getD j 0])) (by repeat (first | with_reducible exact pick_0 | with_reducible apply pick_s)) bf_know) (fun hb8 => ?_)
        have hw := ih (j + 1) (wr 65536 st [bs.getD j 0]) (by omega) hb8 (by rw [hr, wr_app, List.getD_eq_getElem?_getD, List.getElem?_eq_getElem hjl]; rfl)
        rw [← nI_1] at hw
        exact j_sel (by repeat (first | with_reducible exact pick_0 | with_reducible apply pick_s | exact sel_0 | apply sel_s)) hw
  exact j_sel (by repeat (first | with_reducible exact pick_0 | with_reducible apply pick_s | exact sel_0 | apply sel_s)) (loop bs.length 0 st (Nat.zero_add _) hbl hRz)

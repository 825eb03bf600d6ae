/-! the model: the whole object -/
theorem bf_ba {g : GT} {a : Nat} {p : List UInt8} : ∀ w, sepL [BF g a (some p)] w → BA g a p w := by
  rintro w ⟨w1, w2, hp, ⟨f, ⟨h1, h2⟩, h⟩, h3⟩
  have h4 : w2 = [] := h3
  subst h4
  rw [List.append_nil] at hp
  exact ⟨f, ⟨h1, h2.1, h2.2⟩, sepL_perm hp h⟩
theorem bf_ba0 {g : GT} {a : Nat} {st : Option (List UInt8)} : ∀ w, sepL [BF g a st] w → BA g a [] w := by
  rintro w ⟨w1, w2, hp, ⟨f, ⟨h1, h2⟩, h⟩, h3⟩
  have h4 : w2 = [] := h3
  subst h4
  rw [List.append_nil] at hp
  exact ⟨f, ⟨h1, fun j hj => absurd hj (Nat.not_lt_zero _), Nat.zero_le _⟩, sepL_perm hp h⟩
theorem ba_bf {g : GT} {a : Nat} {p : List UInt8} : ∀ w, sepL [BA g a p] w → BF g a (some []) w := by
  rintro w ⟨w1, w2, hp, ⟨f, ⟨h1, h2⟩, h⟩, h3⟩
  have h4 : w2 = [] := h3
  subst h4
  rw [List.append_nil] at hp
  exact ⟨f, ⟨h1, fun j hj => absurd hj (Nat.not_lt_zero _), Nat.zero_le _⟩, sepL_perm hp h⟩
theorem ba_0 {g : GT} {a : Nat} {p : List UInt8} : ∀ w, sepL [BA g a p] w → BA g a [] w := by
  rintro w ⟨w1, w2, hp, ⟨f, ⟨h1, h2⟩, h⟩, h3⟩
  have h4 : w2 = [] := h3
  subst h4
  rw [List.append_nil] at hp
  exact ⟨f, ⟨h1, fun j hj => absurd hj (Nat.not_lt_zero _), Nat.zero_le _⟩, sepL_perm hp h⟩
/-- sizes said and links are those of the values -/
def GD (us : List VT) (zs : List Nat) (R : LK) : Prop := ∀ i, i < us.length → zs.getD i 0 = vlen (vAt us i) ∧ ((vAt us i).1 = 7 ∨ (vAt us i).1 = 8 → lkP R i = (vAt us i).2.2.2.2)
theorem good_of {S : AS} {zs : List Nat} {R : LK} (h : GD S.2.1 zs R) (hok : AOk S) : GOOD S.2.1 zs R := fun i hi => ⟨(h i hi).1, (aok_at hok hi).more (Nat.le_refl _) hok.2.2.1, (h i hi).2⟩
def MGf (S : AS) (pm : Nat) (pg : Nat) (zs : List Nat) (R : LK) (mk : Nat → Nat) : Prop := GD S.2.1 zs R ∧ R.length = S.2.2.1 ∧ (∀ j, mk j ≤ pg) ∧ pg ≤ pm
def MGL (g : GT) (m : Nat) (th : Int32) (S : AS) (r : Nat → Nat) (pkd cm fu op at_ bgc got : Int32) (pr : Int64) (pg : Nat) (zs : List Nat) (R : LK) (mk : Nat → Nat) (gs : List Nat) : List Asn :=
  [MF m r th (nI S.1.length) (nI S.2.2.2.2.1.length) (nI S.2.1.length) (nI R.length) (nI S.2.2.2.1) pkd (nI pg) cm fu op (nI S.2.2.2.2.2.1) (nI S.2.2.2.2.2.2) at_ bgc got pr, BA g (r 1) S.1, BA g (r 3) S.2.2.2.2.1, BA g (r 18) [], BA g (r 19) [], TB g r S.2.1 zs R S.2.2.2.1 mk, GS g r gs, OD g r [], PL g r []]
/-- the model m in the state S; so often at most it has packed -/
def MGA (g : GT) (m : Nat) (th : Int32) (S : AS) (pm : Nat) : Asn := fun w => ∃ (r : Nat → Nat) (pkd cm fu op at_ bgc got : Int32) (pr : Int64) (pg : Nat) (zs : List Nat) (R : LK) (mk : Nat → Nat) (gs : List Nat), MGf S pm pg zs R mk ∧ sepL (MGL g m th S r pkd cm fu op at_ bgc got pr pg zs R mk gs) w
theorem mga_has {g : GT} {m pm : Nat} {th : Int32} {S : AS} : Has (MGA g m th S pm) m 7 := fun w h => by
  obtain ⟨r, pkd, cm, fu, op, at_, bgc, got, pr, pg, zs, R, mk, gs, -, w1, w2, hp, h1, -⟩ := h
  have h2 : ∃ fs, w1 = [(m, .inr (7, fs))] := ⟨_, h1⟩
  obtain ⟨fs, h2⟩ := h2
  exact ⟨fs, hp.symm.subset (List.mem_append_left _ (by rw [h2]; exact List.mem_singleton.mpr rfl))⟩
theorem mga_rcv {g : GT} {m pm : Nat} {th : Int32} {S : AS} {L : List Asn} : Rcv (MGA g m th S pm :: L) m 7 := rcv_0 mga_has
section
variable {X : XT} {nL : Nat} {ws ws1 : List Asn} {k n pc : Nat} {lv : List (Option Value)} {st : List Value} {m pm : Nat} {th : Int32} {S : AS}
theorem mga_open (hp : Pick ws (MGA X.1 m th S pm) ws1) (kk : ∀ (r : Nat → Nat) (pkd cm fu op at_ bgc got : Int32) (pr : Int64) (pg : Nat) (zs : List Nat) (R : LK) (mk : Nat → Nat) (gs : List Nat), MGf S pm pg zs R mk → J X nL (MGL X.1 m th S r pkd cm fu op at_ bgc got pr pg zs R mk gs ++ ws1) k n pc lv st) : J X nL ws k n pc lv st := by
  obtain ⟨⟨l, s0, D, ca⟩, p, e, R9, s, m9, args, below, meth, c, Q⟩ := X
  intro H locs ls hS hw hl
  obtain ⟨w, h1, h2, h3⟩ := hw
  obtain ⟨w1, w2, g1, g2, g3⟩ := hp w h3
  obtain ⟨r, pkd, cm, fu, op, at_, bgc, got, pr, pg, zs, R, mk, gs, hf, hq⟩ := g2
  exact kk r pkd cm fu op at_ bgc got pr pg zs R mk gs hf H locs ls hS ⟨w, h1, h2, sepL_join ⟨w1, w2, g1, hq, g3⟩⟩ hl
theorem mga_close {ts os vc lc bc pkd pkg cm fu op fc fp at_ bgc got : Int32} {pr : Int64} {zs : List Nat} {R : LK} {mk : Nat → Nat} {gs : List Nat} {tape out : List UInt8} {us : List VT} {nb : Nat} (r : Nat → Nat) (cde np cd pl pg pm : Nat) (hs : Sel ws [MF m r th ts os vc lc bc pkd pkg cm fu op fc fp at_ bgc got pr, BA X.1 (r 1) tape, BA X.1 (r 3) out, BA X.1 (r 18) [], BA X.1 (r 19) [], TB X.1 r us zs R nb mk, GS X.1 r gs, OD X.1 r [], PL X.1 r []] ws1)
    (he : th = nI cde ∧ ts = nI tape.length ∧ os = nI out.length ∧ vc = nI us.length ∧ lc = nI R.length ∧ bc = nI nb ∧ pkg = nI pg ∧ fc = nI cd ∧ fp = nI pl) (hf : MGf (tape, us, np, nb, out, cd, pl) pm pg zs R mk) (kk : J X nL (MGA X.1 m (nI cde) (tape, us, np, nb, out, cd, pl) pm :: ws1) k n pc lv st) : J X nL ws k n pc lv st := by
  obtain ⟨rfl, rfl, rfl, rfl, rfl, rfl, rfl, rfl, rfl⟩ := he
  exact j_close hs (fun w hw => ⟨r, pkd, cm, fu, op, at_, bgc, got, pr, pg, zs, R, mk, gs, hf, hw⟩) kk
end
def mgo (g : GT) (m pm : Nat) (T : Nat × Int32 × AS) : PoT := fun o dc ds ws' => o = some (.int T.2.1) ∧ dc = 0 ∧ ds = 0 ∧ ws' = [MGA g m (nI T.1) T.2.2 (pm + 3001)]
set_option maxHeartbeats 8000000 in
theorem c_mg_unpack {g : GT} (hG : GLB g) (d m : Nat) (th : Int32) (tape : List UInt8) (us : List VT) (np nb : Nat) (out : List UInt8) (cd pl pm : Nat) (hd : 8 ≤ d) : CtrV g mX8_unpack 7 d 0 0 m [] [MGA g m th (tape, us, np, nb, out, cd, pl) pm] (mgo g m pm (sUnpack (tape, us, np, nb, out, cd, pl))) noX := by
  refine ⟨mga_rcv, ?_⟩
  refine ctr_intro hG (by decide +kernel) (Nat.le_of_ble_eq_true rfl) ?_
  rintro X F rfl E B hI T
  replace E : JE X RX8 cX8_unpack 5 d 0 0 := E
  show J X _ [MGA X.1 m th (tape, us, np, nb, out, cd, pl) pm, F] 0 0 0 [some (.ref m), none, none, none, none] []
  refine mga_open (by repeat (first | with_reducible exact pick_0 | with_reducible apply pick_s)) ?_
  intro r pkd cm fu op at_ bgc got pr pg zs R mk gs hS
  dsimp only [MGL, List.cons_append, List.nil_append]
  obtain ⟨hgd, hRl, hmk, hpg⟩ := hS
  dsimp only at hgd hRl
  refine j_aload_n E 1 dX8_unpack_0 0 rfl rfl rfl ?_
  refine j_iconst E (0) 2 dX8_unpack_1 (by decide) rfl ?_
  refine j_putf E 5 dX8_unpack_2 fl_X8_71 (by repeat (first | with_reducible exact pick_0 | with_reducible apply pick_s)) rfl rfl (Nat.le_of_ble_eq_true rfl) rfl ?_
  dsimp only [List.set]
  refine j_aload_n E 6 dX8_unpack_5 0 rfl rfl rfl ?_
  refine j_getf E 9 dX8_unpack_6 fl_X8_107 (by repeat (first | with_reducible exact pick_0 | with_reducible apply pick_s)) (by rfl) rfl ?_
  refine j_istore_n E 10 dX8_unpack_9 1 rfl (Nat.le_of_ble_eq_true rfl) rfl rfl ?_
  dsimp only [List.set]
  refine j_aload_n E 11 dX8_unpack_10 0 rfl rfl rfl ?_
  refine j_getf E 14 dX8_unpack_11 fl_X8_117 (by repeat (first | with_reducible exact pick_0 | with_reducible apply pick_s)) (by rfl) rfl ?_
  refine j_istore_n E 15 dX8_unpack_14 2 rfl (Nat.le_of_ble_eq_true rfl) rfl rfl ?_
  dsimp only [List.set]
  refine j_aload_n E 16 dX8_unpack_15 0 rfl rfl rfl ?_
  refine j_getf E 19 dX8_unpack_16 fl_X8_114 (by repeat (first | with_reducible exact pick_0 | with_reducible apply pick_s)) (by rfl) rfl ?_
  refine j_istore_n E 20 dX8_unpack_19 3 rfl (Nat.le_of_ble_eq_true rfl) rfl rfl ?_
  dsimp only [List.set]
  refine j_aload_n E 21 dX8_unpack_20 0 rfl rfl rfl ?_
  refine j_iconst E (0) 22 dX8_unpack_21 (by decide) rfl ?_
  refine j_putf E 25 dX8_unpack_22 fl_X8_138 (by repeat (first | with_reducible exact pick_0 | with_reducible apply pick_s)) rfl rfl (Nat.le_of_ble_eq_true rfl) rfl ?_
  dsimp only [List.set]
  refine j_aload_n E 26 dX8_unpack_25 0 rfl rfl rfl ?_
  refine j_iconst E (0) 27 dX8_unpack_26 (by decide) rfl ?_
  refine j_putf E 30 dX8_unpack_27 fl_X8_141 (by repeat (first | with_reducible exact pick_0 | with_reducible apply pick_s)) rfl rfl (Nat.le_of_ble_eq_true rfl) rfl ?_
  dsimp only [List.set]
  refine j_know (pick_know (P := TB X.1 r us zs R nb mk) (by repeat (first | with_reducible exact pick_0 | with_reducible apply pick_s)) tb_know) (fun hk9 => ?_)
  refine j_know (pick_know (P := TB X.1 r us zs R nb mk) (by repeat (first | with_reducible exact pick_0 | with_reducible apply pick_s)) tb_know2) (fun hk8 => ?_)
  refine j_aload_n E 31 dX8_unpack_30 0 rfl rfl rfl ?_
  refine j_callV E (c_m_readAll hG (d-1) m r 0 0 got tape us zs R nb pg mk gs [] (by omega) hmk) 34 dX8_unpack_31 _ _ _ iv_X8_199 rfl rfl rfl (by repeat (first | with_reducible exact pick_0 | with_reducible apply pick_s | exact sel_0 | apply sel_s)) (by omega) (by omega) (by omega) (Nat.le_of_ble_eq_true rfl) rfl ?_
  rintro o dc ds ws' ⟨rfl, rfl, hq⟩
  unfold mgo sUnpack at B
  dsimp only at B
  rw [← hRl] at B
  rcases hr : rdAll tape us.length R.length nb with x | x
  · rw [hr] at hq B
    dsimp only at hq B
    obtain ⟨rfl, vc1, lc1, bc1, op1, at1, bgc1, got1, pr1, e, ze, f, nb1, mk1, gs1, s1, hf, hmk1, rfl⟩ := hq
    dsimp only [List.cons_append, List.nil_append, Option.toList]
    refine j_tbback (us := us) (zs := zs) (nb := nb) (R := R) (by repeat (first | with_reducible exact pick_0 | with_reducible apply pick_s)) hk9.1 hk9.2.1 hf hk8 hk9.2.2.2.2 ?_
    refine j_close (by repeat (first | with_reducible exact pick_0 | with_reducible apply pick_s | exact sel_0 | apply sel_s)) (P := PL X.1 r []) (qs := [PL X.1 r s1]) pl_weak ?_
    refine j_close (by repeat (first | with_reducible exact pick_0 | with_reducible apply pick_s | exact sel_0 | apply sel_s)) (P := BA X.1 (r 1) []) (qs := [BA X.1 (r 1) tape]) ba_0 ?_
    refine j_istore E 36 dX8_unpack_34 (Nat.le_of_ble_eq_true rfl) rfl rfl ?_
    dsimp only [List.set]
    refine j_aload_n E 37 dX8_unpack_36 0 rfl rfl rfl ?_
    refine j_iconst E (0) 38 dX8_unpack_37 (by decide) rfl ?_
    refine j_putf E 41 dX8_unpack_38 fl_X8_88 (by repeat (first | with_reducible exact pick_0 | with_reducible apply pick_s)) rfl rfl (Nat.le_of_ble_eq_true rfl) rfl ?_
    dsimp only [List.set]
    refine j_iload E 43 dX8_unpack_41 rfl rfl ?_
    refine j_if_ne E 63 46 dX8_unpack_43 (by decide) rfl (fun h43 => ?_) (fun h43 => ?_)
    · exact absurd rfl h43
    · refine j_aload_n E 47 dX8_unpack_46 0 rfl rfl rfl ?_
      refine j_iload_n E 48 dX8_unpack_47 1 rfl rfl rfl ?_
      refine j_putf E 51 dX8_unpack_48 fl_X8_107 (by repeat (first | with_reducible exact pick_0 | with_reducible apply pick_s)) rfl rfl (Nat.le_of_ble_eq_true rfl) rfl ?_
      dsimp only [List.set]
      refine j_aload_n E 52 dX8_unpack_51 0 rfl rfl rfl ?_
      refine j_iload_n E 53 dX8_unpack_52 2 rfl rfl rfl ?_
      refine j_putf E 56 dX8_unpack_53 fl_X8_117 (by repeat (first | with_reducible exact pick_0 | with_reducible apply pick_s)) rfl rfl (Nat.le_of_ble_eq_true rfl) rfl ?_
      dsimp only [List.set]
      refine j_aload_n E 57 dX8_unpack_56 0 rfl rfl rfl ?_
      refine j_iload_n E 58 dX8_unpack_57 3 rfl rfl rfl ?_
      refine j_putf E 61 dX8_unpack_58 fl_X8_114 (by repeat (first | with_reducible exact pick_0 | with_reducible apply pick_s)) rfl rfl (Nat.le_of_ble_eq_true rfl) rfl ?_
      dsimp only [List.set]
      refine mga_close r 0 R.length x.1 x.2 pg (pm + 3001) (by repeat (first | with_reducible exact pick_0 | with_reducible apply pick_s | exact sel_0 | apply sel_s)) ?_ ⟨hgd, rfl, hmk1, by omega⟩ ?_
      · exact ⟨rfl, rfl, rfl, rfl, rfl, rfl, rfl, rfl, rfl⟩
      refine j_iconst E (-1) 62 dX8_unpack_61 (by decide) rfl ?_
      exact j_iret E B rfl 0 0 dX8_unpack_62 (by repeat (first | with_reducible exact pick_0 | with_reducible apply pick_s | exact sel_0 | apply sel_s)) ⟨rfl, rfl, rfl, rfl⟩ (by omega) (by omega) (by omega) (by omega)
  · obtain ⟨v, new, np1, nb1⟩ := x
    rw [hr] at hq B
    dsimp only at hq B
    obtain ⟨rfl, op1, at1, bgc1, got1, pr1, f, mk1, gs1, s1, hf, hmk1, hj, hfl, rfl, rfl⟩ := hq
    dsimp only [List.cons_append, List.nil_append, Option.toList]
    refine j_tbsame (us ++ new) (by repeat (first | with_reducible exact pick_0 | with_reducible apply pick_s)) (by
      rw [List.map_append, List.map_append, List.map_map]
      congr 1) ?_
    refine j_close (by repeat (first | with_reducible exact pick_0 | with_reducible apply pick_s | exact sel_0 | apply sel_s)) (P := PL X.1 r []) (qs := [PL X.1 r s1]) pl_weak ?_
    refine j_close (by repeat (first | with_reducible exact pick_0 | with_reducible apply pick_s | exact sel_0 | apply sel_s)) (P := BA X.1 (r 1) []) (qs := [BA X.1 (r 1) tape]) ba_0 ?_
    refine j_istore E 36 dX8_unpack_34 (Nat.le_of_ble_eq_true rfl) rfl rfl ?_
    dsimp only [List.set]
    refine j_aload_n E 37 dX8_unpack_36 0 rfl rfl rfl ?_
    refine j_iconst E (0) 38 dX8_unpack_37 (by decide) rfl ?_
    refine j_putf E 41 dX8_unpack_38 fl_X8_88 (by repeat (first | with_reducible exact pick_0 | with_reducible apply pick_s)) rfl rfl (Nat.le_of_ble_eq_true rfl) rfl ?_
    dsimp only [List.set]
    refine j_iload E 43 dX8_unpack_41 rfl rfl ?_
    refine j_if_ne E 63 46 dX8_unpack_43 (by decide) rfl (fun h43 => ?_) (fun h43 => ?_)
    · refine mga_close r 0 np1 0 0 pg (pm + 3001) (by repeat (first | with_reducible exact pick_0 | with_reducible apply pick_s | exact sel_0 | apply sel_s)) ?_ ⟨fun i hi => ?_, hfl, hmk1, by omega⟩ ?_
      · exact ⟨rfl, rfl, rfl, by rw [List.length_append], by rw [hfl], rfl, rfl, rfl, rfl⟩
      · dsimp only at hi ⊢
        rw [List.length_append] at hi
        rcases Nat.lt_or_ge i us.length with q | q
        · rw [vat_old _ q, zat_old _ (by omega), ((lk_old hk9.2.1 hf).2 i q).2.2]
          exact hgd i q
        · obtain ⟨j, rfl⟩ : ∃ j, i = us.length + j := ⟨i - us.length, by omega⟩
          have hjn : j < new.length := by omega
          have e1 : vAt (us ++ new) (us.length + j) = vAt new j := by
            rw [vAt, vAt, List.getD_eq_getElem?_getD, List.getD_eq_getElem?_getD, List.getElem?_append_right (Nat.le_add_right _ _), Nat.add_sub_cancel_left]
          have e2 : (zs ++ new.map vlen).getD (us.length + j) 0 = vlen (vAt new j) := by
            rw [← hk9.1, List.getD_eq_getElem?_getD, List.getElem?_append_right (Nat.le_add_right _ _), Nat.add_sub_cancel_left, List.getElem?_map, vAt, List.getD_eq_getElem?_getD, List.getElem?_eq_getElem hjn]
            rfl
          rw [e1, e2, lkP_app, lkP_big hk9.2.1 (Nat.le_add_right _ _), List.nil_append, hj j hjn]
          exact ⟨rfl, fun _ => rfl⟩
      · refine j_iload_n E 64 dX8_unpack_63 1 rfl rfl rfl ?_
        exact j_iret E B rfl 0 0 dX8_unpack_64 (by repeat (first | with_reducible exact pick_0 | with_reducible apply pick_s | exact sel_0 | apply sel_s)) ⟨rfl, rfl, rfl, rfl⟩ (by omega) (by omega) (by omega) (by omega)
    · exact absurd h43 (by decide)

/-! Reader: the whole tape -/
/-- fault and place, or the value, the new values, the counts -/
abbrev TO : Type := Sum (Nat × Nat) (Nat × List VT × Nat × Nat)
def rdAll (bs : List UInt8) (n np nb : Nat) : TO :=
  match rdV bs 24 0 n np nb [] with
  | .inl x => .inl x
  | .inr (v, e, new, np2, nb2, _) => if e < bs.length then .inl (8, e) else .inr (v, new, np2, nb2)
def tapeQ (g : GT) (z : Nat → Nat) (rd ld gr tp vl : Nat) (bs : List UInt8) (cap2 : Nat) (vs : List VE) (np nb capV capG : Nat) (R : TO) (o : Option Value) (dc ds : Nat) (ws' : List Asn) : Prop :=
  match R with
  | .inl x => ∃ (e cV cG : Nat), o = some (.int (-1)) ∧ ws' = [RDR rd ld gr e (nI x.1) (nI x.2), LEAx ld, ROW g tp bs cap2, LST g z gr [] cG, VLS g z vl vs np nb cV] ∧ 20 * dc + 4 * (capV + capG) ≤ 4 * (cV + cG) + 50 * bs.length ∧ ds + 4 * (capV + capG) ≤ 4 * (cV + cG) + 21 * bs.length
  | .inr x => ∃ (ads : List Nat) (e cV cG : Nat), ads.length = x.2.1.length ∧ o = some (.int (nI x.1)) ∧ ws' = [RDR rd ld gr e (nI 0) (nI 0), LEAx ld, ROW g tp bs cap2, LST g z gr [] cG, VLS g z vl (vs ++ ents ads x.2.1) x.2.2.1 x.2.2.2 cV] ∧ 20 * dc + 4 * (capV + capG) ≤ 4 * (cV + cG) + 50 * bs.length ∧ ds + 4 * (capV + capG) ≤ 4 * (cV + cG) + 21 * bs.length
theorem tapeQ_inl {g : GT} {z : Nat → Nat} {rd ld gr tp vl capV capG cap2 np nb c p e cV cG dc ds : Nat} {bs : List UInt8} {vs : List VE} (h1 : 20 * dc + 4 * (capV + capG) ≤ 4 * (cV + cG) + 50 * bs.length) (h2 : ds + 4 * (capV + capG) ≤ 4 * (cV + cG) + 21 * bs.length) : tapeQ g z rd ld gr tp vl bs cap2 vs np nb capV capG (.inl (c, p)) (some (.int (-1))) dc ds [RDR rd ld gr e (nI c) (nI p), LEAx ld, ROW g tp bs cap2, LST g z gr [] cG, VLS g z vl vs np nb cV] := ⟨e, cV, cG, rfl, rfl, h1, h2⟩
theorem tapeQ_inr {g : GT} {z : Nat → Nat} {rd ld gr tp vl capV capG cap2 np nb np2 nb2 v e cV cG dc ds : Nat} {ads : List Nat} {new : List VT} {bs : List UInt8} {vs : List VE} (h0 : ads.length = new.length) (h1 : 20 * dc + 4 * (capV + capG) ≤ 4 * (cV + cG) + 50 * bs.length) (h2 : ds + 4 * (capV + capG) ≤ 4 * (cV + cG) + 21 * bs.length) : tapeQ g z rd ld gr tp vl bs cap2 vs np nb capV capG (.inr (v, new, np2, nb2)) (some (.int (nI v))) dc ds [RDR rd ld gr e (nI 0) (nI 0), LEAx ld, ROW g tp bs cap2, LST g z gr [] cG, VLS g z vl (vs ++ ents ads new) np2 nb2 cV] := ⟨ads, e, cV, cG, h0, rfl, rfl, h1, h2⟩
set_option maxHeartbeats 8000000 in
theorem c_rd_tape {g : GT} {z : Nat → Nat} (hA : GA g z) (d M N rd ld gr tp vl i0 np nb capV capG cap2 : Nat) (cd pl : Int32) (bs : List UInt8) (vs : List VE) (hd : 64 ≤ d) (hv : vs.length ≤ 3000) (hnp : np ≤ 6000) (hnb : nb ≤ 65536) (hb : bs.length ≤ 100000) (hM : 160200 + 50 * bs.length ≤ 20 * M + 4 * (capV + capG)) (hN : 200000 + 21 * bs.length ≤ N + 4 * (capV + capG)) : CtrV g mX4_readTape 3 d M N rd [.ref tp, .ref vl] [RDR rd ld gr i0 cd pl, LEAx ld, ROW g tp bs cap2, LST g z gr [] capG, VLS g z vl vs np nb capV] (fun o dc ds ws' => tapeQ g z rd ld gr tp vl bs cap2 vs np nb capV capG (rdAll bs vs.length np nb) o dc ds ws' ∧ dc ≤ M ∧ ds ≤ N) noX := by
  refine ⟨rcv_pt, ?_⟩
  have hG := hA.1
  refine ctr_intro hG (by decide +kernel) (Nat.le_of_ble_eq_true rfl) ?_
  rintro X F rfl E B hI T
  replace E : JE X RX4 cX4_readTape 7 d M N := E
  show J X _ [RDR rd ld gr i0 cd pl, LEAx ld, ROW X.1 tp bs cap2, LST X.1 z gr [] capG, VLS X.1 z vl vs np nb capV, F] 0 0 0 [some (.ref rd), some (.ref tp), some (.ref vl), none, none, none, none] []
  refine j_aload_n E 1 dX4_readTape_0 2 rfl rfl rfl ?_
  refine j_callV E (c_vls_size (z := z) hG (d-1) vl np nb capV (by omega) vs) 4 dX4_readTape_1 _ _ _ iv_X4_25 rfl rfl rfl (by repeat (first | with_reducible exact pick_0 | with_reducible apply pick_s | exact sel_0 | apply sel_s)) (by omega) (by omega) (by omega) (Nat.le_of_ble_eq_true rfl) rfl ?_
  rintro _ _ _ _ ⟨rfl, rfl, rfl, rfl⟩
  dsimp only [List.cons_append, List.nil_append, Option.toList]
  refine j_istore_n E 5 dX4_readTape_4 3 rfl (Nat.le_of_ble_eq_true rfl) rfl rfl ?_
  dsimp only [List.set]
  refine j_open (P := VLS X.1 z vl vs np nb capV) (by repeat (first | with_reducible exact pick_0 | with_reducible apply pick_s)) vls_open ?_
  rintro al -
  dsimp only [VLSo, List.cons_append, List.nil_append]
  refine j_aload_n E 6 dX4_readTape_5 2 rfl rfl rfl ?_
  refine j_getfN E 9 dX4_readTape_6 fl_X4_31 (by repeat (first | with_reducible exact pick_0 | with_reducible apply pick_s)) (by rfl) rfl ?_
  refine j_istore E 11 dX4_readTape_9 (Nat.le_of_ble_eq_true rfl) rfl rfl ?_
  dsimp only [List.set]
  refine j_aload_n E 12 dX4_readTape_11 2 rfl rfl rfl ?_
  refine j_getfN E 15 dX4_readTape_12 fl_X4_35 (by repeat (first | with_reducible exact pick_0 | with_reducible apply pick_s)) (by rfl) rfl ?_
  refine j_istore E 17 dX4_readTape_15 (Nat.le_of_ble_eq_true rfl) rfl rfl ?_
  dsimp only [List.set]
  refine j_aload_n E 18 dX4_readTape_17 0 rfl rfl rfl ?_
  refine j_iconst E (0) 19 dX4_readTape_18 (by decide) rfl ?_
  refine j_putf E 22 dX4_readTape_19 fl_X4_38 (by repeat (first | with_reducible exact pick_0 | with_reducible apply pick_s)) rfl rfl (Nat.le_of_ble_eq_true rfl) rfl ?_
  dsimp only [List.set]
  refine j_aload_n E 23 dX4_readTape_22 0 rfl rfl rfl ?_
  refine j_iconst E (0) 24 dX4_readTape_23 (by decide) rfl ?_
  refine j_putf E 27 dX4_readTape_24 fl_X4_41 (by repeat (first | with_reducible exact pick_0 | with_reducible apply pick_s)) rfl rfl (Nat.le_of_ble_eq_true rfl) rfl ?_
  dsimp only [List.set]
  refine j_aload_n E 28 dX4_readTape_27 0 rfl rfl rfl ?_
  refine j_iconst E (0) 29 dX4_readTape_28 (by decide) rfl ?_
  refine j_putf E 32 dX4_readTape_29 fl_X4_44 (by repeat (first | with_reducible exact pick_0 | with_reducible apply pick_s)) rfl rfl (Nat.le_of_ble_eq_true rfl) rfl ?_
  dsimp only [List.set]
  refine j_close (by repeat (first | with_reducible exact pick_0 | with_reducible apply pick_s | exact sel_0 | apply sel_s)) vls_of ?_
  refine j_sel (fr := []) (pre := [RDR rd ld gr 0 (nI 0) (nI 0), LEAx ld, ROW X.1 tp bs cap2, LST X.1 z gr (gad vs []) capG, VLS X.1 z vl vs np nb capV, F]) (fun w hw => ?_) ?_
  · have hs : Sel [VLS X.1 z vl vs np nb capV, RDR rd ld gr 0 (nI 0) (nI 0), LEAx ld, ROW X.1 tp bs cap2, LST X.1 z gr [] capG, F] [RDR rd ld gr 0 (nI 0) (nI 0), LEAx ld, ROW X.1 tp bs cap2, LST X.1 z gr (gad vs []) capG, VLS X.1 z vl vs np nb capV, F] [] := sel_s (pick_s pick_0) (sel_s (pick_s pick_0) (sel_s (pick_s pick_0) (sel_s (pick_s pick_0) (sel_s pick_0 (sel_s pick_0 sel_0)))))
    exact hs w hw
  have hok : OKs vs.length np nb [] := ⟨hv, hnp, hnb, Nat.zero_le _, fun j hj => absurd hj List.not_mem_nil⟩
  refine j_aload_n E 33 dX4_readTape_32 0 rfl rfl rfl ?_
  refine j_aload_n E 34 dX4_readTape_33 1 rfl rfl rfl ?_
  refine j_aload_n E 35 dX4_readTape_34 2 rfl rfl rfl ?_
  refine j_iconst E (0) 36 dX4_readTape_35 (by decide) rfl ?_
  refine j_callV E (c_rd_all hA 24 (by decide) (d-1) M N rd ld gr tp vl 0 np nb capV capG cap2 (nI 0) (nI 0) bs vs [] (by omega) hok (Nat.zero_le _) hb (by omega) (by omega)) 39 dX4_readTape_36 _ _ _ iv_X4_47 rfl rfl rfl (by repeat (first | with_reducible exact pick_0 | with_reducible apply pick_s | exact sel_0 | apply sel_s)) (by omega) (by omega) (by omega) (Nat.le_of_ble_eq_true rfl) rfl ?_
  rintro o xdc xds ws' ⟨hq1, hq2, hq3⟩
  have hrk := rdV_ok (bs := bs) 24 0 vs.length np nb [] hok
  have hrb := rdV_bad (bs := bs) 24 0 vs.length np nb [] hok (Nat.zero_le _)
  have fin : ∀ (c p e : Nat) (ms : List VE) (np9 nb9 cV9 cG9 : Nat) (xs : List Nat), rdAll bs vs.length np nb = .inl (c, p) → 1 ≤ c → c ≤ 8 → (vs ++ ms).length < 2 ^ 31 → 20 * xdc + 4 * (capV + capG) ≤ 4 * (cV9 + cG9) + 50 * bs.length → xds + 4 * (capV + capG) ≤ 4 * (cV9 + cG9) + 21 * bs.length → J X 7 [RDR rd ld gr e (nI c) (nI p), LEAx ld, ROW X.1 tp bs cap2, LST X.1 z gr xs cG9, VLS X.1 z vl (vs ++ ms) np9 nb9 cV9, F] (0 + xdc) (0 + xds) 71 [some (.ref rd), some (.ref tp), some (.ref vl), some (.int (nI vs.length)), some (.int (nI np)), some (.int (nI nb)), some (.int (-1))] [] := by
    intro c p e ms np9 nb9 cV9 cG9 xs hR h1 h8 hms hK hS
    rw [hR] at B
    refine j_aload_n E 72 dX4_readTape_71 0 rfl rfl rfl ?_
    refine j_getf E 75 dX4_readTape_72 fl_X4_41 (by repeat (first | with_reducible exact pick_0 | with_reducible apply pick_s)) (by rfl) rfl ?_
    refine j_if_eq E 87 78 dX4_readTape_75 (by decide) rfl (fun h75 => ?_) (fun h75 => ?_)
    · exact absurd h75 (nI_ne0 (by omega) (by omega))
    · refine j_aload_n E 79 dX4_readTape_78 2 rfl rfl rfl ?_
      refine j_iload_n E 80 dX4_readTape_79 3 rfl rfl rfl ?_
      refine j_iload E 82 dX4_readTape_80 rfl rfl ?_
      refine j_iload E 84 dX4_readTape_82 rfl rfl ?_
      refine j_callV E (c_vls_only hA (d-1) vl np9 nb9 cV9 np nb (by omega) vs ms hms) 87 dX4_readTape_84 _ _ _ iv_X4_58 rfl rfl rfl (by repeat (first | with_reducible exact pick_0 | with_reducible apply pick_s | exact sel_0 | apply sel_s)) (by omega) (by omega) (by omega) (Nat.le_of_ble_eq_true rfl) rfl ?_
      rintro _ _ _ _ ⟨rfl, rfl, rfl, rfl⟩
      dsimp only [List.cons_append, List.nil_append, Option.toList]
      refine j_aload_n E 88 dX4_readTape_87 0 rfl rfl rfl ?_
      refine j_getf E 91 dX4_readTape_88 fl_X4_21 (by repeat (first | with_reducible exact pick_0 | with_reducible apply pick_s)) (by rfl) rfl ?_
      refine j_callV E (c_lst_clear hA (d-1) gr cG9 xs) 94 dX4_readTape_91 _ _ _ iv_X4_62 rfl rfl rfl (by repeat (first | with_reducible exact pick_0 | with_reducible apply pick_s | exact sel_0 | apply sel_s)) (by omega) (by omega) (by omega) (Nat.le_of_ble_eq_true rfl) rfl ?_
      rintro _ _ _ _ ⟨rfl, rfl, rfl, rfl⟩
      dsimp only [List.cons_append, List.nil_append, Option.toList]
      refine j_iload E 96 dX4_readTape_94 rfl rfl ?_
      exact j_iret E B rfl xdc xds dX4_readTape_96 (by repeat (first | with_reducible exact pick_0 | with_reducible apply pick_s | exact sel_0 | apply sel_s)) ⟨tapeQ_inl hK hS, by omega, by omega⟩ (by omega) (by omega) (by omega) (by omega)
  rcases hr : rdV bs 24 0 vs.length np nb [] with x | ⟨v, e, new, np2, nb2, gs2⟩
  · rw [hr] at hq1 hrb
    obtain ⟨b1, b2, b3⟩ := hrb
    have hR : rdAll bs vs.length np nb = .inl (x.1, x.2) := by rw [rdAll, hr]
    obtain ⟨e9, ms, np9, nb9, cV9, cG9, xs9, rfl, rfl, g1, g2, g3⟩ := hq1
    dsimp only [List.cons_append, List.nil_append, Option.toList]
    refine j_istore E 41 dX4_readTape_39 (Nat.le_of_ble_eq_true rfl) rfl rfl ?_
    dsimp only [List.set]
    refine j_aload_n E 42 dX4_readTape_41 0 rfl rfl rfl ?_
    refine j_getf E 45 dX4_readTape_42 fl_X4_41 (by repeat (first | with_reducible exact pick_0 | with_reducible apply pick_s)) (by rfl) rfl ?_
    refine j_if_ne E 71 48 dX4_readTape_45 (by decide) rfl (fun h45 => ?_) (fun h45 => ?_)
    · exact fin x.1 x.2 e9 ms np9 nb9 cV9 cG9 xs9 hR b1 b2 (by omega) (by omega) (by omega)
    · exact absurd h45 (nI_ne0 (by omega) (by omega))
  · rw [hr] at hq1 hrk
    obtain ⟨g1, g2, g3, g4⟩ := hrk
    dsimp only at g1 g2 g3 g4
    obtain ⟨ads, cV9, cG9, f9, rfl, rfl, k1, k2⟩ := hq1
    dsimp only at f9 k1 k2
    dsimp only [List.cons_append, List.nil_append, Option.toList]
    have hal : (vs ++ ents ads new).length ≤ 3000 := by rw [List.length_append, ents_len f9]; exact g1.1
    refine j_istore E 41 dX4_readTape_39 (Nat.le_of_ble_eq_true rfl) rfl rfl ?_
    dsimp only [List.set]
    refine j_aload_n E 42 dX4_readTape_41 0 rfl rfl rfl ?_
    refine j_getf E 45 dX4_readTape_42 fl_X4_41 (by repeat (first | with_reducible exact pick_0 | with_reducible apply pick_s)) (by rfl) rfl ?_
    refine j_if_ne E 71 48 dX4_readTape_45 (by decide) rfl (fun h45 => ?_) (fun h45 => ?_)
    · exact absurd rfl h45
    · refine j_aload_n E 49 dX4_readTape_48 0 rfl rfl rfl ?_
      refine j_getf E 52 dX4_readTape_49 fl_X4_38 (by repeat (first | with_reducible exact pick_0 | with_reducible apply pick_s)) (by rfl) rfl ?_
      refine j_aload_n E 53 dX4_readTape_52 1 rfl rfl rfl ?_
      refine j_callV E (c_row_size hG (d-1) tp cap2 bs) 56 dX4_readTape_53 _ _ _ iv_X4_51 rfl rfl rfl (by repeat (first | with_reducible exact pick_0 | with_reducible apply pick_s | exact sel_0 | apply sel_s)) (by omega) (by omega) (by omega) (Nat.le_of_ble_eq_true rfl) rfl ?_
      rintro _ _ _ _ ⟨rfl, rfl, rfl, rfl⟩
      dsimp only [List.cons_append, List.nil_append, Option.toList]
      refine j_icmp_ge E 71 59 dX4_readTape_56 (by decide) rfl (fun h56 => ?_) (fun h56 => ?_)
      · have q56 : (bs.length) ≤ e := (nI_leI (a := (bs.length)) (b := e) (by omega) (by omega)).mp h56
        have hR : rdAll bs vs.length np nb = .inr (v, new, np2, nb2) := by
          rw [rdAll, hr]
          dsimp only
          rw [if_neg (by omega)]
        rw [hR] at B
        refine j_aload_n E 72 dX4_readTape_71 0 rfl rfl rfl ?_
        refine j_getf E 75 dX4_readTape_72 fl_X4_41 (by repeat (first | with_reducible exact pick_0 | with_reducible apply pick_s)) (by rfl) rfl ?_
        refine j_if_eq E 87 78 dX4_readTape_75 (by decide) rfl (fun h75 => ?_) (fun h75 => ?_)
        · refine j_aload_n E 88 dX4_readTape_87 0 rfl rfl rfl ?_
          refine j_getf E 91 dX4_readTape_88 fl_X4_21 (by repeat (first | with_reducible exact pick_0 | with_reducible apply pick_s)) (by rfl) rfl ?_
          refine j_callV E (c_lst_clear hA (d-1) gr cG9 (gad (vs ++ ents ads new) gs2)) 94 dX4_readTape_91 _ _ _ iv_X4_62 rfl rfl rfl (by repeat (first | with_reducible exact pick_0 | with_reducible apply pick_s | exact sel_0 | apply sel_s)) (by omega) (by omega) (by omega) (Nat.le_of_ble_eq_true rfl) rfl ?_
          rintro _ _ _ _ ⟨rfl, rfl, rfl, rfl⟩
          dsimp only [List.cons_append, List.nil_append, Option.toList]
          refine j_iload E 96 dX4_readTape_94 rfl rfl ?_
          exact j_iret E B rfl xdc xds dX4_readTape_96 (by repeat (first | with_reducible exact pick_0 | with_reducible apply pick_s | exact sel_0 | apply sel_s)) ⟨tapeQ_inr f9 (by omega) (by omega), by omega, by omega⟩ (by omega) (by omega) (by omega) (by omega)
        · exact absurd rfl h75
      · have q56 : ¬ (bs.length) ≤ e := mt (nI_leI (a := (bs.length)) (b := e) (by omega) (by omega)).mpr h56
        have hR : rdAll bs vs.length np nb = .inl (8, e) := by
          rw [rdAll, hr]
          dsimp only
          rw [if_pos (by omega)]
        refine j_aload_n E 60 dX4_readTape_59 0 rfl rfl rfl ?_
        refine j_bipush E (8) 62 dX4_readTape_60 (by decide) rfl ?_
        refine j_aload_n E 63 dX4_readTape_62 0 rfl rfl rfl ?_
        refine j_getf E 66 dX4_readTape_63 fl_X4_38 (by repeat (first | with_reducible exact pick_0 | with_reducible apply pick_s)) (by rfl) rfl ?_
        refine j_callV E (c_rd_refuse hG (d-1) rd ld gr e (nI 0) (nI 0) (nI 8) (nI e)) 69 dX4_readTape_66 _ _ _ iv_X4_54 rfl rfl rfl (by repeat (first | with_reducible exact pick_0 | with_reducible apply pick_s | exact sel_0 | apply sel_s)) (by omega) (by omega) (by omega) (Nat.le_of_ble_eq_true rfl) rfl ?_
        rintro _ _ _ _ ⟨rfl, rfl, rfl, rfl⟩
        dsimp only [List.cons_append, List.nil_append, Option.toList]
        refine j_istore E 71 dX4_readTape_69 (Nat.le_of_ble_eq_true rfl) rfl rfl ?_
        dsimp only [List.set]
        exact j_sel (by repeat (first | with_reducible exact pick_0 | with_reducible apply pick_s | exact sel_0 | apply sel_s)) (fin 8 e e (ents ads new) np2 nb2 cV9 cG9 _ hR (by decide) (by decide) (by omega) (by omega) (by omega))

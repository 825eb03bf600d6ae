/-! Packer: write -/
/-- a packer at rest: its row's bytes -/
def PCK (g : GT) (z : Nat → Nat) (pk pr cm : Nat) (bs : List UInt8) (cap capC : Nat) : Asn := fun w => ∃ x : Int32 × Int32, sepL [pt pk (.inr (2, [.ref pr, .ref cm, .int x.1, .int x.2])), ROW g pr bs cap, LST g z cm [] capC] w
theorem pck_open {g : GT} {z : Nat → Nat} {pk pr cm cap capC : Nat} {bs : List UInt8} : ∀ w, PCK g z pk pr cm bs cap capC w → ∃ x : Int32 × Int32, True ∧ sepL [pt pk (.inr (2, [.ref pr, .ref cm, .int x.1, .int x.2])), ROW g pr bs cap, LST g z cm [] capC] w := fun _ ⟨x, h⟩ => ⟨x, trivial, h⟩
theorem pck_of {g : GT} {z : Nat → Nat} {pk pr cm cap capC : Nat} {bs : List UInt8} {mo fa : Int32} : ∀ w, sepL [pt pk (.inr (2, [.ref pr, .ref cm, .int mo, .int fa])), ROW g pr bs cap, LST g z cm [] capC] w → PCK g z pk pr cm bs cap capC w := fun _ h => ⟨(mo, fa), h⟩
theorem pck_has {g : GT} {z : Nat → Nat} {pk pr cm cap capC : Nat} {bs : List UInt8} : Has (PCK g z pk pr cm bs cap capC) pk 2 := fun w ⟨x, w1, w2, hp, h1, _⟩ => by
  have h2 : w1 = [(pk, .inr (2, [.ref pr, .ref cm, .int x.1, .int x.2]))] := h1
  exact ⟨_, hp.symm.subset (List.mem_append_left _ (by rw [h2]; exact List.mem_singleton.mpr rfl))⟩
theorem pck_rcv {g : GT} {z : Nat → Nat} {pk pr cm cap capC : Nat} {bs : List UInt8} {L : List Asn} : Rcv (PCK g z pk pr cm bs cap capC :: L) pk 2 := rcv_0 pck_has
theorem pck_know {g : GT} {z : Nat → Nat} {pk pr cm cap capC : Nat} {bs : List UInt8} : ∀ w, PCK g z pk pr cm bs cap capC w → 64 ≤ cap ∧ cap ≤ 131072 ∧ capC ≤ 20000 := by
  rintro w ⟨x, w1, w2, -, -, u1, u2, -, h, v1, v2, -, h3, -⟩
  have h4 := row_know u1 h
  exact ⟨h4.1, h4.2, lst_know v1 h3⟩
theorem gad_get {vs : List VE} {come : List Nat} {i : Nat} {e : VE} (hi : i < come.length) (h : vs[come.getD i 0]? = some e) : (gad vs come).getD i 0 = e.1 := by
  rw [gad, List.getD_eq_getElem?_getD, List.getElem?_map]
  rw [List.getD_eq_getElem?_getD] at h
  rw [List.getElem?_eq_getElem hi] at h ⊢
  exact adr_at h
set_option maxHeartbeats 4000000 in
theorem c_pk_init {g : GT} {z : Nat → Nat} (hA : GA g z) (d : Nat) (hd : 4 ≤ d) (pk : Nat) : Ctr g mX3_init d 3 69 [.ref pk] [pt pk (.inr (2, [.null, .null, .int 0, .int 0]))] (fun o dc ds ws' => ∃ pr cm, o = none ∧ dc ≤ 3 ∧ ds ≤ 69 ∧ ws' = [PCK g z pk pr cm [] 64 0]) noX := by
  have hG := hA.1
  refine ctr_intro hG (by decide +kernel) (Nat.le_of_ble_eq_true rfl) ?_
  rintro X F rfl E B hI T
  replace E : JE X RX3 cX3_init 1 d 3 69 := E
  show J X _ [pt pk (.inr (2, [.null, .null, .int 0, .int 0])), F] 0 0 0 [some (.ref pk)] []
  refine j_aload_n E 1 dX3_init_0 0 rfl rfl rfl ?_
  refine j_objI E 4 dX3_init_1 ob_X3 ob_inst ob_code (Nat.le_of_ble_eq_true rfl) (by omega) rfl ?_
  refine j_aload_n E 5 dX3_init_4 0 rfl rfl rfl ?_
  refine j_new E 8 dX3_init_5 nw_X3_9 (by omega) (by omega) rfl (fun pr => ?_)
  refine j_dup E 9 dX3_init_8 rfl rfl ?_
  refine j_callIn E (c_row_init hG (d-1) (by omega) pr) 12 dX3_init_9 iv_X3_11 rfl rfl (by repeat (first | with_reducible exact pick_0 | with_reducible apply pick_s | exact sel_0 | apply sel_s)) (by omega) (by omega) (by omega) (Nat.le_of_ble_eq_true rfl) rfl ?_
  rintro _ _ _ _ ⟨rfl, rfl, rfl, rfl⟩
  dsimp only [List.cons_append, List.nil_append, Option.toList]
  refine j_putfF E (hI rfl) 15 dX3_init_12 fl_X3_12 (by repeat (first | with_reducible exact pick_0 | with_reducible apply pick_s)) rfl rfl (Nat.le_of_ble_eq_true rfl) rfl ?_
  dsimp only [List.set]
  refine j_aload_n E 16 dX3_init_15 0 rfl rfl rfl ?_
  refine j_new E 19 dX3_init_16 nw_X3_18 (by omega) (by omega) rfl (fun cm => ?_)
  refine j_dup E 20 dX3_init_19 rfl rfl ?_
  refine j_callI E (c_lst_init (z := z) hA (d-1) (by omega) cm) 23 dX3_init_20 iv_X3_20 rfl rfl (by repeat (first | with_reducible exact pick_0 | with_reducible apply pick_s | exact sel_0 | apply sel_s)) (by omega) (by omega) (by omega) (Nat.le_of_ble_eq_true rfl) rfl ?_
  rintro _ _ _ _ ⟨rfl, rfl, rfl, rfl⟩
  dsimp only [List.cons_append, List.nil_append, Option.toList]
  refine j_putfF E (hI rfl) 26 dX3_init_23 fl_X3_21 (by repeat (first | with_reducible exact pick_0 | with_reducible apply pick_s)) rfl rfl (Nat.le_of_ble_eq_true rfl) rfl ?_
  dsimp only [List.set]
  refine j_close (by repeat (first | with_reducible exact pick_0 | with_reducible apply pick_s | exact sel_0 | apply sel_s)) (pck_of (g := X.1) (z := z) (pk := pk) (pr := pr) (cm := cm) (cap := 64) (capC := 0) (bs := []) (mo := 0) (fa := 0)) ?_
  exact j_vret E B rfl 3 69 dX3_init_26 (by repeat (first | with_reducible exact pick_0 | with_reducible apply pick_s | exact sel_0 | apply sel_s)) ⟨pr, cm, rfl, by omega, by omega, rfl⟩ (by omega) (by omega) (by omega) (by omega)
set_option maxHeartbeats 8000000 in
theorem c_pk_write {g : GT} {z : Nat → Nat} (hA : GA g z) (d M N pk pr cm vl most cap capC capV np nb j a : Nat) (v : VT) (t : Int32) (bs0 : List UInt8) (vs : List VE) (hd : 40 ≤ d) (hv : VSOK vs) (hj : vs[j]? = some (a, v, t)) (hm : most ≤ 65536) (hM : 1935680 ≤ 320 * M + 5 * cap + 64 * capC) (hN : 500000 ≤ N + 2 * cap + 4 * capC) : CtrV g mX3_write 2 d M N pk [.ref vl, .int (nI j), .int (nI most)] [PCK g z pk pr cm bs0 cap capC, VLS g z vl vs np nb capV] (fun o dc ds ws' => ∃ xcap xcC, o = some (.int (bI (packU (vts vs) most j).isSome)) ∧ ws' = [PCK g z pk pr cm ((packU (vts vs) most j).getD []) xcap xcC, VLS g z vl vs np nb capV] ∧ 320 * dc + 5 * cap + 64 * capC ≤ 5 * xcap + 64 * xcC ∧ ds + 2 * cap + 4 * capC ≤ 2 * xcap + 4 * xcC ∧ dc ≤ M ∧ ds ≤ N) noX := by
  refine ⟨pck_rcv, ?_⟩
  have hG := hA.1
  have hjl : j < vs.length := (List.getElem?_eq_some_iff.mp hj).1
  have hv3 := hv.1
  have hz0 : tvs vs (tn []) = vs := tvs_z (fun e he => (hv.2 e he).2) tn_nil
  refine ctr_intro hG (by decide +kernel) (Nat.le_of_ble_eq_true rfl) ?_
  rintro X F rfl E B hI T
  replace E : JE X RX3 cX3_write 5 d M N := E
  show J X _ [PCK X.1 z pk pr cm bs0 cap capC, VLS X.1 z vl vs np nb capV, F] 0 0 0 [some (.ref pk), some (.ref vl), some (.int (nI j)), some (.int (nI most)), none] []
  refine j_open (by repeat (first | with_reducible exact pick_0 | with_reducible apply pick_s)) pck_open ?_
  rintro ⟨mo, fa⟩ -
  dsimp only [List.cons_append, List.nil_append]
  refine j_aload_n E 1 dX3_write_0 0 rfl rfl rfl ?_
  refine j_getf E 4 dX3_write_1 fl_X3_12 (by repeat (first | with_reducible exact pick_0 | with_reducible apply pick_s)) (by rfl) rfl ?_
  refine j_iconst E (0) 5 dX3_write_4 (by decide) rfl ?_
  rw [show (0 : Int32) = nI 0 from rfl]
  refine j_callV E (c_row_cut hG (d-1) pr cap 0 bs0 (Nat.zero_le _)) 8 dX3_write_5 _ _ _ iv_X3_25 rfl rfl rfl (by repeat (first | with_reducible exact pick_0 | with_reducible apply pick_s | exact sel_0 | apply sel_s)) (by omega) (by omega) (by omega) (Nat.le_of_ble_eq_true rfl) rfl ?_
  rintro _ _ _ _ ⟨rfl, rfl, rfl, rfl⟩
  dsimp only [List.cons_append, List.nil_append, Option.toList]
  refine j_aload_n E 9 dX3_write_8 0 rfl rfl rfl ?_
  refine j_iload_n E 10 dX3_write_9 3 rfl rfl rfl ?_
  refine j_putf E 13 dX3_write_10 fl_X3_29 (by repeat (first | with_reducible exact pick_0 | with_reducible apply pick_s)) rfl rfl (Nat.le_of_ble_eq_true rfl) rfl ?_
  dsimp only [List.set]
  refine j_aload_n E 14 dX3_write_13 0 rfl rfl rfl ?_
  refine j_iconst E (0) 15 dX3_write_14 (by decide) rfl ?_
  refine j_putf E 18 dX3_write_15 fl_X3_33 (by repeat (first | with_reducible exact pick_0 | with_reducible apply pick_s)) (by decide) (by decide) (Nat.le_of_ble_eq_true rfl) rfl ?_
  dsimp only [List.set]
  rw [show bs0.take 0 = [] from rfl]
  refine j_aload_n E 19 dX3_write_18 0 rfl rfl rfl ?_
  refine j_aload_n E 20 dX3_write_19 1 rfl rfl rfl ?_
  refine j_aload_n E 21 dX3_write_20 1 rfl rfl rfl ?_
  refine j_iload_n E 22 dX3_write_21 2 rfl rfl rfl ?_
  refine j_callV E (c_vls_at (z := z) hG (d-1) vl np nb capV j (by omega) vs _ hj (by omega)) 25 dX3_write_22 _ _ _ iv_X3_37 rfl rfl rfl (by repeat (first | with_reducible exact pick_0 | with_reducible apply pick_s | exact sel_0 | apply sel_s)) (by omega) (by omega) (by omega) (Nat.le_of_ble_eq_true rfl) rfl ?_
  rintro _ _ _ _ ⟨rfl, rfl, rfl, rfl⟩
  dsimp only [List.cons_append, List.nil_append, Option.toList]
  refine pko_close (some []) [] (by repeat (first | with_reducible exact pick_0 | with_reducible apply pick_s | exact sel_0 | apply sel_s)) (by rfl) ⟨rfl, Nat.zero_le _⟩ ?_
  rw [← hz0]
  have hK9 : CtrV X.1 mX3_writeValue 2 (d-1) M N pk [.ref vl, .ref a, .int (nI (24 - 24))] [PKO X.1 pk pr cm most (some []) cap, LST X.1 z cm [] capC, VLS X.1 z vl (tvs vs (tn [])) np nb capV] (PKQ X.1 z pk pr cm vl most cap capC capV np nb M N vs (pkV (vts vs) most 24 j (some [], []))) noX := c_pk_all hA 24 (by decide) (d-1) M N pk pr cm vl most cap capC capV np nb j a v t vs (some [], []) (by omega) hv hj ⟨List.nodup_nil, fun x hx => absurd hx List.not_mem_nil⟩ hm hM hN
  refine j_iconst E (0) 26 dX3_write_25 (by decide) rfl ?_
  refine j_callV E hK9 29 dX3_write_26 _ _ _ iv_X3_43 rfl rfl rfl (by repeat (first | with_reducible exact pick_0 | with_reducible apply pick_s | exact sel_0 | apply sel_s)) (by omega) (by omega) (by omega) (Nat.le_of_ble_eq_true rfl) rfl ?_
  rintro _ xdc xds _ ⟨xcap, xcC, rfl, rfl, g1, g2, g3, g4⟩
  dsimp only [List.cons_append, List.nil_append, Option.toList]
  have hcok := pkV_ok (most := most) hv.parts 24 j hjl (some [], []) ⟨List.nodup_nil, fun x hx => absurd hx List.not_mem_nil⟩
  rw [packU] at B
  obtain ⟨R, hR⟩ : ∃ R, R = pkV (vts vs) most 24 j (some [], []) := ⟨_, rfl⟩
  rw [← hR] at B hcok ⊢
  obtain ⟨st, come⟩ := R
  dsimp only at B hcok ⊢
  have hcl := hcok.len
  have tail : ∀ (q i : Nat) (tt : Nat → Int32), i + q = come.length → (∀ x, ¬ x ∈ come.drop i → tt x = -1) → J X 5 [pt pk (.inr (2, [.ref pr, .ref cm, .int (nI most), .int (stF st)])), ROW X.1 pr (st.getD []) xcap, LST X.1 z cm (gad vs come) xcC, VLS X.1 z vl (tvs vs tt) np nb capV, F] xdc xds 47 [some (.ref pk), some (.ref vl), some (.int (nI j)), some (.int (nI most)), some (.int (nI i))] [] := by
    intro q
    induction q with
    | zero =>
      intro i tt hq ht
      have hz9 : tvs vs tt = vs := tvs_z (fun e he => (hv.2 e he).2) (fun x => ht x (by rw [List.drop_of_length_le (by omega)]; exact List.not_mem_nil))
      rw [hz9]
      refine j_iload E 49 dX3_write_47 rfl rfl ?_
      refine j_aload_n E 50 dX3_write_49 0 rfl rfl rfl ?_
      refine j_getf E 53 dX3_write_50 fl_X3_21 (by repeat (first | with_reducible exact pick_0 | with_reducible apply pick_s)) (by rfl) rfl ?_
      refine j_callV E (c_lst_size hG z (d-1) cm xcC (gad vs come)) 56 dX3_write_53 _ _ _ iv_X3_47 rfl rfl rfl (by repeat (first | with_reducible exact pick_0 | with_reducible apply pick_s | exact sel_0 | apply sel_s)) (by omega) (by omega) (by omega) (Nat.le_of_ble_eq_true rfl) rfl ?_
      rintro _ _ _ _ ⟨rfl, rfl, rfl, rfl⟩
      dsimp only [List.cons_append, List.nil_append, Option.toList]
      rw [gad_len]
      refine j_icmp_ge E 81 59 dX3_write_56 (by decide) rfl (fun h56 => ?_) (fun h56 => ?_)
      · refine j_aload_n E 82 dX3_write_81 0 rfl rfl rfl ?_
        refine j_getf E 85 dX3_write_82 fl_X3_21 (by repeat (first | with_reducible exact pick_0 | with_reducible apply pick_s)) (by rfl) rfl ?_
        refine j_callV E (c_lst_clear hA (d-1) cm xcC (gad vs come)) 88 dX3_write_85 _ _ _ iv_X3_60 rfl rfl rfl (by repeat (first | with_reducible exact pick_0 | with_reducible apply pick_s | exact sel_0 | apply sel_s)) (by omega) (by omega) (by omega) (Nat.le_of_ble_eq_true rfl) rfl ?_
        rintro _ _ _ _ ⟨rfl, rfl, rfl, rfl⟩
        dsimp only [List.cons_append, List.nil_append, Option.toList]
        rcases st with _ | p
        · dsimp only [stF, Option.getD_none, Option.isSome_none] at B ⊢
          refine j_aload_n E 89 dX3_write_88 0 rfl rfl rfl ?_
          refine j_getf E 92 dX3_write_89 fl_X3_33 (by repeat (first | with_reducible exact pick_0 | with_reducible apply pick_s)) (by rfl) rfl ?_
          refine j_if_ne E 99 95 dX3_write_92 (by decide) rfl (fun h92 => ?_) (fun h92 => ?_)
          · refine j_iconst E (0) 100 dX3_write_99 (by decide) rfl ?_
            refine j_close (by repeat (first | with_reducible exact pick_0 | with_reducible apply pick_s | exact sel_0 | apply sel_s)) (pck_of (g := X.1) (z := z) (pk := pk) (pr := pr) (cm := cm) (cap := xcap) (capC := xcC) (bs := []) (mo := nI most) (fa := 1)) ?_
            exact j_zret E B rfl (by first | exact Or.inl rfl | exact Or.inr rfl) xdc xds dX3_write_100 (by repeat (first | with_reducible exact pick_0 | with_reducible apply pick_s | exact sel_0 | apply sel_s)) ⟨xcap, xcC, rfl, rfl, g1, g2, g3, g4⟩ (by omega) (by omega) (by omega) (by omega)
          · exact absurd h92 (by decide)
        · dsimp only [stF, Option.getD_some, Option.isSome_some] at B ⊢
          refine j_aload_n E 89 dX3_write_88 0 rfl rfl rfl ?_
          refine j_getf E 92 dX3_write_89 fl_X3_33 (by repeat (first | with_reducible exact pick_0 | with_reducible apply pick_s)) (by rfl) rfl ?_
          refine j_if_ne E 99 95 dX3_write_92 (by decide) rfl (fun h92 => ?_) (fun h92 => ?_)
          · exact absurd rfl h92
          · refine j_iconst E (1) 96 dX3_write_95 (by decide) rfl ?_
            refine j_goto E 100 dX3_write_96 (by decide) ?_
            refine j_close (by repeat (first | with_reducible exact pick_0 | with_reducible apply pick_s | exact sel_0 | apply sel_s)) (pck_of (g := X.1) (z := z) (pk := pk) (pr := pr) (cm := cm) (cap := xcap) (capC := xcC) (bs := p) (mo := nI most) (fa := 0)) ?_
            exact j_zret E B rfl (by first | exact Or.inl rfl | exact Or.inr rfl) xdc xds dX3_write_100 (by repeat (first | with_reducible exact pick_0 | with_reducible apply pick_s | exact sel_0 | apply sel_s)) ⟨xcap, xcC, rfl, rfl, g1, g2, g3, g4⟩ (by omega) (by omega) (by omega) (by omega)
      · exact absurd (nI_le (by omega) (by omega)) h56
    | succ q ih =>
      intro i tt hq ht
      have hi : i < come.length := by omega
      have hci : come.getD i 0 < vs.length := hcok.2 _ (by
        rw [List.getD_eq_getElem?_getD, List.getElem?_eq_getElem hi]
        exact List.getElem_mem hi)
      obtain ⟨e, he⟩ : ∃ e, vs[come.getD i 0]? = some e := ⟨_, List.getElem?_eq_getElem hci⟩
      refine j_iload E 49 dX3_write_47 rfl rfl ?_
      refine j_aload_n E 50 dX3_write_49 0 rfl rfl rfl ?_
      refine j_getf E 53 dX3_write_50 fl_X3_21 (by repeat (first | with_reducible exact pick_0 | with_reducible apply pick_s)) (by rfl) rfl ?_
      refine j_callV E (c_lst_size hG z (d-1) cm xcC (gad vs come)) 56 dX3_write_53 _ _ _ iv_X3_47 rfl rfl rfl (by repeat (first | with_reducible exact pick_0 | with_reducible apply pick_s | exact sel_0 | apply sel_s)) (by omega) (by omega) (by omega) (Nat.le_of_ble_eq_true rfl) rfl ?_
      rintro _ _ _ _ ⟨rfl, rfl, rfl, rfl⟩
      dsimp only [List.cons_append, List.nil_append, Option.toList]
      rw [gad_len]
      refine j_icmp_ge E 81 59 dX3_write_56 (by decide) rfl (fun h56 => ?_) (fun h56 => ?_)
      · exact absurd h56 (nI_ge hi (by omega))
      · refine j_aload_n E 60 dX3_write_59 0 rfl rfl rfl ?_
        refine j_getf E 63 dX3_write_60 fl_X3_21 (by repeat (first | with_reducible exact pick_0 | with_reducible apply pick_s)) (by rfl) rfl ?_
        refine j_iload E 65 dX3_write_63 rfl rfl ?_
        refine j_callV E (c_lst_get hG z (d-1) cm xcC i (gad vs come) (by omega) (by rw [gad_len]; exact hi) (by rw [gad_len]; omega)) 68 dX3_write_65 _ _ _ iv_X3_51 rfl rfl rfl (by repeat (first | with_reducible exact pick_0 | with_reducible apply pick_s | exact sel_0 | apply sel_s)) (by omega) (by omega) (by omega) (Nat.le_of_ble_eq_true rfl) rfl ?_
        rintro _ _ _ _ ⟨rfl, rfl, rfl, rfl⟩
        dsimp only [List.cons_append, List.nil_append, Option.toList]
        rw [gad_get hi he]
        refine j_open (P := VLS X.1 z vl (tvs vs tt) np nb capV) (by repeat (first | with_reducible exact pick_0 | with_reducible apply pick_s)) vls_open ?_
        rintro al -
        dsimp only [VLSo, List.cons_append, List.nil_append]
        refine j_castV E 71 dX3_write_68 cc_X3_55 rfl (has_rcv (P := VSL X.1 z 0 (tvs vs tt)) (by repeat (first | with_reducible exact pick_0 | with_reducible apply pick_s)) (vsl_has e.1 (List.mem_map.mpr ⟨_, List.mem_of_getElem? (tvs_at he), rfl⟩))) rfl ?_
        refine j_open (P := VSL X.1 z 0 (tvs vs tt)) (by repeat (first | with_reducible exact pick_0 | with_reducible apply pick_s)) (vsl_open (tvs_at he)) ?_
        rintro _ -
        dsimp only [List.cons_append, List.nil_append]
        refine j_open (by repeat (first | with_reducible exact pick_0 | with_reducible apply pick_s)) valc_open ?_
        rintro ⟨bq, pq, xf⟩ hx
        dsimp only [VALo, List.cons_append, List.nil_append] at hx ⊢
        refine j_iconst E (-1) 72 dX3_write_71 (by decide) rfl ?_
        refine j_putfN E 75 dX3_write_72 fl_X3_57 (by repeat (first | with_reducible exact pick_0 | with_reducible apply pick_s)) rfl rfl (Nat.le_of_ble_eq_true rfl) rfl ?_
        dsimp only [List.set]
        refine valc_close e.2.1 _ (by repeat (first | with_reducible exact pick_0 | with_reducible apply pick_s | exact sel_0 | apply sel_s)) rfl hx ?_
        refine j_close (by repeat (first | with_reducible exact pick_0 | with_reducible apply pick_s | exact sel_0 | apply sel_s)) (vsl_set (L := tvs vs tt) (e.1, e.2.1, -1) (by rw [tvs_len]; exact hci)) ?_
        rw [tvs_set he]
        refine j_close (by repeat (first | with_reducible exact pick_0 | with_reducible apply pick_s | exact sel_0 | apply sel_s)) (vls_of' (by rw [adr_tvs, adr_tvs])) ?_
        refine j_iinc E _ 78 dX3_write_75 rfl rfl (Nat.le_of_ble_eq_true rfl) rfl rfl ?_
        dsimp only [List.set]
        refine j_goto E 47 dX3_write_78 (by decide) ?_
        have hdr : come.drop i = come.getD i 0 :: come.drop (i + 1) := by
          rw [List.drop_eq_getElem_cons hi, List.getD_eq_getElem?_getD, List.getElem?_eq_getElem hi]
          rfl
        have hz := ih (i + 1) (upd tt (come.getD i 0) (-1)) (by omega) (fun x hx => by
          by_cases q1 : x = come.getD i 0
          · rw [q1, pk_us]
          · rw [pk_un q1]
            exact ht x (by rw [hdr]; exact fun q2 => (List.mem_cons.mp q2).elim q1 hx))
        rw [← nI_1] at hz
        exact j_sel (by repeat (first | with_reducible exact pick_0 | with_reducible apply pick_s | exact sel_0 | apply sel_s)) hz
  have after : J X 5 [pt pk (.inr (2, [.ref pr, .ref cm, .int (nI most), .int (stF st)])), ROW X.1 pr (st.getD []) xcap, LST X.1 z cm (gad vs come) xcC, VLS X.1 z vl (tvs vs (tn come)) np nb capV, F] xdc xds 44 [some (.ref pk), some (.ref vl), some (.int (nI j)), some (.int (nI most)), none] [] := by
    refine j_iconst E (0) 45 dX3_write_44 (by decide) rfl ?_
    refine j_istore E 47 dX3_write_45 (Nat.le_of_ble_eq_true rfl) rfl rfl ?_
    dsimp only [List.set]
    exact tail come.length 0 (tn come) (Nat.zero_add _) (fun x hx => if_neg hx)
  refine j_open (by repeat (first | with_reducible exact pick_0 | with_reducible apply pick_s)) pko_open ?_
  rintro bs9 hbs9
  dsimp only [List.cons_append, List.nil_append]
  rcases st with _ | p
  · dsimp only [stF, Option.getD_none] at after ⊢
    refine j_aload_n E 30 dX3_write_29 0 rfl rfl rfl ?_
    refine j_getf E 33 dX3_write_30 fl_X3_33 (by repeat (first | with_reducible exact pick_0 | with_reducible apply pick_s)) (by rfl) rfl ?_
    refine j_if_eq E 44 36 dX3_write_33 (by decide) rfl (fun h33 => ?_) (fun h33 => ?_)
    · exact absurd h33 (by decide)
    · refine j_aload_n E 37 dX3_write_36 0 rfl rfl rfl ?_
      refine j_getf E 40 dX3_write_37 fl_X3_12 (by repeat (first | with_reducible exact pick_0 | with_reducible apply pick_s)) (by rfl) rfl ?_
      refine j_iconst E (0) 41 dX3_write_40 (by decide) rfl ?_
      rw [show (0 : Int32) = nI 0 from rfl]
      refine j_callV E (c_row_cut hG (d-1) pr xcap 0 bs9 (Nat.zero_le _)) 44 dX3_write_41 _ _ _ iv_X3_25 rfl rfl rfl (by repeat (first | with_reducible exact pick_0 | with_reducible apply pick_s | exact sel_0 | apply sel_s)) (by omega) (by omega) (by omega) (Nat.le_of_ble_eq_true rfl) rfl ?_
      rintro _ _ _ _ ⟨rfl, rfl, rfl, rfl⟩
      dsimp only [List.cons_append, List.nil_append, Option.toList]
      rw [show bs9.take 0 = [] from rfl]
      refine j_widen (k' := xdc) (n' := xds) (by omega) (by omega) ?_
      exact j_sel (by repeat (first | with_reducible exact pick_0 | with_reducible apply pick_s | exact sel_0 | apply sel_s)) after
  · obtain ⟨rfl, hb9⟩ := hbs9
    dsimp only [stF, Option.getD_some] at after ⊢
    refine j_aload_n E 30 dX3_write_29 0 rfl rfl rfl ?_
    refine j_getf E 33 dX3_write_30 fl_X3_33 (by repeat (first | with_reducible exact pick_0 | with_reducible apply pick_s)) (by rfl) rfl ?_
    refine j_if_eq E 44 36 dX3_write_33 (by decide) rfl (fun h33 => ?_) (fun h33 => ?_)
    · refine j_widen (k' := xdc) (n' := xds) (by omega) (by omega) ?_
      exact j_sel (by repeat (first | with_reducible exact pick_0 | with_reducible apply pick_s | exact sel_0 | apply sel_s)) after
    · exact absurd rfl h33

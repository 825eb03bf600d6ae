/-! Reader: references -/
/-- a lead, whatever it says -/
def LEAx (ld : Nat) : Asn := fun w => ∃ x : Int32 × Int32 × Int64 × Int32, pt ld (.inr (1, [.int x.1, .int x.2.1, .long x.2.2.1, .int x.2.2.2])) w
theorem leax_open {ld : Nat} : ∀ w, LEAx ld w → ∃ x : Int32 × Int32 × Int64 × Int32, True ∧ sepL [pt ld (.inr (1, [.int x.1, .int x.2.1, .long x.2.2.1, .int x.2.2.2]))] w := fun _ ⟨x, h⟩ => ⟨x, trivial, sep_sing h⟩
theorem leax_of {ld k h b : Nat} {ty : Int32} : ∀ w, sepL [LEA ld k h b ty] w → LEAx ld w := by
  rintro w ⟨w1, w2, hp, hq1, hq2⟩
  have h3 : w2 = [] := hq2
  subst h3
  rw [List.append_nil] at hp
  have h4 : w1 = [(ld, .inr (1, [.int (kI k), .int (nI h), .long (lN b), .int ty]))] := hq1
  subst h4
  exact ⟨(kI k, nI h, lN b, ty), List.perm_singleton.mp hp⟩
/-- the groups' places in the heap -/
def gad (vs : List VE) (gs : List Nat) : List Nat := gs.map fun j => (adr vs).getD j 0
theorem gad_len (vs : List VE) (gs : List Nat) : (gad vs gs).length = gs.length := List.length_map _
theorem gad_at {vs : List VE} {gs : List Nat} {j : Nat} (h : j < gs.length) : (gad vs gs).getD j 0 = (adr vs).getD (gs.getD j 0) 0 := by
  rw [gad, List.getD_eq_getElem?_getD, List.getElem?_map, List.getElem?_eq_getElem h, List.getD_eq_getElem?_getD (l := gs), List.getElem?_eq_getElem h]
  rfl
theorem adr_at {vs : List VE} {j : Nat} {e : VE} (h : vs[j]? = some e) : (adr vs).getD j 0 = e.1 := by
  rw [adr, List.getD_eq_getElem?_getD, List.getElem?_map, h]
  rfl
theorem leafQ_ref {g : GT} {z : Nat → Nat} {rd ld gr e vl np nb cap m v : Nat} {cd pl : Int32} {vs : List VE} {ex : List Asn} {gs : List Nat} : leafQ g z rd ld gr e cd pl vl vs np nb cap m ex (.inr (v, e, [], np, nb, gs)) (some (.int (nI v))) 0 0 (RDR rd ld gr e cd pl :: VLS g z vl vs np nb cap :: ex) := by
  refine ⟨[], cap, rfl, rfl, rfl, ?_, by omega, by omega, by omega, by omega⟩
  show _ = RDR rd ld gr e cd pl :: VLS g z vl (vs ++ []) np nb cap :: ex
  rw [List.append_nil]
theorem lN_of {t : Int64} {n : Nat} (h1 : 0 ≤ t.toInt) (h2 : t.toInt < n) (hn : n < 2 ^ 31) : ∃ j, j < n ∧ t = lN j ∧ t.toInt.toNat = j := by
  refine ⟨t.toInt.toNat, by omega, ?_, rfl⟩
  apply Int64.toInt_inj.mp
  rw [lN_tiB (by omega)]
  omega
set_option maxHeartbeats 4000000 in
theorem c_rd_ref {g : GT} {z : Nat → Nat} (hA : GA g z) (d rd ld gr vl tp np nb cap cap2 capG i h b : Nat) (cd pl ty : Int32) (bs : List UInt8) (vs : List VE) (gs : List Nat) (hd : 12 ≤ d) (hv : vs.length ≤ 3000) (hg : ∀ j ∈ gs, j < vs.length) (hgl : gs.length < 2 ^ 31) (he : i + (h + b) ≤ bs.length) (hb : bs.length ≤ 100000) : CtrV g mX4_readReference 3 d 0 0 rd [.ref tp, .int (nI i)] [RDR rd ld gr (i + (h + b)) cd pl, LEA ld 11 h b ty, ROW g tp bs cap2, LST g z gr (gad vs gs) capG, VLS g z vl vs np nb cap] (leafQ g z rd ld gr (i + (h + b)) cd pl vl vs np nb cap 0 [LEAx ld, ROW g tp bs cap2, LST g z gr (gad vs gs) capG] (rdRef bs i np nb gs h b)) noX := by
  refine ⟨rcv_pt, ?_⟩
  have hG := hA.1
  refine ctr_intro hG (by decide +kernel) (Nat.le_of_ble_eq_true rfl) ?_
  rintro X F rfl E B hI T
  replace E : JE X RX4 cX4_readReference 7 d 0 0 := E
  show J X _ [RDR rd ld gr (i + (h + b)) cd pl, LEA ld 11 h b ty, ROW X.1 tp bs cap2, LST X.1 z gr (gad vs gs) capG, VLS X.1 z vl vs np nb cap, F] 0 0 0 [some (.ref rd), some (.ref tp), some (.int (nI i)), none, none, none, none] []
  refine j_iload_n E 1 dX4_readReference_0 2 rfl rfl rfl ?_
  refine j_aload_n E 2 dX4_readReference_1 0 rfl rfl rfl ?_
  refine j_getf E 5 dX4_readReference_2 fl_X4_12 (by repeat (first | with_reducible exact pick_0 | with_reducible apply pick_s)) (by rfl) rfl ?_
  refine j_getfN E 8 dX4_readReference_5 fl_X4_135 (by repeat (first | with_reducible exact pick_0 | with_reducible apply pick_s)) (by rfl) rfl ?_
  refine j_iadd E 9 dX4_readReference_8 rfl ?_
  refine j_eqi (nI_add i h) ?_
  refine j_istore_n E 10 dX4_readReference_9 3 rfl (Nat.le_of_ble_eq_true rfl) rfl rfl ?_
  dsimp only [List.set]
  refine j_aload_n E 11 dX4_readReference_10 0 rfl rfl rfl ?_
  refine j_getf E 14 dX4_readReference_11 fl_X4_38 (by repeat (first | with_reducible exact pick_0 | with_reducible apply pick_s)) (by rfl) rfl ?_
  refine j_iload_n E 15 dX4_readReference_14 3 rfl rfl rfl ?_
  refine j_isub E 16 dX4_readReference_15 rfl ?_
  refine j_eqi (y := nI b) (by rw [pk_sub (by omega)]; congr 1; omega) ?_
  refine j_istore E 18 dX4_readReference_16 (Nat.le_of_ble_eq_true rfl) rfl rfl ?_
  dsimp only [List.set]
  refine j_iload E 20 dX4_readReference_18 rfl rfl ?_
  refine j_if_ne E 30 23 dX4_readReference_20 (by decide) rfl (fun h20 => ?_) (fun h20 => ?_)
  · have q0 : ¬ b = 0 := fun q => h20 (congrArg nI q)
    rw [rdRef, if_neg q0] at B
    refine j_aload_n E 31 dX4_readReference_30 0 rfl rfl rfl ?_
    refine j_getf E 34 dX4_readReference_31 fl_X4_12 (by repeat (first | with_reducible exact pick_0 | with_reducible apply pick_s)) (by rfl) rfl ?_
    refine j_aload_n E 35 dX4_readReference_34 1 rfl rfl rfl ?_
    refine j_iload_n E 36 dX4_readReference_35 3 rfl rfl rfl ?_
    refine j_callV E (c_ld_look hA (d-1) ld tp cap2 (i + h) (kI 11) (nI h) ty (lN b) bs (by omega) (by omega) hb) 39 dX4_readReference_36 _ _ _ iv_X4_65 rfl rfl rfl (by repeat (first | with_reducible exact pick_0 | with_reducible apply pick_s | exact sel_0 | apply sel_s)) (by omega) (by omega) (by omega) (Nat.le_of_ble_eq_true rfl) rfl ?_
    rintro _ _ _ _ ⟨rfl, rfl, rfl, rfl⟩
    dsimp only [List.cons_append, List.nil_append, Option.toList]
    obtain ⟨L, hL⟩ : ∃ L, L = lead bs (i + h) := ⟨_, rfl⟩
    have hok := lead_ok bs (i + h)
    have hsm := lead_small (bs := bs) (i := i + h)
    rw [← hL] at B hok hsm ⊢
    obtain ⟨k2, h2, b2, t2⟩ := L
    dsimp only at B hok hsm ⊢
    have ebad : (¬ (k2 = 2 ∧ ownB k2 h2 b2 = b) ∨ ¬ (0 ≤ (intV bs (i + h) b2).toInt ∧ (intV bs (i + h) b2).toInt < gs.length)) → (if k2 = 2 ∧ ownB k2 h2 b2 = b then (if 0 ≤ (intV bs (i + h) b2).toInt ∧ (intV bs (i + h) b2).toInt < gs.length then (Sum.inr (gs.getD (intV bs (i + h) b2).toInt.toNat 0, i + (h + b), [], np, nb, gs) : RO) else .inl (5, i)) else .inl (5, i)) = .inl (5, i) := by
      intro q
      rcases q with q | q
      · rw [if_neg q]
      · rw [if_neg q, ite_self]
    have bad : (¬ (k2 = 2 ∧ ownB k2 h2 b2 = b) ∨ ¬ (0 ≤ (intV bs (i + h) b2).toInt ∧ (intV bs (i + h) b2).toInt < gs.length)) → J X 7 [RDR rd ld gr (i + (h + b)) cd pl, LEA ld k2 h2 b2 t2, ROW X.1 tp bs cap2, LST X.1 z gr (gad vs gs) capG, VLS X.1 z vl vs np nb cap, F] 0 0 64 [some (.ref rd), some (.ref tp), some (.int (nI i)), some (.int (nI (i + h))), some (.int (nI b)), none, none] [] := by
      intro q
      rw [ebad q] at B
      refine j_aload_n E 65 dX4_readReference_64 0 rfl rfl rfl ?_
      refine j_iconst E (5) 66 dX4_readReference_65 (by decide) rfl ?_
      refine j_iload_n E 67 dX4_readReference_66 2 rfl rfl rfl ?_
      refine j_callV E (c_rd_refuse hG (d-1) rd ld gr (i + (h + b)) cd pl (nI 5) (nI i)) 70 dX4_readReference_67 _ _ _ iv_X4_54 rfl rfl rfl (by repeat (first | with_reducible exact pick_0 | with_reducible apply pick_s | exact sel_0 | apply sel_s)) (by omega) (by omega) (by omega) (Nat.le_of_ble_eq_true rfl) rfl ?_
      rintro _ _ _ _ ⟨rfl, rfl, rfl, rfl⟩
      dsimp only [List.cons_append, List.nil_append, Option.toList]
      refine j_close (by repeat (first | with_reducible exact pick_0 | with_reducible apply pick_s | exact sel_0 | apply sel_s)) (leax_of (ld := ld) (k := k2) (h := h2) (b := b2) (ty := t2)) ?_
      exact j_iret E B rfl 0 0 dX4_readReference_70 (by repeat (first | with_reducible exact pick_0 | with_reducible apply pick_s | exact sel_0 | apply sel_s)) leafQ_inl (by omega) (by omega) (by omega) (by omega)
    have bad2 : ∀ l5 : Option Value, (¬ (k2 = 2 ∧ ownB k2 h2 b2 = b) ∨ ¬ (0 ≤ (intV bs (i + h) b2).toInt ∧ (intV bs (i + h) b2).toInt < gs.length)) → J X 7 [RDR rd ld gr (i + (h + b)) cd pl, LEA ld k2 h2 b2 t2, ROW X.1 tp bs cap2, LST X.1 z gr (gad vs gs) capG, VLS X.1 z vl vs np nb cap, F] 0 0 100 [some (.ref rd), some (.ref tp), some (.int (nI i)), some (.int (nI (i + h))), some (.int (nI b)), l5, none] [] := by
      intro l5 q
      rw [ebad q] at B
      refine j_aload_n E 101 dX4_readReference_100 0 rfl rfl rfl ?_
      refine j_iconst E (5) 102 dX4_readReference_101 (by decide) rfl ?_
      refine j_iload_n E 103 dX4_readReference_102 2 rfl rfl rfl ?_
      refine j_callV E (c_rd_refuse hG (d-1) rd ld gr (i + (h + b)) cd pl (nI 5) (nI i)) 106 dX4_readReference_103 _ _ _ iv_X4_54 rfl rfl rfl (by repeat (first | with_reducible exact pick_0 | with_reducible apply pick_s | exact sel_0 | apply sel_s)) (by omega) (by omega) (by omega) (Nat.le_of_ble_eq_true rfl) rfl ?_
      rintro _ _ _ _ ⟨rfl, rfl, rfl, rfl⟩
      dsimp only [List.cons_append, List.nil_append, Option.toList]
      refine j_close (by repeat (first | with_reducible exact pick_0 | with_reducible apply pick_s | exact sel_0 | apply sel_s)) (leax_of (ld := ld) (k := k2) (h := h2) (b := b2) (ty := t2)) ?_
      exact j_iret E B rfl 0 0 dX4_readReference_106 (by repeat (first | with_reducible exact pick_0 | with_reducible apply pick_s | exact sel_0 | apply sel_s)) leafQ_inl (by omega) (by omega) (by omega) (by omega)
    refine j_aload_n E 40 dX4_readReference_39 0 rfl rfl rfl ?_
    refine j_getf E 43 dX4_readReference_40 fl_X4_12 (by repeat (first | with_reducible exact pick_0 | with_reducible apply pick_s)) (by rfl) rfl ?_
    refine j_getfN E 46 dX4_readReference_43 fl_X4_69 (by repeat (first | with_reducible exact pick_0 | with_reducible apply pick_s)) (by rfl) rfl ?_
    refine j_iconst E (2) 47 dX4_readReference_46 (by decide) rfl ?_
    refine j_icmp_ne E 64 50 dX4_readReference_47 (by decide) rfl (fun h47 => ?_) (fun h47 => ?_)
    · have q2 : ¬ k2 = 2 := fun q => h47 ((kI_eq hok.1 (b := 2) (by decide)).mpr q)
      exact j_sel (by repeat (first | with_reducible exact pick_0 | with_reducible apply pick_s | exact sel_0 | apply sel_s)) (bad (Or.inl (fun q => q2 q.1)))
    · have q2 : k2 = 2 := (kI_eq hok.1 (b := 2) (by decide)).mp h47
      refine j_aload_n E 51 dX4_readReference_50 0 rfl rfl rfl ?_
      refine j_getf E 54 dX4_readReference_51 fl_X4_12 (by repeat (first | with_reducible exact pick_0 | with_reducible apply pick_s)) (by rfl) rfl ?_
      refine j_callV E (c_ld_own hG (d-1) ld k2 h2 b2 t2 hok.1 (by omega) (by omega)) 57 dX4_readReference_54 _ _ _ iv_X4_72 rfl rfl rfl (by repeat (first | with_reducible exact pick_0 | with_reducible apply pick_s | exact sel_0 | apply sel_s)) (by omega) (by omega) (by omega) (Nat.le_of_ble_eq_true rfl) rfl ?_
      rintro _ _ _ _ ⟨rfl, rfl, rfl, rfl⟩
      dsimp only [List.cons_append, List.nil_append, Option.toList]
      refine j_iload E 59 dX4_readReference_57 rfl rfl ?_
      refine j_i2l E 60 dX4_readReference_59 rfl ?_
      rw [nI_l (by omega)]
      have hob : ownB k2 h2 b2 < 2 ^ 40 := by
        unfold ownB
        split <;> omega
      refine j_lcmp E 61 dX4_readReference_60 rfl ?_
      refine j_if_eq E 71 64 dX4_readReference_61 (by decide) rfl (fun h61 => ?_) (fun h61 => ?_)
      · have q3 : ownB k2 h2 b2 = b := (lN_eqB (by omega) (by omega)).mp ((lg_cmp_eq _ _).mp h61)
        have q4 : h2 + b2 = b := by rw [← q3, ownB, if_neg (by omega)]
        have hb8 := hsm (by omega)
        refine j_aload_n E 72 dX4_readReference_71 0 rfl rfl rfl ?_
        refine j_aload_n E 73 dX4_readReference_72 1 rfl rfl rfl ?_
        refine j_iload_n E 74 dX4_readReference_73 3 rfl rfl rfl ?_
        refine j_callV E (c_rd_int hG (d-1) rd ld gr (i + (h + b)) tp cap2 (i + h) k2 h2 b2 cd pl t2 bs (by omega) hb8 (by omega) hb) 77 dX4_readReference_74 _ _ _ iv_X4_169 rfl rfl rfl (by repeat (first | with_reducible exact pick_0 | with_reducible apply pick_s | exact sel_0 | apply sel_s)) (by omega) (by omega) (by omega) (Nat.le_of_ble_eq_true rfl) rfl ?_
        rintro _ _ _ _ ⟨rfl, rfl, rfl, rfl⟩
        dsimp only [List.cons_append, List.nil_append, Option.toList]
        refine j_lstore E 79 dX4_readReference_77 (Nat.le_of_ble_eq_true rfl) rfl rfl ?_
        dsimp only [List.set]
        obtain ⟨tv, htv⟩ : ∃ tv, tv = intV bs (i + h) b2 := ⟨_, rfl⟩
        rw [← htv] at B bad2 ⊢
        have hz0 : (0 : Int64).toInt = 0 := rfl
        refine j_lload E 81 dX4_readReference_79 rfl rfl ?_
        refine j_lconst E 0 82 dX4_readReference_81 rfl rfl ?_
        refine j_lcmp E 83 dX4_readReference_82 rfl ?_
        refine j_if_lt E 100 86 dX4_readReference_83 (by decide) rfl (fun h83 => ?_) (fun h83 => ?_)
        · have q5 : ¬ (0 ≤ tv.toInt ∧ tv.toInt < gs.length) := fun q => by
            have q6 := (lg_cmp_lt _ _).mp h83
            rw [fa_lt64, hz0] at q6
            omega
          exact j_sel (by repeat (first | with_reducible exact pick_0 | with_reducible apply pick_s | exact sel_0 | apply sel_s)) (bad2 _ (Or.inr q5))
        · have q5 : 0 ≤ tv.toInt := by
            rcases Int.lt_or_le tv.toInt 0 with q6 | q6
            · exact absurd ((lg_cmp_lt _ _).mpr ((fa_lt64 _ _).mpr (by rw [hz0]; exact q6))) h83
            · exact q6
          refine j_lload E 88 dX4_readReference_86 rfl rfl ?_
          refine j_aload_n E 89 dX4_readReference_88 0 rfl rfl rfl ?_
          refine j_getf E 92 dX4_readReference_89 fl_X4_21 (by repeat (first | with_reducible exact pick_0 | with_reducible apply pick_s)) (by rfl) rfl ?_
          refine j_callV E (c_lst_size hG z (d-1) gr capG (gad vs gs)) 95 dX4_readReference_92 _ _ _ iv_X4_173 rfl rfl rfl (by repeat (first | with_reducible exact pick_0 | with_reducible apply pick_s | exact sel_0 | apply sel_s)) (by omega) (by omega) (by omega) (Nat.le_of_ble_eq_true rfl) rfl ?_
          rintro _ _ _ _ ⟨rfl, rfl, rfl, rfl⟩
          dsimp only [List.cons_append, List.nil_append, Option.toList]
          rw [gad_len]
          refine j_i2l E 96 dX4_readReference_95 rfl ?_
          rw [nI_l hgl]
          refine j_lcmp E 97 dX4_readReference_96 rfl ?_
          refine j_if_lt E 107 100 dX4_readReference_97 (by decide) rfl (fun h97 => ?_) (fun h97 => ?_)
          · have q6 : tv.toInt < gs.length := by
              have q7 := (lg_cmp_lt _ _).mp h97
              rw [fa_lt64, lN_tiB (by omega)] at q7
              exact q7
            rw [if_pos ⟨q2, q3⟩, if_pos ⟨q5, q6⟩] at B
            obtain ⟨j, hj, ej, ej2⟩ := lN_of q5 q6 hgl
            rw [ej2] at B
            refine j_aload_n E 108 dX4_readReference_107 0 rfl rfl rfl ?_
            refine j_getf E 111 dX4_readReference_108 fl_X4_21 (by repeat (first | with_reducible exact pick_0 | with_reducible apply pick_s)) (by rfl) rfl ?_
            refine j_lload E 113 dX4_readReference_111 rfl rfl ?_
            refine j_l2i E 114 dX4_readReference_113 rfl ?_
            rw [ej, lN_i]
            obtain ⟨mm, hmm⟩ : ∃ mm, mm = gs.getD j 0 := ⟨_, rfl⟩
            rw [← hmm] at B
            have hmv : mm < vs.length := hg mm (by rw [hmm, List.getD_eq_getElem?_getD, List.getElem?_eq_getElem hj]; exact List.getElem_mem hj)
            obtain ⟨en, hen⟩ : ∃ en, vs[mm]? = some en := ⟨_, List.getElem?_eq_getElem hmv⟩
            refine j_callV E (c_lst_get hG z (d-1) gr capG j (gad vs gs) (by omega) (by rw [gad_len]; exact hj) (by rw [gad_len]; exact hgl)) 117 dX4_readReference_114 _ _ _ iv_X4_174 rfl rfl rfl (by repeat (first | with_reducible exact pick_0 | with_reducible apply pick_s | exact sel_0 | apply sel_s)) (by omega) (by omega) (by omega) (Nat.le_of_ble_eq_true rfl) rfl ?_
            rintro _ _ _ _ ⟨rfl, rfl, rfl, rfl⟩
            dsimp only [List.cons_append, List.nil_append, Option.toList]
            rw [gad_at hj, ← hmm, adr_at hen]
            refine j_open (P := VLS X.1 z vl vs np nb cap) (by repeat (first | with_reducible exact pick_0 | with_reducible apply pick_s)) vls_open ?_
            rintro al -
            dsimp only [VLSo, List.cons_append, List.nil_append]
            refine j_open (P := VSL X.1 z 0 vs) (by repeat (first | with_reducible exact pick_0 | with_reducible apply pick_s)) (vsl_open hen) ?_
            rintro _ -
            dsimp only [List.cons_append, List.nil_append]
            refine j_open (P := VAL X.1 z en.1 mm en.2.1 en.2.2) (by repeat (first | with_reducible exact pick_0 | with_reducible apply pick_s)) valc_open ?_
            rintro ⟨bq, pq, xf⟩ hx
            dsimp only [VALo, List.cons_append, List.nil_append] at hx ⊢
            refine j_castV E 120 dX4_readReference_117 cc_X4_131 rfl (has_rcv (by repeat (first | with_reducible exact pick_0 | with_reducible apply pick_s)) has_pt) rfl ?_
            refine j_getfF E 123 dX4_readReference_120 fl_X4_178 (by repeat (first | with_reducible exact pick_0 | with_reducible apply pick_s)) (by rfl) rfl ?_
            refine valc_close en.2.1 _ (by repeat (first | with_reducible exact pick_0 | with_reducible apply pick_s | exact sel_0 | apply sel_s)) rfl hx ?_
            refine j_close (by repeat (first | with_reducible exact pick_0 | with_reducible apply pick_s | exact sel_0 | apply sel_s)) (vsl_back hen) ?_
            refine j_close (by repeat (first | with_reducible exact pick_0 | with_reducible apply pick_s | exact sel_0 | apply sel_s)) vls_of ?_
            refine j_close (by repeat (first | with_reducible exact pick_0 | with_reducible apply pick_s | exact sel_0 | apply sel_s)) (leax_of (ld := ld) (k := k2) (h := h2) (b := b2) (ty := t2)) ?_
            exact j_iret E B rfl 0 0 dX4_readReference_123 (by repeat (first | with_reducible exact pick_0 | with_reducible apply pick_s | exact sel_0 | apply sel_s)) leafQ_ref (by omega) (by omega) (by omega) (by omega)
          · have q6 : ¬ tv.toInt < gs.length := fun q7 => h97 ((lg_cmp_lt _ _).mpr ((fa_lt64 _ _).mpr (by rw [lN_tiB (by omega)]; exact q7)))
            exact j_sel (by repeat (first | with_reducible exact pick_0 | with_reducible apply pick_s | exact sel_0 | apply sel_s)) (bad2 _ (Or.inr (fun q => q6 q.2)))
      · have q3 : ¬ ownB k2 h2 b2 = b := fun q => h61 ((lg_cmp_eq _ _).mpr ((lN_eqB (by omega) (by omega)).mpr q))
        exact j_sel (by repeat (first | with_reducible exact pick_0 | with_reducible apply pick_s | exact sel_0 | apply sel_s)) (bad (Or.inl (fun q => q3 q.2)))
  · have q0 : b = 0 := (nI_eq (by omega) (by omega)).mp h20
    rw [rdRef, if_pos q0] at B
    refine j_aload_n E 24 dX4_readReference_23 0 rfl rfl rfl ?_
    refine j_iconst E (5) 25 dX4_readReference_24 (by decide) rfl ?_
    refine j_iload_n E 26 dX4_readReference_25 2 rfl rfl rfl ?_
    refine j_callV E (c_rd_refuse hG (d-1) rd ld gr (i + (h + b)) cd pl (nI 5) (nI i)) 29 dX4_readReference_26 _ _ _ iv_X4_54 rfl rfl rfl (by repeat (first | with_reducible exact pick_0 | with_reducible apply pick_s | exact sel_0 | apply sel_s)) (by omega) (by omega) (by omega) (Nat.le_of_ble_eq_true rfl) rfl ?_
    rintro _ _ _ _ ⟨rfl, rfl, rfl, rfl⟩
    dsimp only [List.cons_append, List.nil_append, Option.toList]
    refine j_close (by repeat (first | with_reducible exact pick_0 | with_reducible apply pick_s | exact sel_0 | apply sel_s)) (leax_of (ld := ld) (k := 11) (h := h) (b := b) (ty := ty)) ?_
    exact j_iret E B rfl 0 0 dX4_readReference_29 (by repeat (first | with_reducible exact pick_0 | with_reducible apply pick_s | exact sel_0 | apply sel_s)) leafQ_inl (by omega) (by omega) (by omega) (by omega)

/-! skip: pure, and the class -/
def skV (bs : List UInt8) : Nat → Nat → Nat → Option Nat
  | 0, i, u => if u = 0 then some i else none
  | f + 1, i, u =>
    if u = 0 then some i
    else if bs.length ≤ i then none
    else if (lead bs i).1 = 12 then none
    else if bs.length - i < ownB (lead bs i).1 (lead bs i).2.1 (lead bs i).2.2.1 then none
    else skV bs f (i + ownB (lead bs i).1 (lead bs i).2.1 (lead bs i).2.2.1) (if (lead bs i).1 = 7 ∨ (lead bs i).1 = 8 then u - 1 + (lead bs i).2.2.1 else u - 1)
theorem skV_0 {bs : List UInt8} {i : Nat} : ∀ {f : Nat}, skV bs f i 0 = some i
  | 0 => rfl
  | _ + 1 => rfl
theorem skV_s {bs : List UInt8} {f i u : Nat} (h : 0 < u) : skV bs (f + 1) i u = if bs.length ≤ i then none else if (lead bs i).1 = 12 then none else if bs.length - i < ownB (lead bs i).1 (lead bs i).2.1 (lead bs i).2.2.1 then none else skV bs f (i + ownB (lead bs i).1 (lead bs i).2.1 (lead bs i).2.2.1) (if (lead bs i).1 = 7 ∨ (lead bs i).1 = 8 then u - 1 + (lead bs i).2.2.1 else u - 1) := by
  rw [skV, if_neg (by omega)]
/-- a place, or none -/
def oI (o : Option Nat) : Int32 := match o with
  | none => -1
  | some n => nI n
set_option maxHeartbeats 4000000 in
theorem c_rd_init {g : GT} {z : Nat → Nat} (hA : GA g z) (d : Nat) (hd : 4 ≤ d) (rd : Nat) : Ctr g mX4_init d 2 7 [.ref rd] [pt rd (.inr (3, [.null, .null, .int 0, .int 0, .int 0]))] (fun o dc ds ws' => ∃ ld gr, o = none ∧ dc ≤ 2 ∧ ds ≤ 7 ∧ ws' = [RDR rd ld gr 0 0 0, LEAx ld, LST g z gr [] 0]) noX := by
  have hG := hA.1
  refine ctr_intro hG (by decide +kernel) (Nat.le_of_ble_eq_true rfl) ?_
  rintro X F rfl E B hI T
  replace E : JE X RX4 cX4_init 1 d 2 7 := E
  show J X _ [pt rd (.inr (3, [.null, .null, .int 0, .int 0, .int 0])), F] 0 0 0 [some (.ref rd)] []
  refine j_aload_n E 1 dX4_init_0 0 rfl rfl rfl ?_
  refine j_objI E 4 dX4_init_1 ob_X4 ob_inst ob_code (Nat.le_of_ble_eq_true rfl) (by omega) rfl ?_
  refine j_aload_n E 5 dX4_init_4 0 rfl rfl rfl ?_
  refine j_new E 8 dX4_init_5 nw_X4_9 (by omega) (by omega) rfl (fun ld => ?_)
  refine j_dup E 9 dX4_init_8 rfl rfl ?_
  refine j_callIn E (c_ld_init hG (d-1) (by omega) ld) 12 dX4_init_9 iv_X4_11 rfl rfl (by repeat (first | with_reducible exact pick_0 | with_reducible apply pick_s | exact sel_0 | apply sel_s)) (by omega) (by omega) (by omega) (Nat.le_of_ble_eq_true rfl) rfl ?_
  rintro _ _ _ _ ⟨rfl, rfl, rfl, rfl⟩
  dsimp only [List.cons_append, List.nil_append, Option.toList]
  refine j_putfF E (hI rfl) 15 dX4_init_12 fl_X4_12 (by repeat (first | with_reducible exact pick_0 | with_reducible apply pick_s)) rfl rfl (Nat.le_of_ble_eq_true rfl) rfl ?_
  dsimp only [List.set]
  refine j_aload_n E 16 dX4_init_15 0 rfl rfl rfl ?_
  refine j_new E 19 dX4_init_16 nw_X4_18 (by omega) (by omega) rfl (fun gr => ?_)
  refine j_dup E 20 dX4_init_19 rfl rfl ?_
  refine j_callI E (c_lst_init (z := z) hA (d-1) (by omega) gr) 23 dX4_init_20 iv_X4_20 rfl rfl (by repeat (first | with_reducible exact pick_0 | with_reducible apply pick_s | exact sel_0 | apply sel_s)) (by omega) (by omega) (by omega) (Nat.le_of_ble_eq_true rfl) rfl ?_
  rintro _ _ _ _ ⟨rfl, rfl, rfl, rfl⟩
  dsimp only [List.cons_append, List.nil_append, Option.toList]
  refine j_putfF E (hI rfl) 26 dX4_init_23 fl_X4_21 (by repeat (first | with_reducible exact pick_0 | with_reducible apply pick_s)) rfl rfl (Nat.le_of_ble_eq_true rfl) rfl ?_
  dsimp only [List.set]
  refine j_close (by repeat (first | with_reducible exact pick_0 | with_reducible apply pick_s | exact sel_0 | apply sel_s)) (leax_of (ld := ld) (k := 0) (h := 0) (b := 0) (ty := 0)) ?_
  have hs : Sel [LEAx ld, RDR rd ld gr 0 0 0, LST X.1 z gr [] 0, F] [RDR rd ld gr 0 0 0, LEAx ld, LST X.1 z gr [] 0, F] [] := sel_s (pick_s pick_0) (sel_s pick_0 (sel_s pick_0 (sel_s pick_0 sel_0)))
  refine j_sel (fr := []) (pre := [RDR rd ld gr 0 0 0, LEAx ld, LST X.1 z gr [] 0, F]) (fun w hw => hs w hw) ?_
  exact j_vret E B rfl 2 7 dX4_init_26 (by repeat (first | with_reducible exact pick_0 | with_reducible apply pick_s | exact sel_0 | apply sel_s)) ⟨ld, gr, rfl, by omega, by omega, rfl⟩ (by omega) (by omega) (by omega) (by omega)
set_option maxHeartbeats 8000000 in
theorem c_rd_end {g : GT} {z : Nat → Nat} (hA : GA g z) (d rd ld gr e0 tp cap i0 : Nat) (cd pl : Int32) (bs : List UInt8) (hd : 8 ≤ d) (hi : i0 ≤ bs.length) (hb : bs.length ≤ 100000) : CtrV g mX4_endOfValue 3 d 0 0 rd [.ref tp, .int (nI i0)] [RDR rd ld gr e0 cd pl, LEAx ld, ROW g tp bs cap] (fun o dc ds ws' => o = some (.int (oI (skV bs (bs.length - i0) i0 1))) ∧ dc = 0 ∧ ds = 0 ∧ ws' = [RDR rd ld gr e0 cd pl, LEAx ld, ROW g tp bs cap]) noX := by
  refine ⟨rcv_pt, ?_⟩
  have hG := hA.1
  refine ctr_intro hG (by decide +kernel) (Nat.le_of_ble_eq_true rfl) ?_
  rintro X F rfl E B hI T
  replace E : JE X RX4 cX4_endOfValue 7 d 0 0 := E
  show J X _ [RDR rd ld gr e0 cd pl, LEAx ld, ROW X.1 tp bs cap, F] 0 0 0 [some (.ref rd), some (.ref tp), some (.int (nI i0)), none, none, none, none] []
  refine j_lconst E 1 1 dX4_endOfValue_0 rfl rfl ?_
  refine j_lstore_n E 2 dX4_endOfValue_1 3 rfl (Nat.le_of_ble_eq_true rfl) rfl rfl ?_
  dsimp only [List.set]
  refine j_iload_n E 3 dX4_endOfValue_2 2 rfl rfl rfl ?_
  refine j_istore E 5 dX4_endOfValue_3 (Nat.le_of_ble_eq_true rfl) rfl rfl ?_
  dsimp only [List.set]
  refine j_iload_n E 6 dX4_endOfValue_5 2 rfl rfl rfl ?_
  refine j_istore E 8 dX4_endOfValue_6 (Nat.le_of_ble_eq_true rfl) rfl rfl ?_
  dsimp only [List.set]
  obtain ⟨R, hR⟩ : ∃ R, R = skV bs (bs.length - i0) i0 1 := ⟨_, rfl⟩
  rw [← hR] at B
  have fin : ∀ (e u : Nat) (l6 : Option Value), u < 2 ^ 62 → R = (if u = 0 then some e else none) → J X 7 [RDR rd ld gr e0 cd pl, LEAx ld, ROW X.1 tp bs cap, F] 0 0 123 [some (.ref rd), some (.ref tp), some (.int (nI i0)), some (.long (lN u)), none, some (.int (nI e)), l6] [] := by
    intro e u l6 hu hq
    rw [hq] at B
    refine j_lload_n E 124 dX4_endOfValue_123 3 rfl rfl rfl ?_
    refine j_lconst E 0 125 dX4_endOfValue_124 rfl rfl ?_
    refine j_lcmp E 126 dX4_endOfValue_125 rfl ?_
    refine j_if_ne E 134 129 dX4_endOfValue_126 (by decide) rfl (fun h126 => ?_) (fun h126 => ?_)
    · have q : ¬ u = 0 := fun q => h126 ((lg_cmp_eq _ _).mpr (by rw [q]; rfl))
      rw [if_neg q] at B
      refine j_iconst E (-1) 135 dX4_endOfValue_134 (by decide) rfl ?_
      exact j_iret E B rfl 0 0 dX4_endOfValue_135 (by repeat (first | with_reducible exact pick_0 | with_reducible apply pick_s | exact sel_0 | apply sel_s)) ⟨rfl, rfl, rfl, rfl⟩ (by omega) (by omega) (by omega) (by omega)
    · have q : u = 0 := by
        have q1 := (lg_cmp_eq _ _).mp h126
        exact (lN_eqB (b := 0) (by omega) (by decide)).mp q1
      rw [if_pos q] at B
      refine j_iload E 131 dX4_endOfValue_129 rfl rfl ?_
      refine j_goto E 135 dX4_endOfValue_131 (by decide) ?_
      exact j_iret E B rfl 0 0 dX4_endOfValue_135 (by repeat (first | with_reducible exact pick_0 | with_reducible apply pick_s | exact sel_0 | apply sel_s)) ⟨rfl, rfl, rfl, rfl⟩ (by omega) (by omega) (by omega) (by omega)
  have loop : ∀ (f e u q : Nat), q + f = bs.length → e ≤ bs.length → u + f * 2 ^ 34 < 2 ^ 60 → R = skV bs f e u → J X 7 [RDR rd ld gr e0 cd pl, LEAx ld, ROW X.1 tp bs cap, F] 0 0 8 [some (.ref rd), some (.ref tp), some (.int (nI i0)), some (.long (lN u)), none, some (.int (nI e)), some (.int (nI q))] [] := by
    intro f
    induction f with
    | zero =>
      intro e u q hq he hu hf
      refine j_iload E 10 dX4_endOfValue_8 rfl rfl ?_
      refine j_aload_n E 11 dX4_endOfValue_10 1 rfl rfl rfl ?_
      refine j_callV E (c_row_size hG (d-1) tp cap bs) 14 dX4_endOfValue_11 _ _ _ iv_X4_51 rfl rfl rfl (by repeat (first | with_reducible exact pick_0 | with_reducible apply pick_s | exact sel_0 | apply sel_s)) (by omega) (by omega) (by omega) (Nat.le_of_ble_eq_true rfl) rfl ?_
      rintro _ _ _ _ ⟨rfl, rfl, rfl, rfl⟩
      dsimp only [List.cons_append, List.nil_append, Option.toList]
      refine j_icmp_ge E 123 17 dX4_endOfValue_14 (by decide) rfl (fun h14 => ?_) (fun h14 => ?_)
      · exact j_sel (by repeat (first | with_reducible exact pick_0 | with_reducible apply pick_s | exact sel_0 | apply sel_s)) (fin e u _ (by omega) hf)
      · exact absurd (nI_le (by omega) (by omega)) h14
    | succ f ih =>
      intro e u q hq he hu hf
      refine j_iload E 10 dX4_endOfValue_8 rfl rfl ?_
      refine j_aload_n E 11 dX4_endOfValue_10 1 rfl rfl rfl ?_
      refine j_callV E (c_row_size hG (d-1) tp cap bs) 14 dX4_endOfValue_11 _ _ _ iv_X4_51 rfl rfl rfl (by repeat (first | with_reducible exact pick_0 | with_reducible apply pick_s | exact sel_0 | apply sel_s)) (by omega) (by omega) (by omega) (Nat.le_of_ble_eq_true rfl) rfl ?_
      rintro _ _ _ _ ⟨rfl, rfl, rfl, rfl⟩
      dsimp only [List.cons_append, List.nil_append, Option.toList]
      refine j_icmp_ge E 123 17 dX4_endOfValue_14 (by decide) rfl (fun h14 => ?_) (fun h14 => ?_)
      · exact absurd h14 (nI_ge (by omega) (by omega))
      · refine j_lload_n E 18 dX4_endOfValue_17 3 rfl rfl rfl ?_
        refine j_lconst E 0 19 dX4_endOfValue_18 rfl rfl ?_
        refine j_lcmp E 20 dX4_endOfValue_19 rfl ?_
        refine j_if_le E 123 23 dX4_endOfValue_20 (by decide) rfl (fun h20 => ?_) (fun h20 => ?_)
        · have qu : ¬ 0 < u := fun q => absurd ((lg_cmp_le _ _).mp h20) (by
            intro q2
            have := (lN_leB (a := u) (b := 0) (by omega) (by decide)).mp q2
            omega)
          have q0 : u = 0 := by omega
          subst q0
          rw [skV_0] at hf
          exact j_sel (by repeat (first | with_reducible exact pick_0 | with_reducible apply pick_s | exact sel_0 | apply sel_s)) (fin e 0 _ (by decide) hf)
        · have qu : 0 < u := Nat.lt_of_not_le fun q => h20 ((lg_cmp_le _ _).mpr ((lN_leB (a := u) (b := 0) (by omega) (by decide)).mpr q))
          rw [skV_s qu] at hf
          refine j_iload E 25 dX4_endOfValue_23 rfl rfl ?_
          refine j_aload_n E 26 dX4_endOfValue_25 1 rfl rfl rfl ?_
          refine j_callV E (c_row_size hG (d-1) tp cap bs) 29 dX4_endOfValue_26 _ _ _ iv_X4_51 rfl rfl rfl (by repeat (first | with_reducible exact pick_0 | with_reducible apply pick_s | exact sel_0 | apply sel_s)) (by omega) (by omega) (by omega) (Nat.le_of_ble_eq_true rfl) rfl ?_
          rintro _ _ _ _ ⟨rfl, rfl, rfl, rfl⟩
          dsimp only [List.cons_append, List.nil_append, Option.toList]
          refine j_icmp_lt E 34 32 dX4_endOfValue_29 (by decide) rfl (fun h29 => ?_) (fun h29 => ?_)
          · have q29 : e < (bs.length) := (nI_ltI (a := e) (b := (bs.length)) (by omega) (by omega)).mp h29
            rw [if_neg (by omega)] at hf
            refine j_open (P := LEAx ld) (by repeat (first | with_reducible exact pick_0 | with_reducible apply pick_s)) leax_open ?_
            rintro ⟨k9, h9, b9, t9⟩ -
            dsimp only [List.cons_append, List.nil_append]
            refine j_aload_n E 35 dX4_endOfValue_34 0 rfl rfl rfl ?_
            refine j_getf E 38 dX4_endOfValue_35 fl_X4_12 (by repeat (first | with_reducible exact pick_0 | with_reducible apply pick_s)) (by rfl) rfl ?_
            refine j_aload_n E 39 dX4_endOfValue_38 1 rfl rfl rfl ?_
            refine j_iload E 41 dX4_endOfValue_39 rfl rfl ?_
            refine j_callV E (c_ld_look hA (d-1) ld tp cap e k9 h9 t9 b9 bs (by omega) q29 hb) 44 dX4_endOfValue_41 _ _ _ iv_X4_65 rfl rfl rfl (by repeat (first | with_reducible exact pick_0 | with_reducible apply pick_s | exact sel_0 | apply sel_s)) (by omega) (by omega) (by omega) (Nat.le_of_ble_eq_true rfl) rfl ?_
            rintro _ _ _ _ ⟨rfl, rfl, rfl, rfl⟩
            dsimp only [List.cons_append, List.nil_append, Option.toList]
            have hlk := lead_ok bs e
            obtain ⟨L, hL⟩ : ∃ L, L = lead bs e := ⟨_, rfl⟩
            rw [← hL] at hf hlk ⊢
            obtain ⟨k, h, b, ty⟩ := L
            dsimp only at hf hlk ⊢
            have bad : R = none → J X 7 [LEA ld k h b ty, ROW X.1 tp bs cap, RDR rd ld gr e0 cd pl, F] 0 0 74 [some (.ref rd), some (.ref tp), some (.int (nI i0)), some (.long (lN u)), none, some (.int (nI e)), some (.int (nI q))] [] := by
              intro hn
              rw [hn] at B
              refine j_close (by repeat (first | with_reducible exact pick_0 | with_reducible apply pick_s | exact sel_0 | apply sel_s)) (leax_of (ld := ld) (k := k) (h := h) (b := b) (ty := ty)) ?_
              refine j_iconst E (-1) 75 dX4_endOfValue_74 (by decide) rfl ?_
              exact j_iret E B rfl 0 0 dX4_endOfValue_75 (by repeat (first | with_reducible exact pick_0 | with_reducible apply pick_s | exact sel_0 | apply sel_s)) ⟨rfl, rfl, rfl, rfl⟩ (by omega) (by omega) (by omega) (by omega)
            refine j_aload_n E 45 dX4_endOfValue_44 0 rfl rfl rfl ?_
            refine j_getf E 48 dX4_endOfValue_45 fl_X4_12 (by repeat (first | with_reducible exact pick_0 | with_reducible apply pick_s)) (by rfl) rfl ?_
            refine j_getfN E 51 dX4_endOfValue_48 fl_X4_69 (by repeat (first | with_reducible exact pick_0 | with_reducible apply pick_s)) (by rfl) rfl ?_
            refine j_iconst E (-1) 52 dX4_endOfValue_51 (by decide) rfl ?_
            refine j_icmp_eq E 74 55 dX4_endOfValue_52 (by decide) rfl (fun h52 => ?_) (fun h52 => ?_)
            · have qk : k = 12 := (kI_eq hlk.1 (b := 12) (by decide)).mp h52
              rw [if_pos qk] at hf
              exact j_sel (by repeat (first | with_reducible exact pick_0 | with_reducible apply pick_s | exact sel_0 | apply sel_s)) (bad hf)
            · have qk : ¬ k = 12 := fun q => h52 ((kI_eq hlk.1 (b := 12) (by decide)).mpr q)
              rw [if_neg qk] at hf
              have hob : ownB k h b < 2 ^ 40 := by
                unfold ownB
                split <;> omega
              refine j_aload_n E 56 dX4_endOfValue_55 0 rfl rfl rfl ?_
              refine j_getf E 59 dX4_endOfValue_56 fl_X4_12 (by repeat (first | with_reducible exact pick_0 | with_reducible apply pick_s)) (by rfl) rfl ?_
              refine j_callV E (c_ld_own hG (d-1) ld k h b ty hlk.1 (by omega) (by omega)) 62 dX4_endOfValue_59 _ _ _ iv_X4_72 rfl rfl rfl (by repeat (first | with_reducible exact pick_0 | with_reducible apply pick_s | exact sel_0 | apply sel_s)) (by omega) (by omega) (by omega) (Nat.le_of_ble_eq_true rfl) rfl ?_
              rintro _ _ _ _ ⟨rfl, rfl, rfl, rfl⟩
              dsimp only [List.cons_append, List.nil_append, Option.toList]
              refine j_aload_n E 63 dX4_endOfValue_62 1 rfl rfl rfl ?_
              refine j_callV E (c_row_size hG (d-1) tp cap bs) 66 dX4_endOfValue_63 _ _ _ iv_X4_51 rfl rfl rfl (by repeat (first | with_reducible exact pick_0 | with_reducible apply pick_s | exact sel_0 | apply sel_s)) (by omega) (by omega) (by omega) (Nat.le_of_ble_eq_true rfl) rfl ?_
              rintro _ _ _ _ ⟨rfl, rfl, rfl, rfl⟩
              dsimp only [List.cons_append, List.nil_append, Option.toList]
              refine j_iload E 68 dX4_endOfValue_66 rfl rfl ?_
              refine j_isub E 69 dX4_endOfValue_68 rfl ?_
              refine j_eqi (y := nI (bs.length - e)) (pk_sub (by omega)) ?_
              refine j_i2l E 70 dX4_endOfValue_69 rfl ?_
              rw [nI_l (by omega)]
              refine j_lcmp E 71 dX4_endOfValue_70 rfl ?_
              refine j_if_le E 76 74 dX4_endOfValue_71 (by decide) rfl (fun h71 => ?_) (fun h71 => ?_)
              · have qo : ownB k h b ≤ bs.length - e := (lN_leB (by omega) (by omega)).mp ((lg_cmp_le _ _).mp h71)
                rw [if_neg (by omega)] at hf
                refine j_iload E 78 dX4_endOfValue_76 rfl rfl ?_
                refine j_aload_n E 79 dX4_endOfValue_78 0 rfl rfl rfl ?_
                refine j_getf E 82 dX4_endOfValue_79 fl_X4_12 (by repeat (first | with_reducible exact pick_0 | with_reducible apply pick_s)) (by rfl) rfl ?_
                refine j_callV E (c_ld_own hG (d-1) ld k h b ty hlk.1 (by omega) (by omega)) 85 dX4_endOfValue_82 _ _ _ iv_X4_72 rfl rfl rfl (by repeat (first | with_reducible exact pick_0 | with_reducible apply pick_s | exact sel_0 | apply sel_s)) (by omega) (by omega) (by omega) (Nat.le_of_ble_eq_true rfl) rfl ?_
                rintro _ _ _ _ ⟨rfl, rfl, rfl, rfl⟩
                dsimp only [List.cons_append, List.nil_append, Option.toList]
                refine j_l2i E 86 dX4_endOfValue_85 rfl ?_
                rw [lN_i]
                refine j_iadd E 87 dX4_endOfValue_86 rfl ?_
                refine j_eqi (nI_add e (ownB k h b)) ?_
                refine j_istore E 89 dX4_endOfValue_87 (Nat.le_of_ble_eq_true rfl) rfl rfl ?_
                dsimp only [List.set]
                refine j_lload_n E 90 dX4_endOfValue_89 3 rfl rfl rfl ?_
                refine j_aload_n E 91 dX4_endOfValue_90 0 rfl rfl rfl ?_
                refine j_getf E 94 dX4_endOfValue_91 fl_X4_12 (by repeat (first | with_reducible exact pick_0 | with_reducible apply pick_s)) (by rfl) rfl ?_
                refine j_callV E (c_ld_isGroup hG (d-1) ld k h b ty hlk.1) 97 dX4_endOfValue_94 _ _ _ iv_X4_76 rfl rfl rfl (by repeat (first | with_reducible exact pick_0 | with_reducible apply pick_s | exact sel_0 | apply sel_s)) (by omega) (by omega) (by omega) (Nat.le_of_ble_eq_true rfl) rfl ?_
                rintro _ _ _ _ ⟨rfl, rfl, rfl, rfl⟩
                dsimp only [List.cons_append, List.nil_append, Option.toList]
                by_cases qg : k = 7 ∨ k = 8
                · rw [if_pos qg] at hf ⊢
                  refine j_if_eq E 112 100 dX4_endOfValue_97 (by decide) rfl (fun h97 => ?_) (fun h97 => ?_)
                  · exact absurd h97 (by decide)
                  · refine j_aload_n E 101 dX4_endOfValue_100 0 rfl rfl rfl ?_
                    refine j_getf E 104 dX4_endOfValue_101 fl_X4_12 (by repeat (first | with_reducible exact pick_0 | with_reducible apply pick_s)) (by rfl) rfl ?_
                    refine j_getfN E 107 dX4_endOfValue_104 fl_X4_80 (by repeat (first | with_reducible exact pick_0 | with_reducible apply pick_s)) (by rfl) rfl ?_
                    refine j_lconst E 1 108 dX4_endOfValue_107 rfl rfl ?_
                    refine j_lsub E 109 dX4_endOfValue_108 rfl ?_
                    refine j_goto E 115 dX4_endOfValue_109 (by decide) ?_
                    refine j_ladd E 116 dX4_endOfValue_115 rfl ?_
                    refine j_eql (y := lN (u - 1 + b)) ?_ ?_
                    · rw [show (1 : Int64) = lN 1 from rfl]
                      have e1 : lN u = lN (u - 1) + lN 1 := by rw [lN_add]; congr 1; omega
                      have e2 : lN (u - 1) + lN b = lN (u - 1 + b) := lN_add _ _
                      rw [← e2, e1, Int64.add_assoc, Int64.add_comm (lN 1) _, Int64.sub_add_cancel]
                    · refine j_lstore_n E 117 dX4_endOfValue_116 3 rfl (Nat.le_of_ble_eq_true rfl) rfl rfl ?_
                      dsimp only [List.set]
                      refine j_iinc E _ 120 dX4_endOfValue_117 rfl rfl (Nat.le_of_ble_eq_true rfl) rfl rfl ?_
                      dsimp only [List.set]
                      refine j_goto E 8 dX4_endOfValue_120 (by decide) ?_
                      refine j_close (by repeat (first | with_reducible exact pick_0 | with_reducible apply pick_s | exact sel_0 | apply sel_s)) (leax_of (ld := ld) (k := k) (h := h) (b := b) (ty := ty)) ?_
                      have hz := ih (e + ownB k h b) (u - 1 + b) (q + 1) (by omega) (by omega) (by omega) hf
                      rw [← nI_1] at hz
                      exact j_sel (by repeat (first | with_reducible exact pick_0 | with_reducible apply pick_s | exact sel_0 | apply sel_s)) hz
                · rw [if_neg qg] at hf ⊢
                  refine j_if_eq E 112 100 dX4_endOfValue_97 (by decide) rfl (fun h97 => ?_) (fun h97 => ?_)
                  · refine j_ldcL E _ 115 dX4_endOfValue_112 kc_X4_84 rfl ?_
                    refine j_ladd E 116 dX4_endOfValue_115 rfl ?_
                    refine j_eql (y := lN (u - 1)) ?_ ?_
                    · have e1 : lN u = lN (u - 1) + 1 := by rw [lN_1]; congr 1; omega
                      rw [e1, Int64.add_assoc, show (1 : Int64) + -1 = 0 from rfl, Int64.add_zero]
                    · refine j_lstore_n E 117 dX4_endOfValue_116 3 rfl (Nat.le_of_ble_eq_true rfl) rfl rfl ?_
                      dsimp only [List.set]
                      refine j_iinc E _ 120 dX4_endOfValue_117 rfl rfl (Nat.le_of_ble_eq_true rfl) rfl rfl ?_
                      dsimp only [List.set]
                      refine j_goto E 8 dX4_endOfValue_120 (by decide) ?_
                      refine j_close (by repeat (first | with_reducible exact pick_0 | with_reducible apply pick_s | exact sel_0 | apply sel_s)) (leax_of (ld := ld) (k := k) (h := h) (b := b) (ty := ty)) ?_
                      have hz := ih (e + ownB k h b) (u - 1) (q + 1) (by omega) (by omega) (by omega) hf
                      rw [← nI_1] at hz
                      exact j_sel (by repeat (first | with_reducible exact pick_0 | with_reducible apply pick_s | exact sel_0 | apply sel_s)) hz
                  · exact absurd rfl h97
              · have qo : ¬ ownB k h b ≤ bs.length - e := fun q => h71 ((lg_cmp_le _ _).mpr ((lN_leB (by omega) (by omega)).mpr q))
                rw [if_pos (by omega)] at hf
                exact j_sel (by repeat (first | with_reducible exact pick_0 | with_reducible apply pick_s | exact sel_0 | apply sel_s)) (bad hf)
          · have q29 : ¬ e < (bs.length) := mt (nI_ltI (a := e) (b := (bs.length)) (by omega) (by omega)).mpr h29
            rw [if_pos (by omega)] at hf
            rw [hf] at B
            refine j_iconst E (-1) 33 dX4_endOfValue_32 (by decide) rfl ?_
            exact j_iret E B rfl 0 0 dX4_endOfValue_33 (by repeat (first | with_reducible exact pick_0 | with_reducible apply pick_s | exact sel_0 | apply sel_s)) ⟨rfl, rfl, rfl, rfl⟩ (by omega) (by omega) (by omega) (by omega)
  exact loop (bs.length - i0) i0 1 i0 (by omega) hi (by omega) hR

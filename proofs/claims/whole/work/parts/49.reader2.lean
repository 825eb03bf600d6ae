/-! Reader: times, references, plain values -/
set_option maxHeartbeats 4000000 in
theorem c_rd_time {g : GT} {z : Nat → Nat} (hA : GA g z) (d rd ld gr vl tp np nb cap cap2 i h b : Nat) (cd pl ty : Int32) (bs : List UInt8) (vs : List VE) (gs : List Nat) (hd : 12 ≤ d) (hv : vs.length ≤ 3000) (hn : nb < 2 ^ 30) (he : i + (h + b) ≤ bs.length) (hb : bs.length ≤ 100000) : CtrV g mX4_readTime 3 d 3 20008 rd [.ref tp, .ref vl, .int (nI i)] [RDR rd ld gr (i + (h + b)) cd pl, LEA ld 10 h b ty, ROW g tp bs cap2, VLS g z vl vs np nb cap] (leafQ g z rd ld gr (i + (h + b)) cd pl vl vs np nb cap 0 [LEA ld 10 h b ty, ROW g tp bs cap2] (rdTime bs i vs.length np nb gs h b)) noX := by
  refine ⟨rcv_pt, ?_⟩
  have hG := hA.1
  refine ctr_intro hG (by decide +kernel) (Nat.le_of_ble_eq_true rfl) ?_
  rintro X F rfl E B hI T
  replace E : JE X RX4 cX4_readTime 11 d 3 20008 := E
  show J X _ [RDR rd ld gr (i + (h + b)) cd pl, LEA ld 10 h b ty, ROW X.1 tp bs cap2, VLS X.1 z vl vs np nb cap, F] 0 0 0 [some (.ref rd), some (.ref tp), some (.ref vl), some (.int (nI i)), none, none, none, none, none, none, none] []
  refine j_iload_n E 1 dX4_readTime_0 3 rfl rfl rfl ?_
  refine j_aload_n E 2 dX4_readTime_1 0 rfl rfl rfl ?_
  refine j_getf E 5 dX4_readTime_2 fl_X4_12 (by repeat (first | with_reducible exact pick_0 | with_reducible apply pick_s)) (by rfl) rfl ?_
  refine j_getfN E 8 dX4_readTime_5 fl_X4_135 (by repeat (first | with_reducible exact pick_0 | with_reducible apply pick_s)) (by rfl) rfl ?_
  refine j_iadd E 9 dX4_readTime_8 rfl ?_
  refine j_eqi (nI_add i h) ?_
  refine j_istore E 11 dX4_readTime_9 (Nat.le_of_ble_eq_true rfl) rfl rfl ?_
  dsimp only [List.set]
  refine j_lconst E 0 12 dX4_readTime_11 rfl rfl ?_
  refine j_lstore E 14 dX4_readTime_12 (Nat.le_of_ble_eq_true rfl) rfl rfl ?_
  dsimp only [List.set]
  refine j_lconst E 0 15 dX4_readTime_14 rfl rfl ?_
  refine j_lstore E 17 dX4_readTime_15 (Nat.le_of_ble_eq_true rfl) rfl rfl ?_
  dsimp only [List.set]
  have fin : ∀ (sec : Int64) (na : Nat) (l9 l10 : Option Value), timeV bs (i + h) b = some (sec, na) → na < 2 ^ 62 → J X 11 [RDR rd ld gr (i + (h + b)) cd pl, LEA ld 10 h b ty, ROW X.1 tp bs cap2, VLS X.1 z vl vs np nb cap, F] 0 0 130 [some (.ref rd), some (.ref tp), some (.ref vl), some (.int (nI i)), some (.int (nI (i + h))), some (.long sec), none, some (.long (lN na)), none, l9, l10] [] := by
    intro sec na l9 l10 ev hna
    rw [rdTime, ev] at B
    dsimp only at B
    refine j_lload E 132 dX4_readTime_130 rfl rfl ?_
    refine j_ldcL E _ 135 dX4_readTime_132 kc_X4_163 rfl ?_
    refine j_lcmp E 136 dX4_readTime_135 rfl ?_
    refine j_if_le E 146 139 dX4_readTime_136 (by decide) rfl (fun h136 => ?_) (fun h136 => ?_)
    · have q : na ≤ 999999999 := (lN_leB (b := 999999999) (by omega) (by decide)).mp ((lg_cmp_le _ _).mp h136)
      rw [if_neg (by omega)] at B
      refine j_aload_n E 147 dX4_readTime_146 0 rfl rfl rfl ?_
      refine j_aload_n E 148 dX4_readTime_147 2 rfl rfl rfl ?_
      refine j_iload_n E 149 dX4_readTime_148 3 rfl rfl rfl ?_
      refine j_bipush E (10) 151 dX4_readTime_149 (by decide) rfl ?_
      refine j_lload E 153 dX4_readTime_151 rfl rfl ?_
      refine j_lload E 155 dX4_readTime_153 rfl rfl ?_
      refine j_l2i E 156 dX4_readTime_155 rfl ?_
      rw [lN_i]
      refine j_callV E (c_rd_keep hA (d-1) rd ld gr (i + (h + b)) vl np nb cap i 10 cd pl (nI na) sec vs gs (by omega) hv hn) 159 dX4_readTime_156 _ _ _ iv_X4_165 rfl rfl rfl (by repeat (first | with_reducible exact pick_0 | with_reducible apply pick_s | exact sel_0 | apply sel_s)) (by omega) (by omega) (by omega) (Nat.le_of_ble_eq_true rfl) rfl ?_
      rintro o xdc xds ws' hq
      obtain ⟨R, hR⟩ : ∃ R, R = rdKeep i (i + (h + b)) vs.length np nb gs 10 sec (nI na) [] := ⟨_, rfl⟩
      rw [← hR] at hq B
      rcases R with x | x
      · obtain ⟨rfl, rfl, rfl, rfl⟩ := hq
        dsimp only [List.cons_append, List.nil_append, Option.toList]
        exact j_iret E B rfl 0 0 dX4_readTime_159 (by repeat (first | with_reducible exact pick_0 | with_reducible apply pick_s | exact sel_0 | apply sel_s)) ⟨rfl, rfl, rfl, rfl⟩ (by omega) (by omega) (by omega) (by omega)
      · obtain ⟨ads, xcap, f1, rfl, f2, rfl, f3, f4, f5, f6⟩ := hq
        dsimp only [List.cons_append, List.nil_append, Option.toList]
        exact j_iret E B rfl xdc xds dX4_readTime_159 (by repeat (first | with_reducible exact pick_0 | with_reducible apply pick_s | exact sel_0 | apply sel_s)) ⟨ads, xcap, f1, rfl, f2, rfl, by omega, by omega, by omega, by omega⟩ (by omega) (by omega) (by omega) (by omega)
    · have q : ¬ na ≤ 999999999 := fun q => h136 ((lg_cmp_le _ _).mpr ((lN_leB (b := 999999999) (by omega) (by decide)).mpr q))
      rw [if_pos (by omega)] at B
      refine j_aload_n E 140 dX4_readTime_139 0 rfl rfl rfl ?_
      refine j_iconst E (4) 141 dX4_readTime_140 (by decide) rfl ?_
      refine j_iload_n E 142 dX4_readTime_141 3 rfl rfl rfl ?_
      refine j_callV E (c_rd_refuse hG (d-1) rd ld gr (i + (h + b)) cd pl (nI 4) (nI i)) 145 dX4_readTime_142 _ _ _ iv_X4_54 rfl rfl rfl (by repeat (first | with_reducible exact pick_0 | with_reducible apply pick_s | exact sel_0 | apply sel_s)) (by omega) (by omega) (by omega) (Nat.le_of_ble_eq_true rfl) rfl ?_
      rintro _ _ _ _ ⟨rfl, rfl, rfl, rfl⟩
      dsimp only [List.cons_append, List.nil_append, Option.toList]
      exact j_iret E B rfl 0 0 dX4_readTime_145 (by repeat (first | with_reducible exact pick_0 | with_reducible apply pick_s | exact sel_0 | apply sel_s)) ⟨rfl, rfl, rfl, rfl⟩ (by omega) (by omega) (by omega) (by omega)
  have hbl : b < 2 ^ 31 := by omega
  refine j_aload_n E 18 dX4_readTime_17 0 rfl rfl rfl ?_
  refine j_getf E 21 dX4_readTime_18 fl_X4_12 (by repeat (first | with_reducible exact pick_0 | with_reducible apply pick_s)) (by rfl) rfl ?_
  refine j_getfN E 24 dX4_readTime_21 fl_X4_80 (by repeat (first | with_reducible exact pick_0 | with_reducible apply pick_s)) (by rfl) rfl ?_
  refine j_ldcL E _ 27 dX4_readTime_24 kc_X4_151 rfl ?_
  refine j_lcmp E 28 dX4_readTime_27 rfl ?_
  refine j_if_ne E 43 31 dX4_readTime_28 (by decide) rfl (fun h28 => ?_) (fun h28 => ?_)
  · have q4 : ¬ b = 4 := fun q => h28 ((lg_cmp_eq _ _).mpr ((lN_eqB (b := 4) (by omega) (by decide)).mpr q))
    refine j_aload_n E 44 dX4_readTime_43 0 rfl rfl rfl ?_
    refine j_getf E 47 dX4_readTime_44 fl_X4_12 (by repeat (first | with_reducible exact pick_0 | with_reducible apply pick_s)) (by rfl) rfl ?_
    refine j_getfN E 50 dX4_readTime_47 fl_X4_80 (by repeat (first | with_reducible exact pick_0 | with_reducible apply pick_s)) (by rfl) rfl ?_
    refine j_ldcL E _ 53 dX4_readTime_50 kc_X4_157 rfl ?_
    refine j_lcmp E 54 dX4_readTime_53 rfl ?_
    refine j_if_ne E 85 57 dX4_readTime_54 (by decide) rfl (fun h54 => ?_) (fun h54 => ?_)
    · have q8 : ¬ b = 8 := fun q => h54 ((lg_cmp_eq _ _).mpr ((lN_eqB (b := 8) (by omega) (by decide)).mpr q))
      refine j_aload_n E 86 dX4_readTime_85 0 rfl rfl rfl ?_
      refine j_getf E 89 dX4_readTime_86 fl_X4_12 (by repeat (first | with_reducible exact pick_0 | with_reducible apply pick_s)) (by rfl) rfl ?_
      refine j_getfN E 92 dX4_readTime_89 fl_X4_80 (by repeat (first | with_reducible exact pick_0 | with_reducible apply pick_s)) (by rfl) rfl ?_
      refine j_ldcL E _ 95 dX4_readTime_92 kc_X4_161 rfl ?_
      refine j_lcmp E 96 dX4_readTime_95 rfl ?_
      refine j_if_ne E 123 99 dX4_readTime_96 (by decide) rfl (fun h96 => ?_) (fun h96 => ?_)
      · have q12 : ¬ b = 12 := fun q => h96 ((lg_cmp_eq _ _).mpr ((lN_eqB (b := 12) (by omega) (by decide)).mpr q))
        have ev : timeV bs (i + h) b = none := by rw [timeV, if_neg q4, if_neg q8, if_neg q12]
        rw [rdTime, ev] at B
        dsimp only at B
        refine j_aload_n E 124 dX4_readTime_123 0 rfl rfl rfl ?_
        refine j_iconst E (4) 125 dX4_readTime_124 (by decide) rfl ?_
        refine j_iload_n E 126 dX4_readTime_125 3 rfl rfl rfl ?_
        refine j_callV E (c_rd_refuse hG (d-1) rd ld gr (i + (h + b)) cd pl (nI 4) (nI i)) 129 dX4_readTime_126 _ _ _ iv_X4_54 rfl rfl rfl (by repeat (first | with_reducible exact pick_0 | with_reducible apply pick_s | exact sel_0 | apply sel_s)) (by omega) (by omega) (by omega) (Nat.le_of_ble_eq_true rfl) rfl ?_
        rintro _ _ _ _ ⟨rfl, rfl, rfl, rfl⟩
        dsimp only [List.cons_append, List.nil_append, Option.toList]
        exact j_iret E B rfl 0 0 dX4_readTime_129 (by repeat (first | with_reducible exact pick_0 | with_reducible apply pick_s | exact sel_0 | apply sel_s)) ⟨rfl, rfl, rfl, rfl⟩ (by omega) (by omega) (by omega) (by omega)
      · have q12 : b = 12 := (lN_eqB (b := 12) (by omega) (by decide)).mp ((lg_cmp_eq _ _).mp h96)
        refine j_aload_n E 100 dX4_readTime_99 1 rfl rfl rfl ?_
        refine j_iload E 102 dX4_readTime_100 rfl rfl ?_
        refine j_iconst E (4) 103 dX4_readTime_102 (by decide) rfl ?_
        refine j_callV E (c_row_be hG (d-1) tp cap2 (i + h) 4 bs (by decide) (by omega)) 106 dX4_readTime_103 _ _ _ iv_X4_153 rfl rfl rfl (by repeat (first | with_reducible exact pick_0 | with_reducible apply pick_s | exact sel_0 | apply sel_s)) (by omega) (by omega) (by omega) (Nat.le_of_ble_eq_true rfl) rfl ?_
        rintro _ _ _ _ ⟨rfl, rfl, rfl, rfl⟩
        dsimp only [List.cons_append, List.nil_append, Option.toList]
        refine j_lstore E 108 dX4_readTime_106 (Nat.le_of_ble_eq_true rfl) rfl rfl ?_
        dsimp only [List.set]
        refine j_aload_n E 109 dX4_readTime_108 1 rfl rfl rfl ?_
        refine j_iload E 111 dX4_readTime_109 rfl rfl ?_
        refine j_iconst E (4) 112 dX4_readTime_111 (by decide) rfl ?_
        refine j_iadd E 113 dX4_readTime_112 rfl ?_
        refine j_eqi (nI_add (i + h) 4) ?_
        refine j_bipush E (8) 115 dX4_readTime_113 (by decide) rfl ?_
        refine j_callV E (c_row_be hG (d-1) tp cap2 (i + h + 4) 8 bs (by decide) (by omega)) 118 dX4_readTime_115 _ _ _ iv_X4_153 rfl rfl rfl (by repeat (first | with_reducible exact pick_0 | with_reducible apply pick_s | exact sel_0 | apply sel_s)) (by omega) (by omega) (by omega) (Nat.le_of_ble_eq_true rfl) rfl ?_
        rintro _ _ _ _ ⟨rfl, rfl, rfl, rfl⟩
        dsimp only [List.cons_append, List.nil_append, Option.toList]
        refine j_lstore E 120 dX4_readTime_118 (Nat.le_of_ble_eq_true rfl) rfl rfl ?_
        dsimp only [List.set]
        refine j_goto E 130 dX4_readTime_120 (by decide) ?_
        exact j_sel (by repeat (first | with_reducible exact pick_0 | with_reducible apply pick_s | exact sel_0 | apply sel_s)) (fin _ _ none none (by rw [timeV, if_neg q4, if_neg q8, if_pos q12]) (Nat.lt_trans (beN_lt32 (by decide)) (by decide)))
    · have q8 : b = 8 := (lN_eqB (b := 8) (by omega) (by decide)).mp ((lg_cmp_eq _ _).mp h54)
      have h64 : beN bs (i + h) 8 < 2 ^ 64 := beN_lt bs (i + h) 8
      refine j_aload_n E 58 dX4_readTime_57 1 rfl rfl rfl ?_
      refine j_iload E 60 dX4_readTime_58 rfl rfl ?_
      refine j_bipush E (8) 62 dX4_readTime_60 (by decide) rfl ?_
      refine j_callV E (c_row_be hG (d-1) tp cap2 (i + h) 8 bs (by decide) (by omega)) 65 dX4_readTime_62 _ _ _ iv_X4_153 rfl rfl rfl (by repeat (first | with_reducible exact pick_0 | with_reducible apply pick_s | exact sel_0 | apply sel_s)) (by omega) (by omega) (by omega) (Nat.le_of_ble_eq_true rfl) rfl ?_
      rintro _ _ _ _ ⟨rfl, rfl, rfl, rfl⟩
      dsimp only [List.cons_append, List.nil_append, Option.toList]
      refine j_lstore E 67 dX4_readTime_65 (Nat.le_of_ble_eq_true rfl) rfl rfl ?_
      dsimp only [List.set]
      refine j_lload E 69 dX4_readTime_67 rfl rfl ?_
      refine j_ldcL E _ 72 dX4_readTime_69 kc_X4_159 rfl ?_
      refine j_land E 73 dX4_readTime_72 rfl ?_
      refine j_eql (y := lN (beN bs (i + h) 8 % 2 ^ 34)) (wb_mask (k := 34) h64 (by decide)) ?_
      refine j_lstore E 75 dX4_readTime_73 (Nat.le_of_ble_eq_true rfl) rfl rfl ?_
      dsimp only [List.set]
      refine j_lload E 77 dX4_readTime_75 rfl rfl ?_
      refine j_bipush E (34) 79 dX4_readTime_77 (by decide) rfl ?_
      refine j_lushr E 80 dX4_readTime_79 rfl ?_
      refine j_eql (y := lN (beN bs (i + h) 8 / 2 ^ 34)) (wb_shr (k := 34) h64 (by decide)) ?_
      refine j_lstore E 82 dX4_readTime_80 (Nat.le_of_ble_eq_true rfl) rfl rfl ?_
      dsimp only [List.set]
      refine j_goto E 130 dX4_readTime_82 (by decide) ?_
      exact j_sel (by repeat (first | with_reducible exact pick_0 | with_reducible apply pick_s | exact sel_0 | apply sel_s)) (fin _ _ _ none (by rw [timeV, if_neg q4, if_pos q8]) (by omega))
  · have q4 : b = 4 := (lN_eqB (b := 4) (by omega) (by decide)).mp ((lg_cmp_eq _ _).mp h28)
    refine j_aload_n E 32 dX4_readTime_31 1 rfl rfl rfl ?_
    refine j_iload E 34 dX4_readTime_32 rfl rfl ?_
    refine j_iconst E (4) 35 dX4_readTime_34 (by decide) rfl ?_
    refine j_callV E (c_row_be hG (d-1) tp cap2 (i + h) 4 bs (by decide) (by omega)) 38 dX4_readTime_35 _ _ _ iv_X4_153 rfl rfl rfl (by repeat (first | with_reducible exact pick_0 | with_reducible apply pick_s | exact sel_0 | apply sel_s)) (by omega) (by omega) (by omega) (Nat.le_of_ble_eq_true rfl) rfl ?_
    rintro _ _ _ _ ⟨rfl, rfl, rfl, rfl⟩
    dsimp only [List.cons_append, List.nil_append, Option.toList]
    refine j_lstore E 40 dX4_readTime_38 (Nat.le_of_ble_eq_true rfl) rfl rfl ?_
    dsimp only [List.set]
    refine j_goto E 130 dX4_readTime_40 (by decide) ?_
    exact j_sel (by repeat (first | with_reducible exact pick_0 | with_reducible apply pick_s | exact sel_0 | apply sel_s)) (fin _ 0 none none (by rw [timeV, if_pos q4]) (by decide))
set_option maxHeartbeats 4000000 in
theorem c_rd_plain {g : GT} {z : Nat → Nat} (hA : GA g z) (d rd ld gr vl tp np nb cap cap2 i k h b : Nat) (cd pl ty : Int32) (bs : List UInt8) (vs : List VE) (gs : List Nat) (hd : 12 ≤ d) (hk : k ≤ 4) (hh : 1 ≤ h) (hb8 : b ≤ 8) (hv : vs.length ≤ 3000) (hn : nb < 2 ^ 30) (he : i + (h + b) ≤ bs.length) (hb : bs.length ≤ 100000) : CtrV g mX4_readPlain 3 d 3 20008 rd [.ref tp, .ref vl, .int (nI i)] [RDR rd ld gr (i + (h + b)) cd pl, LEA ld k h b ty, ROW g tp bs cap2, VLS g z vl vs np nb cap] (leafQ g z rd ld gr (i + (h + b)) cd pl vl vs np nb cap 0 [LEA ld k h b ty, ROW g tp bs cap2] (rdPlain bs i vs.length np nb gs k h b)) noX := by
  refine ⟨rcv_pt, ?_⟩
  have hG := hA.1
  refine ctr_intro hG (by decide +kernel) (Nat.le_of_ble_eq_true rfl) ?_
  rintro X F rfl E B hI T
  replace E : JE X RX4 cX4_readPlain 6 d 3 20008 := E
  show J X _ [RDR rd ld gr (i + (h + b)) cd pl, LEA ld k h b ty, ROW X.1 tp bs cap2, VLS X.1 z vl vs np nb cap, F] 0 0 0 [some (.ref rd), some (.ref tp), some (.ref vl), some (.int (nI i)), none, none] []
  refine j_aload_n E 1 dX4_readPlain_0 0 rfl rfl rfl ?_
  refine j_getf E 4 dX4_readPlain_1 fl_X4_12 (by repeat (first | with_reducible exact pick_0 | with_reducible apply pick_s)) (by rfl) rfl ?_
  refine j_getfN E 7 dX4_readPlain_4 fl_X4_69 (by repeat (first | with_reducible exact pick_0 | with_reducible apply pick_s)) (by rfl) rfl ?_
  refine j_iconst E (1) 8 dX4_readPlain_7 (by decide) rfl ?_
  refine j_icmp_ne E 29 11 dX4_readPlain_8 (by decide) rfl (fun h8 => ?_) (fun h8 => ?_)
  · have q1 : ¬ k = 1 := fun q => h8 ((kI_eq (by omega) (b := 1) (by decide)).mpr q)
    refine j_aload_n E 30 dX4_readPlain_29 0 rfl rfl rfl ?_
    refine j_getf E 33 dX4_readPlain_30 fl_X4_12 (by repeat (first | with_reducible exact pick_0 | with_reducible apply pick_s)) (by rfl) rfl ?_
    refine j_getfN E 36 dX4_readPlain_33 fl_X4_69 (by repeat (first | with_reducible exact pick_0 | with_reducible apply pick_s)) (by rfl) rfl ?_
    refine j_iconst E (2) 37 dX4_readPlain_36 (by decide) rfl ?_
    refine j_icmp_ne E 81 40 dX4_readPlain_37 (by decide) rfl (fun h37 => ?_) (fun h37 => ?_)
    · have q2 : ¬ k = 2 := fun q => h37 ((kI_eq (by omega) (b := 2) (by decide)).mpr q)
      rw [rdPlain, if_neg q1, if_neg q2] at B
      refine j_aload_n E 82 dX4_readPlain_81 0 rfl rfl rfl ?_
      refine j_aload_n E 83 dX4_readPlain_82 2 rfl rfl rfl ?_
      refine j_iload_n E 84 dX4_readPlain_83 3 rfl rfl rfl ?_
      refine j_aload_n E 85 dX4_readPlain_84 0 rfl rfl rfl ?_
      refine j_getf E 88 dX4_readPlain_85 fl_X4_12 (by repeat (first | with_reducible exact pick_0 | with_reducible apply pick_s)) (by rfl) rfl ?_
      refine j_getfN E 91 dX4_readPlain_88 fl_X4_69 (by repeat (first | with_reducible exact pick_0 | with_reducible apply pick_s)) (by rfl) rfl ?_
      refine j_eqi (kI_nI (by omega)) ?_
      refine j_aload_n E 92 dX4_readPlain_91 1 rfl rfl rfl ?_
      refine j_iload_n E 93 dX4_readPlain_92 3 rfl rfl rfl ?_
      refine j_iconst E (1) 94 dX4_readPlain_93 (by decide) rfl ?_
      refine j_iadd E 95 dX4_readPlain_94 rfl ?_
      refine j_eqi (nI_1 i) ?_
      refine j_aload_n E 96 dX4_readPlain_95 0 rfl rfl rfl ?_
      refine j_getf E 99 dX4_readPlain_96 fl_X4_12 (by repeat (first | with_reducible exact pick_0 | with_reducible apply pick_s)) (by rfl) rfl ?_
      refine j_getfN E 102 dX4_readPlain_99 fl_X4_80 (by repeat (first | with_reducible exact pick_0 | with_reducible apply pick_s)) (by rfl) rfl ?_
      refine j_l2i E 103 dX4_readPlain_102 rfl ?_
      rw [lN_i]
      refine j_callV E (c_row_be hG (d-1) tp cap2 (i + 1) b bs hb8 (by omega)) 106 dX4_readPlain_103 _ _ _ iv_X4_153 rfl rfl rfl (by repeat (first | with_reducible exact pick_0 | with_reducible apply pick_s | exact sel_0 | apply sel_s)) (by omega) (by omega) (by omega) (Nat.le_of_ble_eq_true rfl) rfl ?_
      rintro _ _ _ _ ⟨rfl, rfl, rfl, rfl⟩
      dsimp only [List.cons_append, List.nil_append, Option.toList]
      refine j_iconst E (0) 107 dX4_readPlain_106 (by decide) rfl ?_
      refine j_callV E (c_rd_keep hA (d-1) rd ld gr (i + (h + b)) vl np nb cap i k cd pl 0 (lN (beN bs (i + 1) b)) vs gs (by omega) hv hn) 110 dX4_readPlain_107 _ _ _ iv_X4_165 rfl rfl rfl (by repeat (first | with_reducible exact pick_0 | with_reducible apply pick_s | exact sel_0 | apply sel_s)) (by omega) (by omega) (by omega) (Nat.le_of_ble_eq_true rfl) rfl ?_
      rintro o xdc xds ws' hq
      obtain ⟨R, hR⟩ : ∃ R, R = rdKeep i (i + (h + b)) vs.length np nb gs k (lN (beN bs (i + 1) b)) 0 [] := ⟨_, rfl⟩
      rw [← hR] at hq B
      rcases R with x | x
      · obtain ⟨rfl, rfl, rfl, rfl⟩ := hq
        dsimp only [List.cons_append, List.nil_append, Option.toList]
        exact j_iret E B rfl 0 0 dX4_readPlain_110 (by repeat (first | with_reducible exact pick_0 | with_reducible apply pick_s | exact sel_0 | apply sel_s)) ⟨rfl, rfl, rfl, rfl⟩ (by omega) (by omega) (by omega) (by omega)
      · obtain ⟨ads, xcap, f1, rfl, f2, rfl, f3, f4, f5, f6⟩ := hq
        dsimp only [List.cons_append, List.nil_append, Option.toList]
        exact j_iret E B rfl xdc xds dX4_readPlain_110 (by repeat (first | with_reducible exact pick_0 | with_reducible apply pick_s | exact sel_0 | apply sel_s)) ⟨ads, xcap, f1, rfl, f2, rfl, by omega, by omega, by omega, by omega⟩ (by omega) (by omega) (by omega) (by omega)
    · have q2 : k = 2 := (kI_eq (by omega) (b := 2) (by decide)).mp h37
      rw [rdPlain, if_neg q1, if_pos q2] at B
      have fin : ∀ dt : Int32, dt = (if intV bs i b < 0 ∧ bN bs i = 207 then 1 else 0) → J X 6 [RDR rd ld gr (i + (h + b)) cd pl, LEA ld k h b ty, ROW X.1 tp bs cap2, VLS X.1 z vl vs np nb cap, F] 0 0 77 [some (.ref rd), some (.ref tp), some (.ref vl), some (.int (nI i)), some (.long (intV bs i b)), none] [.int dt, .long (intV bs i b), .int 2, .int (nI i), .ref vl, .ref rd] := by
        intro dt hdt
        rw [← hdt] at B
        refine j_callV E (c_rd_keep hA (d-1) rd ld gr (i + (h + b)) vl np nb cap i 2 cd pl dt (intV bs i b) vs gs (by omega) hv hn) 80 dX4_readPlain_77 _ _ _ iv_X4_165 rfl rfl rfl (by repeat (first | with_reducible exact pick_0 | with_reducible apply pick_s | exact sel_0 | apply sel_s)) (by omega) (by omega) (by omega) (Nat.le_of_ble_eq_true rfl) rfl ?_
        rintro o xdc xds ws' hq
        obtain ⟨R, hR⟩ : ∃ R, R = rdKeep i (i + (h + b)) vs.length np nb gs 2 (intV bs i b) dt [] := ⟨_, rfl⟩
        rw [← hR] at hq B
        rcases R with x | x
        · obtain ⟨rfl, rfl, rfl, rfl⟩ := hq
          dsimp only [List.cons_append, List.nil_append, Option.toList]
          exact j_iret E B rfl 0 0 dX4_readPlain_80 (by repeat (first | with_reducible exact pick_0 | with_reducible apply pick_s | exact sel_0 | apply sel_s)) ⟨rfl, rfl, rfl, rfl⟩ (by omega) (by omega) (by omega) (by omega)
        · obtain ⟨ads, xcap, f1, rfl, f2, rfl, f3, f4, f5, f6⟩ := hq
          dsimp only [List.cons_append, List.nil_append, Option.toList]
          exact j_iret E B rfl xdc xds dX4_readPlain_80 (by repeat (first | with_reducible exact pick_0 | with_reducible apply pick_s | exact sel_0 | apply sel_s)) ⟨ads, xcap, f1, rfl, f2, rfl, by omega, by omega, by omega, by omega⟩ (by omega) (by omega) (by omega) (by omega)
      refine j_aload_n E 41 dX4_readPlain_40 0 rfl rfl rfl ?_
      refine j_aload_n E 42 dX4_readPlain_41 1 rfl rfl rfl ?_
      refine j_iload_n E 43 dX4_readPlain_42 3 rfl rfl rfl ?_
      refine j_callV E (c_rd_int hG (d-1) rd ld gr (i + (h + b)) tp cap2 i k h b cd pl ty bs (by omega) hb8 (by omega) hb) 46 dX4_readPlain_43 _ _ _ iv_X4_169 rfl rfl rfl (by repeat (first | with_reducible exact pick_0 | with_reducible apply pick_s | exact sel_0 | apply sel_s)) (by omega) (by omega) (by omega) (Nat.le_of_ble_eq_true rfl) rfl ?_
      rintro _ _ _ _ ⟨rfl, rfl, rfl, rfl⟩
      dsimp only [List.cons_append, List.nil_append, Option.toList]
      refine j_lstore E 48 dX4_readPlain_46 (Nat.le_of_ble_eq_true rfl) rfl rfl ?_
      dsimp only [List.set]
      refine j_aload_n E 49 dX4_readPlain_48 0 rfl rfl rfl ?_
      refine j_aload_n E 50 dX4_readPlain_49 2 rfl rfl rfl ?_
      refine j_iload_n E 51 dX4_readPlain_50 3 rfl rfl rfl ?_
      refine j_iconst E (2) 52 dX4_readPlain_51 (by decide) rfl ?_
      refine j_lload E 54 dX4_readPlain_52 rfl rfl ?_
      refine j_lload E 56 dX4_readPlain_54 rfl rfl ?_
      refine j_lconst E 0 57 dX4_readPlain_56 rfl rfl ?_
      refine j_lcmp E 58 dX4_readPlain_57 rfl ?_
      refine j_if_ge E 76 61 dX4_readPlain_58 (by decide) rfl (fun h58 => ?_) (fun h58 => ?_)
      · have q58 : ¬ intV bs i b < 0 := fun q => absurd ((lg_cmp_ge _ _).mp h58) (by rw [fa_le64]; rw [fa_lt64] at q; omega)
        refine j_iconst E (0) 77 dX4_readPlain_76 (by decide) rfl ?_
        exact j_sel (by repeat (first | with_reducible exact pick_0 | with_reducible apply pick_s | exact sel_0 | apply sel_s)) (fin 0 (by rw [if_neg (fun q => q58 q.1)]))
      · have q58 : intV bs i b < 0 := by
          have h9 : ¬ (0 : Int64) ≤ intV bs i b := fun q => h58 ((lg_cmp_ge _ _).mpr q)
          rw [fa_le64] at h9
          rw [fa_lt64]
          omega
        refine j_aload_n E 62 dX4_readPlain_61 1 rfl rfl rfl ?_
        refine j_iload_n E 63 dX4_readPlain_62 3 rfl rfl rfl ?_
        refine j_callV E (c_row_at hG (d-1) tp cap2 i bs (by omega)) 66 dX4_readPlain_63 _ _ _ iv_X4_181 rfl rfl rfl (by repeat (first | with_reducible exact pick_0 | with_reducible apply pick_s | exact sel_0 | apply sel_s)) (by omega) (by omega) (by omega) (Nat.le_of_ble_eq_true rfl) rfl ?_
        rintro _ _ _ _ ⟨rfl, rfl, rfl, rfl⟩
        dsimp only [List.cons_append, List.nil_append, Option.toList]
        rw [show (bs.getD i 0).toNat = bN bs i from rfl]
        have hl := bN_lt bs i
        refine j_sipush E (207) 69 dX4_readPlain_66 (by decide) rfl ?_
        refine j_icmp_ne E 76 72 dX4_readPlain_69 (by decide) rfl (fun h69 => ?_) (fun h69 => ?_)
        · have q69 : ¬ bN bs i = 207 := fun q => h69 (congrArg nI q)
          refine j_iconst E (0) 77 dX4_readPlain_76 (by decide) rfl ?_
          exact j_sel (by repeat (first | with_reducible exact pick_0 | with_reducible apply pick_s | exact sel_0 | apply sel_s)) (fin 0 (by rw [if_neg (fun q => q69 q.2)]))
        · have q69 : (bN bs i) = 207 := (nI_eq (a := (bN bs i)) (b := 207) (by omega) (by omega)).mp h69
          refine j_iconst E (1) 73 dX4_readPlain_72 (by decide) rfl ?_
          refine j_goto E 77 dX4_readPlain_73 (by decide) ?_
          exact j_sel (by repeat (first | with_reducible exact pick_0 | with_reducible apply pick_s | exact sel_0 | apply sel_s)) (fin 1 (by rw [if_pos ⟨q58, q69⟩]))
  · have q1 : k = 1 := (kI_eq (by omega) (b := 1) (by decide)).mp h8
    rw [rdPlain, if_pos q1] at B
    refine j_aload_n E 12 dX4_readPlain_11 0 rfl rfl rfl ?_
    refine j_aload_n E 13 dX4_readPlain_12 2 rfl rfl rfl ?_
    refine j_iload_n E 14 dX4_readPlain_13 3 rfl rfl rfl ?_
    refine j_iconst E (1) 15 dX4_readPlain_14 (by decide) rfl ?_
    refine j_lconst E 0 16 dX4_readPlain_15 rfl rfl ?_
    refine j_aload_n E 17 dX4_readPlain_16 1 rfl rfl rfl ?_
    refine j_iload_n E 18 dX4_readPlain_17 3 rfl rfl rfl ?_
    refine j_callV E (c_row_at hG (d-1) tp cap2 i bs (by omega)) 21 dX4_readPlain_18 _ _ _ iv_X4_181 rfl rfl rfl (by repeat (first | with_reducible exact pick_0 | with_reducible apply pick_s | exact sel_0 | apply sel_s)) (by omega) (by omega) (by omega) (Nat.le_of_ble_eq_true rfl) rfl ?_
    rintro _ _ _ _ ⟨rfl, rfl, rfl, rfl⟩
    dsimp only [List.cons_append, List.nil_append, Option.toList]
    refine j_sipush E (194) 24 dX4_readPlain_21 (by decide) rfl ?_
    refine j_isub E 25 dX4_readPlain_24 rfl ?_
    rw [show (bs.getD i 0).toNat = bN bs i from rfl]
    refine j_callV E (c_rd_keep hA (d-1) rd ld gr (i + (h + b)) vl np nb cap i 1 cd pl (nI (bN bs i) - 194) 0 vs gs (by omega) hv hn) 28 dX4_readPlain_25 _ _ _ iv_X4_165 rfl rfl rfl (by repeat (first | with_reducible exact pick_0 | with_reducible apply pick_s | exact sel_0 | apply sel_s)) (by omega) (by omega) (by omega) (Nat.le_of_ble_eq_true rfl) rfl ?_
    rintro o xdc xds ws' hq
    obtain ⟨R, hR⟩ : ∃ R, R = rdKeep i (i + (h + b)) vs.length np nb gs 1 0 (nI (bN bs i) - 194) [] := ⟨_, rfl⟩
    rw [← hR] at hq B
    rcases R with x | x
    · obtain ⟨rfl, rfl, rfl, rfl⟩ := hq
      dsimp only [List.cons_append, List.nil_append, Option.toList]
      exact j_iret E B rfl 0 0 dX4_readPlain_28 (by repeat (first | with_reducible exact pick_0 | with_reducible apply pick_s | exact sel_0 | apply sel_s)) ⟨rfl, rfl, rfl, rfl⟩ (by omega) (by omega) (by omega) (by omega)
    · obtain ⟨ads, xcap, f1, rfl, f2, rfl, f3, f4, f5, f6⟩ := hq
      dsimp only [List.cons_append, List.nil_append, Option.toList]
      exact j_iret E B rfl xdc xds dX4_readPlain_28 (by repeat (first | with_reducible exact pick_0 | with_reducible apply pick_s | exact sel_0 | apply sel_s)) ⟨ads, xcap, f1, rfl, f2, rfl, by omega, by omega, by omega, by omega⟩ (by omega) (by omega) (by omega) (by omega)

/-! Lead: look -/
theorem lead_ext {bs : List UInt8} {i k h b : Nat} (e : lead0 bs i = (k, h, b)) (hk : k = 9) : lead bs i = (typK bs (i + h), h + 1, b, typT bs (i + h)) := by
  unfold lead
  rw [e]
  dsimp only
  rw [if_pos hk, typK, typT]
  by_cases q : i + h < bs.length
  · rw [if_pos q, if_pos q, if_pos q]
  · rw [if_neg q, if_neg q, if_neg q]
theorem lead_pl {bs : List UInt8} {i k h b : Nat} (e : lead0 bs i = (k, h, b)) (hk : ¬ k = 9) : lead bs i = (k, h, b, 0) := by
  unfold lead
  rw [e]
  dsimp only
  rw [if_neg hk]
set_option maxHeartbeats 4000000 in
theorem c_ld_look {g : GT} {z : Nat → Nat} (hA : GA g z) (d ld r cap i : Nat) (k0 h0 t0 : Int32) (b0 : Int64) (bs : List UInt8) (hd : 4 ≤ d) (hi : i < bs.length) (hb : bs.length ≤ 100000) : CtrV g mX2_look 1 d 0 0 ld [.ref r, .int (nI i)] [pt ld (.inr (1, [.int k0, .int h0, .long b0, .int t0])), ROW g r bs cap] (fun o dc ds ws' => o = none ∧ dc = 0 ∧ ds = 0 ∧ ws' = [LEA ld (lead bs i).1 (lead bs i).2.1 (lead bs i).2.2.1 (lead bs i).2.2.2, ROW g r bs cap]) noX := by
  refine ⟨rcv_pt, ?_⟩
  have hG := hA.1
  refine ctr_intro hG (by decide +kernel) (Nat.le_of_ble_eq_true rfl) ?_
  rintro X F rfl E B hI T
  replace E : JE X RX2 cX2_look 4 d 0 0 := E
  show J X _ [pt ld (.inr (1, [.int k0, .int h0, .long b0, .int t0])), ROW X.1 r bs cap, F] 0 0 0 [some (.ref ld), some (.ref r), some (.int (nI i)), none] []
  obtain ⟨lb, hlb⟩ : ∃ lb, lb = bN bs i := ⟨_, rfl⟩
  have hl : lb < 256 := by rw [hlb]; exact bN_lt bs i
  have hok := lead0_ok bs i
  have after : ∀ kd hh bb : Nat, lead0 bs i = (kd, hh, bb) → J X 4 [LEA ld kd hh bb 0, ROW X.1 r bs cap, F] 0 0 113 [some (.ref ld), some (.ref r), some (.int (nI i)), some (.int (nI lb))] [] := by
    intro kd hh bb e0
    rw [e0] at hok
    dsimp only at hok
    refine j_aload_n E 114 dX2_look_113 0 rfl rfl rfl ?_
    refine j_getf E 117 dX2_look_114 fl_X2_29 (by repeat (first | with_reducible exact pick_0 | with_reducible apply pick_s)) (by rfl) rfl ?_
    refine j_bipush E (9) 119 dX2_look_117 (by decide) rfl ?_
    refine j_icmp_ne E 133 122 dX2_look_119 (by decide) rfl (fun h119 => ?_) (fun h119 => ?_)
    · have e9 : ¬ kd = 9 := fun q => h119 ((kI_eq hok.1 (b := 9) (by decide)).mpr q)
      rw [lead_pl e0 e9] at B
      dsimp only at B
      exact j_vret E B rfl 0 0 dX2_look_133 (by repeat (first | with_reducible exact pick_0 | with_reducible apply pick_s | exact sel_0 | apply sel_s)) ⟨rfl, rfl, rfl, rfl⟩ (by omega) (by omega) (by omega) (by omega)
    · have e9 : kd = 9 := (kI_eq hok.1 (b := 9) (by decide)).mp h119
      rw [lead_ext e0 e9] at B
      dsimp only at B
      subst e9
      refine j_aload_n E 123 dX2_look_122 0 rfl rfl rfl ?_
      refine j_aload_n E 124 dX2_look_123 1 rfl rfl rfl ?_
      refine j_iload_n E 125 dX2_look_124 2 rfl rfl rfl ?_
      refine j_aload_n E 126 dX2_look_125 0 rfl rfl rfl ?_
      refine j_getf E 129 dX2_look_126 fl_X2_32 (by repeat (first | with_reducible exact pick_0 | with_reducible apply pick_s)) (by rfl) rfl ?_
      refine j_iadd E 130 dX2_look_129 rfl ?_
      refine j_eqi (nI_add i hh) ?_
      refine j_callV E (c_ld_type hG (d-1) ld hh bb r cap (i + hh) bs (by omega) (by omega) hb) 133 dX2_look_130 _ _ _ iv_X2_35 rfl rfl rfl (by repeat (first | with_reducible exact pick_0 | with_reducible apply pick_s | exact sel_0 | apply sel_s)) (by omega) (by omega) (by omega) (Nat.le_of_ble_eq_true rfl) rfl ?_
      rintro _ _ _ _ ⟨rfl, rfl, rfl, rfl⟩
      dsimp only [List.cons_append, List.nil_append, Option.toList]
      exact j_vret E B rfl 0 0 dX2_look_133 (by repeat (first | with_reducible exact pick_0 | with_reducible apply pick_s | exact sel_0 | apply sel_s)) ⟨rfl, rfl, rfl, rfl⟩ (by omega) (by omega) (by omega) (by omega)
  refine j_aload_n E 1 dX2_look_0 1 rfl rfl rfl ?_
  refine j_iload_n E 2 dX2_look_1 2 rfl rfl rfl ?_
  refine j_callV E (c_row_at hG (d-1) r cap i bs hi) 5 dX2_look_2 _ _ _ iv_X2_9 rfl rfl rfl (by repeat (first | with_reducible exact pick_0 | with_reducible apply pick_s | exact sel_0 | apply sel_s)) (by omega) (by omega) (by omega) (Nat.le_of_ble_eq_true rfl) rfl ?_
  rintro _ _ _ _ ⟨rfl, rfl, rfl, rfl⟩
  dsimp only [List.cons_append, List.nil_append, Option.toList]
  refine j_istore_n E 6 dX2_look_5 3 rfl (Nat.le_of_ble_eq_true rfl) rfl rfl ?_
  dsimp only [List.set]
  refine j_aload_n E 7 dX2_look_6 0 rfl rfl rfl ?_
  refine j_iconst E (0) 8 dX2_look_7 (by decide) rfl ?_
  refine j_putf E 11 dX2_look_8 fl_X2_15 (by repeat (first | with_reducible exact pick_0 | with_reducible apply pick_s)) rfl rfl (Nat.le_of_ble_eq_true rfl) rfl ?_
  dsimp only [List.set]
  rw [show (bs.getD i 0).toNat = lb from hlb.symm]
  have first : (lb < 128 ∨ 224 ≤ lb) → J X 4 [pt ld (.inr (1, [.int k0, .int h0, .long b0, .int 0])), ROW X.1 r bs cap, F] 0 0 25 [some (.ref ld), some (.ref r), some (.int (nI i)), some (.int (nI lb))] [] := by
    intro q
    have e0 : lead0 bs i = (2, 1, 0) := by rw [lead0, ← hlb, if_pos q]
    refine j_aload_n E 26 dX2_look_25 0 rfl rfl rfl ?_
    refine j_iconst E (2) 27 dX2_look_26 (by decide) rfl ?_
    refine j_iconst E (1) 28 dX2_look_27 (by decide) rfl ?_
    refine j_lconst E 0 29 dX2_look_28 rfl rfl ?_
    refine j_callV E (c_ld_take hG (d-1) ld (kI 2) (nI 1) (lN 0) k0 h0 b0 (Value.int 0)) 32 dX2_look_29 _ _ _ iv_X2_21 rfl rfl rfl (by repeat (first | with_reducible exact pick_0 | with_reducible apply pick_s | exact sel_0 | apply sel_s)) (by omega) (by omega) (by omega) (Nat.le_of_ble_eq_true rfl) rfl ?_
    rintro _ _ _ _ ⟨rfl, rfl, rfl, rfl⟩
    dsimp only [List.cons_append, List.nil_append, Option.toList]
    refine j_goto E 113 dX2_look_32 (by decide) ?_
    exact j_sel (by repeat (first | with_reducible exact pick_0 | with_reducible apply pick_s | exact sel_0 | apply sel_s)) (after 2 1 0 e0)
  refine j_iload_n E 12 dX2_look_11 3 rfl rfl rfl ?_
  refine j_sipush E (128) 15 dX2_look_12 (by decide) rfl ?_
  refine j_icmp_lt E 25 18 dX2_look_15 (by decide) rfl (fun h15 => ?_) (fun h15 => ?_)
  · have q15 : lb < 128 := (nI_ltI (a := lb) (b := 128) (by omega) (by omega)).mp h15
    exact j_sel (by repeat (first | with_reducible exact pick_0 | with_reducible apply pick_s | exact sel_0 | apply sel_s)) (first (Or.inl q15))
  · have q15 : ¬ lb < 128 := mt (nI_ltI (a := lb) (b := 128) (by omega) (by omega)).mpr h15
    refine j_iload_n E 19 dX2_look_18 3 rfl rfl rfl ?_
    refine j_sipush E (224) 22 dX2_look_19 (by decide) rfl ?_
    refine j_icmp_lt E 35 25 dX2_look_22 (by decide) rfl (fun h22 => ?_) (fun h22 => ?_)
    · have q22 : lb < 224 := (nI_ltI (a := lb) (b := 224) (by omega) (by omega)).mp h22
      have hn1 : ¬ (lb < 128 ∨ 224 ≤ lb) := by omega
      refine j_iload_n E 36 dX2_look_35 3 rfl rfl rfl ?_
      refine j_sipush E (144) 39 dX2_look_36 (by decide) rfl ?_
      refine j_icmp_ge E 59 42 dX2_look_39 (by decide) rfl (fun h39 => ?_) (fun h39 => ?_)
      · have q39 : 144 ≤ lb := (nI_leI (a := 144) (b := lb) (by omega) (by omega)).mp h39
        refine j_iload_n E 60 dX2_look_59 3 rfl rfl rfl ?_
        refine j_sipush E (160) 63 dX2_look_60 (by decide) rfl ?_
        refine j_icmp_ge E 81 66 dX2_look_63 (by decide) rfl (fun h63 => ?_) (fun h63 => ?_)
        · have q63 : 160 ≤ lb := (nI_leI (a := 160) (b := lb) (by omega) (by omega)).mp h63
          refine j_iload_n E 82 dX2_look_81 3 rfl rfl rfl ?_
          refine j_sipush E (192) 85 dX2_look_82 (by decide) rfl ?_
          refine j_icmp_ge E 102 88 dX2_look_85 (by decide) rfl (fun h85 => ?_) (fun h85 => ?_)
          · have q85 : 192 ≤ lb := (nI_leI (a := 192) (b := lb) (by omega) (by omega)).mp h85
            have e0 : lead0 bs i = (tbK.getD (lb - 192) 0, 1 + tblL.getD (lb - 192) 0, upBody bs i (lb - 192)) := by rw [lead0, ← hlb, if_neg hn1, if_neg (by omega), if_neg (by omega), if_neg (by omega)]
            refine j_aload_n E 103 dX2_look_102 0 rfl rfl rfl ?_
            refine j_aload_n E 104 dX2_look_103 1 rfl rfl rfl ?_
            refine j_iload_n E 105 dX2_look_104 2 rfl rfl rfl ?_
            refine j_iload_n E 106 dX2_look_105 3 rfl rfl rfl ?_
            refine j_sipush E (192) 109 dX2_look_106 (by decide) rfl ?_
            refine j_isub E 110 dX2_look_109 rfl ?_
            refine j_eqi (y := nI (lb - 192)) (pk_sub (b := 192) (by omega)) ?_
            refine j_callV E (c_ld_up hA (d-1) ld r cap i (lb - 192) k0 h0 b0 bs (by omega) hi (by omega) hb) 113 dX2_look_110 _ _ _ iv_X2_25 rfl rfl rfl (by repeat (first | with_reducible exact pick_0 | with_reducible apply pick_s | exact sel_0 | apply sel_s)) (by omega) (by omega) (by omega) (Nat.le_of_ble_eq_true rfl) rfl ?_
            rintro _ _ _ _ ⟨rfl, rfl, rfl, rfl⟩
            dsimp only [List.cons_append, List.nil_append, Option.toList]
            exact j_sel (by repeat (first | with_reducible exact pick_0 | with_reducible apply pick_s | exact sel_0 | apply sel_s)) (after _ _ _ e0)
          · have q85 : ¬ 192 ≤ lb := mt (nI_leI (a := 192) (b := lb) (by omega) (by omega)).mpr h85
            have e0 : lead0 bs i = (5, 1, lb % 32) := by rw [lead0, ← hlb, if_neg hn1, if_neg (by omega), if_neg (by omega), if_pos (by omega)]
            refine j_aload_n E 89 dX2_look_88 0 rfl rfl rfl ?_
            refine j_iconst E (5) 90 dX2_look_89 (by decide) rfl ?_
            refine j_iconst E (1) 91 dX2_look_90 (by decide) rfl ?_
            refine j_iload_n E 92 dX2_look_91 3 rfl rfl rfl ?_
            refine j_bipush E (31) 94 dX2_look_92 (by decide) rfl ?_
            refine j_iand E 95 dX2_look_94 rfl ?_
            refine j_eqi (y := nI (lb % 32)) (fa_mask lb 5) ?_
            refine j_i2l E 96 dX2_look_95 rfl ?_
            rw [nI_l (by omega)]
            refine j_callV E (c_ld_take hG (d-1) ld (kI 5) (nI 1) (lN (lb % 32)) k0 h0 b0 (Value.int 0)) 99 dX2_look_96 _ _ _ iv_X2_21 rfl rfl rfl (by repeat (first | with_reducible exact pick_0 | with_reducible apply pick_s | exact sel_0 | apply sel_s)) (by omega) (by omega) (by omega) (Nat.le_of_ble_eq_true rfl) rfl ?_
            rintro _ _ _ _ ⟨rfl, rfl, rfl, rfl⟩
            dsimp only [List.cons_append, List.nil_append, Option.toList]
            refine j_goto E 113 dX2_look_99 (by decide) ?_
            exact j_sel (by repeat (first | with_reducible exact pick_0 | with_reducible apply pick_s | exact sel_0 | apply sel_s)) (after 5 1 (lb % 32) e0)
        · have q63 : ¬ 160 ≤ lb := mt (nI_leI (a := 160) (b := lb) (by omega) (by omega)).mpr h63
          have e0 : lead0 bs i = (7, 1, lb % 16) := by rw [lead0, ← hlb, if_neg hn1, if_neg (by omega), if_pos (by omega)]
          refine j_aload_n E 67 dX2_look_66 0 rfl rfl rfl ?_
          refine j_bipush E (7) 69 dX2_look_67 (by decide) rfl ?_
          refine j_iconst E (1) 70 dX2_look_69 (by decide) rfl ?_
          refine j_iload_n E 71 dX2_look_70 3 rfl rfl rfl ?_
          refine j_bipush E (15) 73 dX2_look_71 (by decide) rfl ?_
          refine j_iand E 74 dX2_look_73 rfl ?_
          refine j_eqi (y := nI (lb % 16)) (fa_mask lb 4) ?_
          refine j_i2l E 75 dX2_look_74 rfl ?_
          rw [nI_l (by omega)]
          refine j_callV E (c_ld_take hG (d-1) ld (kI 7) (nI 1) (lN (lb % 16)) k0 h0 b0 (Value.int 0)) 78 dX2_look_75 _ _ _ iv_X2_21 rfl rfl rfl (by repeat (first | with_reducible exact pick_0 | with_reducible apply pick_s | exact sel_0 | apply sel_s)) (by omega) (by omega) (by omega) (Nat.le_of_ble_eq_true rfl) rfl ?_
          rintro _ _ _ _ ⟨rfl, rfl, rfl, rfl⟩
          dsimp only [List.cons_append, List.nil_append, Option.toList]
          refine j_goto E 113 dX2_look_78 (by decide) ?_
          exact j_sel (by repeat (first | with_reducible exact pick_0 | with_reducible apply pick_s | exact sel_0 | apply sel_s)) (after 7 1 (lb % 16) e0)
      · have q39 : ¬ 144 ≤ lb := mt (nI_leI (a := 144) (b := lb) (by omega) (by omega)).mpr h39
        have e0 : lead0 bs i = (8, 1, 2 * (lb % 16)) := by rw [lead0, ← hlb, if_neg hn1, if_pos (by omega)]
        refine j_aload_n E 43 dX2_look_42 0 rfl rfl rfl ?_
        refine j_bipush E (8) 45 dX2_look_43 (by decide) rfl ?_
        refine j_iconst E (1) 46 dX2_look_45 (by decide) rfl ?_
        refine j_iconst E (2) 47 dX2_look_46 (by decide) rfl ?_
        refine j_iload_n E 48 dX2_look_47 3 rfl rfl rfl ?_
        refine j_bipush E (15) 50 dX2_look_48 (by decide) rfl ?_
        refine j_iand E 51 dX2_look_50 rfl ?_
        refine j_eqi (y := nI (lb % 16)) (fa_mask lb 4) ?_
        refine j_imul E 52 dX2_look_51 rfl ?_
        refine j_eqi (y := nI (2 * (lb % 16))) (pk_mul 2 (lb % 16)) ?_
        refine j_i2l E 53 dX2_look_52 rfl ?_
        rw [nI_l (by omega)]
        refine j_callV E (c_ld_take hG (d-1) ld (kI 8) (nI 1) (lN (2 * (lb % 16))) k0 h0 b0 (Value.int 0)) 56 dX2_look_53 _ _ _ iv_X2_21 rfl rfl rfl (by repeat (first | with_reducible exact pick_0 | with_reducible apply pick_s | exact sel_0 | apply sel_s)) (by omega) (by omega) (by omega) (Nat.le_of_ble_eq_true rfl) rfl ?_
        rintro _ _ _ _ ⟨rfl, rfl, rfl, rfl⟩
        dsimp only [List.cons_append, List.nil_append, Option.toList]
        refine j_goto E 113 dX2_look_56 (by decide) ?_
        exact j_sel (by repeat (first | with_reducible exact pick_0 | with_reducible apply pick_s | exact sel_0 | apply sel_s)) (after 8 1 (2 * (lb % 16)) e0)
    · have q22 : ¬ lb < 224 := mt (nI_ltI (a := lb) (b := 224) (by omega) (by omega)).mpr h22
      exact j_sel (by repeat (first | with_reducible exact pick_0 | with_reducible apply pick_s | exact sel_0 | apply sel_s)) (first (Or.inr (by omega)))

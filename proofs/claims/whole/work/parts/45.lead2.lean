/-! Lead: look -/
def typK (bs : List UInt8) (i : Nat) : Nat := if i < bs.length then tyK (by8 (bs.getD i 0)) else 9
def typT (bs : List UInt8) (i : Nat) : Int32 := if i < bs.length then by8 (bs.getD i 0) else 0
set_option maxHeartbeats 4000000 in
theorem c_ld_type {g : GT} (hG : GLB g) (d ld h b r cap i : Nat) (bs : List UInt8) (hd : 1 ≤ d) (hi : i < 2 ^ 30) (hb : bs.length ≤ 100000) : CtrV g mX2_lookAtType 1 d 0 0 ld [.ref r, .int (nI i)] [LEA ld 9 h b 0, ROW g r bs cap] (fun o dc ds ws' => o = none ∧ dc = 0 ∧ ds = 0 ∧ ws' = [LEA ld (typK bs i) (h + 1) b (typT bs i), ROW g r bs cap]) noX := by
  refine ⟨rcv_pt, ?_⟩
  refine ctr_intro hG (by decide +kernel) (Nat.le_of_ble_eq_true rfl) ?_
  rintro X F rfl E B hI T
  replace E : JE X RX2 cX2_lookAtType 3 d 0 0 := E
  show J X _ [LEA ld 9 h b 0, ROW X.1 r bs cap, F] 0 0 0 [some (.ref ld), some (.ref r), some (.int (nI i))] []
  refine j_aload_n E 1 dX2_lookAtType_0 0 rfl rfl rfl ?_
  refine j_dup E 2 dX2_lookAtType_1 rfl rfl ?_
  refine j_getf E 5 dX2_lookAtType_2 fl_X2_32 (by repeat (first | with_reducible exact pick_0 | with_reducible apply pick_s)) (by rfl) rfl ?_
  refine j_iconst E (1) 6 dX2_lookAtType_5 (by decide) rfl ?_
  refine j_iadd E 7 dX2_lookAtType_6 rfl ?_
  refine j_eqi (nI_1 h) ?_
  refine j_putf E 10 dX2_lookAtType_7 fl_X2_32 (by repeat (first | with_reducible exact pick_0 | with_reducible apply pick_s)) rfl rfl (Nat.le_of_ble_eq_true rfl) rfl ?_
  dsimp only [List.set]
  refine j_iload_n E 11 dX2_lookAtType_10 2 rfl rfl rfl ?_
  refine j_aload_n E 12 dX2_lookAtType_11 1 rfl rfl rfl ?_
  refine j_callV E (c_row_size hG (d-1) r cap bs) 15 dX2_lookAtType_12 _ _ _ iv_X2_54 rfl rfl rfl (by repeat (first | with_reducible exact pick_0 | with_reducible apply pick_s | exact sel_0 | apply sel_s)) (by omega) (by omega) (by omega) (Nat.le_of_ble_eq_true rfl) rfl ?_
  rintro _ _ _ _ ⟨rfl, rfl, rfl, rfl⟩
  dsimp only [List.cons_append, List.nil_append, Option.toList]
  refine j_icmp_ge E 59 18 dX2_lookAtType_15 (by decide) rfl (fun h15 => ?_) (fun h15 => ?_)
  · have q15 : (bs.length) ≤ i := (nI_leI (a := (bs.length)) (b := i) (by omega) (by omega)).mp h15
    have e1 : typK bs i = 9 := if_neg (by omega)
    have e2 : typT bs i = 0 := if_neg (by omega)
    rw [e1, e2] at B
    exact j_vret E B rfl 0 0 dX2_lookAtType_59 (by repeat (first | with_reducible exact pick_0 | with_reducible apply pick_s | exact sel_0 | apply sel_s)) ⟨rfl, rfl, rfl, rfl⟩ (by omega) (by omega) (by omega) (by omega)
  · have q15 : ¬ (bs.length) ≤ i := mt (nI_leI (a := (bs.length)) (b := i) (by omega) (by omega)).mpr h15
    have e1 : typK bs i = tyK (by8 (bs.getD i 0)) := if_pos (by omega)
    have e2 : typT bs i = by8 (bs.getD i 0) := if_pos (by omega)
    rw [← e2] at e1
    refine j_aload_n E 19 dX2_lookAtType_18 0 rfl rfl rfl ?_
    refine j_aload_n E 20 dX2_lookAtType_19 1 rfl rfl rfl ?_
    refine j_iload_n E 21 dX2_lookAtType_20 2 rfl rfl rfl ?_
    refine j_callV E (c_row_at hG (d-1) r cap i bs (by omega)) 24 dX2_lookAtType_21 _ _ _ iv_X2_9 rfl rfl rfl (by repeat (first | with_reducible exact pick_0 | with_reducible apply pick_s | exact sel_0 | apply sel_s)) (by omega) (by omega) (by omega) (Nat.le_of_ble_eq_true rfl) rfl ?_
    rintro _ _ _ _ ⟨rfl, rfl, rfl, rfl⟩
    dsimp only [List.cons_append, List.nil_append, Option.toList]
    refine j_i2b E 25 dX2_lookAtType_24 rfl ?_
    refine j_eqi ((i2b_by8 (bs.getD i 0)).trans e2.symm) ?_
    refine j_putf E 28 dX2_lookAtType_25 fl_X2_15 (by repeat (first | with_reducible exact pick_0 | with_reducible apply pick_s)) rfl rfl (Nat.le_of_ble_eq_true rfl) rfl ?_
    dsimp only [List.set]
    refine j_aload_n E 29 dX2_lookAtType_28 0 rfl rfl rfl ?_
    refine j_aload_n E 30 dX2_lookAtType_29 0 rfl rfl rfl ?_
    refine j_getf E 33 dX2_lookAtType_30 fl_X2_15 (by repeat (first | with_reducible exact pick_0 | with_reducible apply pick_s)) (by rfl) rfl ?_
    refine j_iconst E (-1) 34 dX2_lookAtType_33 (by decide) rfl ?_
    refine j_icmp_ne E 42 37 dX2_lookAtType_34 (by decide) rfl (fun h34 => ?_) (fun h34 => ?_)
    · refine j_aload_n E 43 dX2_lookAtType_42 0 rfl rfl rfl ?_
      refine j_getf E 46 dX2_lookAtType_43 fl_X2_15 (by repeat (first | with_reducible exact pick_0 | with_reducible apply pick_s)) (by rfl) rfl ?_
      refine j_if_ne E 54 49 dX2_lookAtType_46 (by decide) rfl (fun h46 => ?_) (fun h46 => ?_)
      · refine j_bipush E (9) 56 dX2_lookAtType_54 (by decide) rfl ?_
        refine j_eqi (y := kI (typK bs i)) (by rw [e1, tyK, if_neg h34, if_neg h46]; rfl) ?_
        refine j_putf E 59 dX2_lookAtType_56 fl_X2_29 (by repeat (first | with_reducible exact pick_0 | with_reducible apply pick_s)) rfl rfl (Nat.le_of_ble_eq_true rfl) rfl ?_
        dsimp only [List.set]
        exact j_vret E B rfl 0 0 dX2_lookAtType_59 (by repeat (first | with_reducible exact pick_0 | with_reducible apply pick_s | exact sel_0 | apply sel_s)) ⟨rfl, rfl, rfl, rfl⟩ (by omega) (by omega) (by omega) (by omega)
      · refine j_bipush E (11) 51 dX2_lookAtType_49 (by decide) rfl ?_
        refine j_goto E 56 dX2_lookAtType_51 (by decide) ?_
        refine j_eqi (y := kI (typK bs i)) (by rw [e1, tyK, if_neg h34, if_pos h46]; rfl) ?_
        refine j_putf E 59 dX2_lookAtType_56 fl_X2_29 (by repeat (first | with_reducible exact pick_0 | with_reducible apply pick_s)) rfl rfl (Nat.le_of_ble_eq_true rfl) rfl ?_
        dsimp only [List.set]
        exact j_vret E B rfl 0 0 dX2_lookAtType_59 (by repeat (first | with_reducible exact pick_0 | with_reducible apply pick_s | exact sel_0 | apply sel_s)) ⟨rfl, rfl, rfl, rfl⟩ (by omega) (by omega) (by omega) (by omega)
    · refine j_bipush E (10) 39 dX2_lookAtType_37 (by decide) rfl ?_
      refine j_goto E 56 dX2_lookAtType_39 (by decide) ?_
      refine j_eqi (y := kI (typK bs i)) (by rw [e1, tyK, if_pos h34]; rfl) ?_
      refine j_putf E 59 dX2_lookAtType_56 fl_X2_29 (by repeat (first | with_reducible exact pick_0 | with_reducible apply pick_s)) rfl rfl (Nat.le_of_ble_eq_true rfl) rfl ?_
      dsimp only [List.set]
      exact j_vret E B rfl 0 0 dX2_lookAtType_59 (by repeat (first | with_reducible exact pick_0 | with_reducible apply pick_s | exact sel_0 | apply sel_s)) ⟨rfl, rfl, rfl, rfl⟩ (by omega) (by omega) (by omega) (by omega)
set_option maxHeartbeats 4000000 in
theorem c_ld_up {g : GT} {z : Nat → Nat} (hA : GA g z) (d ld r cap i q : Nat) (k0 h0 : Int32) (b0 : Int64) (bs : List UInt8) (hd : 2 ≤ d) (hi : i < bs.length) (hq : q < 32) (hb : bs.length ≤ 100000) : CtrV g mX2_lookUp 1 d 0 0 ld [.ref r, .int (nI i), .int (nI q)] [pt ld (.inr (1, [.int k0, .int h0, .long b0, .int 0])), ROW g r bs cap] (fun o dc ds ws' => o = none ∧ dc = 0 ∧ ds = 0 ∧ ws' = [LEA ld (tbK.getD q 0) (1 + tblL.getD q 0) (upBody bs i q) 0, ROW g r bs cap]) noX := by
  refine ⟨rcv_pt, ?_⟩
  have hG := hA.1
  refine ctr_intro hG (by decide +kernel) (Nat.le_of_ble_eq_true rfl) ?_
  rintro X F rfl E B hI T
  replace E : JE X RX2 cX2_lookUp 7 d 0 0 := E
  show J X _ [pt ld (.inr (1, [.int k0, .int h0, .long b0, .int 0])), ROW X.1 r bs cap, F] 0 0 0 [some (.ref ld), some (.ref r), some (.int (nI i)), some (.int (nI q)), none, none, none] []
  have hw4 : tblL.getD q 0 ≤ 4 := tblL_le ⟨q, hq⟩
  have hf16 : tblF.getD q 0 ≤ 16 := tblF_le ⟨q, hq⟩
  have hk12 : tbK.getD q 0 ≤ 12 := tbK_le ⟨q, hq⟩
  have hkk : nI (tblK.getD q 0) = kI (tbK.getD q 0) := tbK_all ⟨q, hq⟩
  have hul := upLen_lt bs i hq
  obtain ⟨wd, hwd⟩ : ∃ wd, wd = tblL.getD q 0 := ⟨_, rfl⟩
  obtain ⟨fx, hfx⟩ : ∃ fx, fx = tblF.getD q 0 := ⟨_, rfl⟩
  obtain ⟨kd, hkd⟩ : ∃ kd, kd = tbK.getD q 0 := ⟨_, rfl⟩
  have hup : upLen bs i q = if 0 < wd ∧ wd < bs.length - i then beN bs (i + 1) wd else fx := by rw [upLen, ← hwd, ← hfx]
  have hbody : upBody bs i q = if kd = 8 then 2 * upLen bs i q else upLen bs i q := by rw [upBody, ← hkd]
  obtain ⟨ul, hul9⟩ : ∃ ul, ul = upLen bs i q := ⟨_, rfl⟩
  rw [← hwd] at hw4
  rw [← hfx] at hf16
  rw [← hkd] at hk12 hkk
  rw [← hul9] at hbody hul hup
  rw [← hwd, ← hkd] at B
  have xtail : J X 7 [pt ld (.inr (1, [.int k0, .int h0, .long b0, .int 0])), ROW X.1 r bs cap, F] 0 0 42 [some (.ref ld), some (.ref r), some (.int (nI i)), some (.int (nI q)), some (.int (nI wd)), some (.long (lN ul)), none] [] := by
    refine j_aload_n E 43 dX2_lookUp_42 0 rfl rfl rfl ?_
    refine j_gets E 46 dX2_lookUp_43 hA.2.2.2.2.1.1 gs_X2_62 rfl ?_
    refine j_iload_n E 47 dX2_lookUp_46 3 rfl rfl rfl ?_
    refine j_ti E 48 dX2_lookUp_47 hA.2.2.2.2.1.2 (vp_in_nI hq (by decide)) (v := .int (kI kd)) (by rw [nI_clamp (by omega), hkk]) rfl ?_
    refine j_iconst E (1) 49 dX2_lookUp_48 (by decide) rfl ?_
    refine j_iload E 51 dX2_lookUp_49 rfl rfl ?_
    refine j_iadd E 52 dX2_lookUp_51 rfl ?_
    refine j_eqi (nI_add 1 wd) ?_
    refine j_gets E 55 dX2_lookUp_52 hA.2.2.2.2.1.1 gs_X2_62 rfl ?_
    refine j_iload_n E 56 dX2_lookUp_55 3 rfl rfl rfl ?_
    refine j_ti E 57 dX2_lookUp_56 hA.2.2.2.2.1.2 (vp_in_nI hq (by decide)) (v := .int (kI kd)) (by rw [nI_clamp (by omega), hkk]) rfl ?_
    refine j_bipush E (8) 59 dX2_lookUp_57 (by decide) rfl ?_
    refine j_icmp_ne E 71 62 dX2_lookUp_59 (by decide) rfl (fun h59 => ?_) (fun h59 => ?_)
    · have e8 : ¬ kd = 8 := fun e => h59 ((kI_eq hk12 (b := 8) (by decide)).mpr e)
      have eb : upBody bs i q = ul := by rw [hbody, if_neg e8]
      rw [eb] at B
      refine j_lload E 73 dX2_lookUp_71 rfl rfl ?_
      refine j_callV E (c_ld_take hG (d-1) ld (kI kd) (nI (1 + wd)) (lN ul) k0 h0 b0 (Value.int 0)) 76 dX2_lookUp_73 _ _ _ iv_X2_21 rfl rfl rfl (by repeat (first | with_reducible exact pick_0 | with_reducible apply pick_s | exact sel_0 | apply sel_s)) (by omega) (by omega) (by omega) (Nat.le_of_ble_eq_true rfl) rfl ?_
      rintro _ _ _ _ ⟨rfl, rfl, rfl, rfl⟩
      dsimp only [List.cons_append, List.nil_append, Option.toList]
      exact j_vret E B rfl 0 0 dX2_lookUp_76 (by repeat (first | with_reducible exact pick_0 | with_reducible apply pick_s | exact sel_0 | apply sel_s)) ⟨rfl, rfl, rfl, rfl⟩ (by omega) (by omega) (by omega) (by omega)
    · have e8 : kd = 8 := (kI_eq hk12 (b := 8) (by decide)).mp h59
      have eb : upBody bs i q = 2 * ul := by rw [hbody, if_pos e8]
      rw [eb] at B
      refine j_ldcL E _ 65 dX2_lookUp_62 kc_X2_65 rfl ?_
      refine j_lload E 67 dX2_lookUp_65 rfl rfl ?_
      refine j_lmul E 68 dX2_lookUp_67 rfl ?_
      refine j_eql (y := lN (2 * ul)) (lN_mul 2 ul) ?_
      refine j_goto E 73 dX2_lookUp_68 (by decide) ?_
      refine j_callV E (c_ld_take hG (d-1) ld (kI kd) (nI (1 + wd)) (lN (2 * ul)) k0 h0 b0 (Value.int 0)) 76 dX2_lookUp_73 _ _ _ iv_X2_21 rfl rfl rfl (by repeat (first | with_reducible exact pick_0 | with_reducible apply pick_s | exact sel_0 | apply sel_s)) (by omega) (by omega) (by omega) (Nat.le_of_ble_eq_true rfl) rfl ?_
      rintro _ _ _ _ ⟨rfl, rfl, rfl, rfl⟩
      dsimp only [List.cons_append, List.nil_append, Option.toList]
      exact j_vret E B rfl 0 0 dX2_lookUp_76 (by repeat (first | with_reducible exact pick_0 | with_reducible apply pick_s | exact sel_0 | apply sel_s)) ⟨rfl, rfl, rfl, rfl⟩ (by omega) (by omega) (by omega) (by omega)
  refine j_gets E 3 dX2_lookUp_0 hA.2.2.2.2.2.1.1 gs_X2_47 rfl ?_
  refine j_iload_n E 4 dX2_lookUp_3 3 rfl rfl rfl ?_
  refine j_ti E 5 dX2_lookUp_4 hA.2.2.2.2.2.1.2 (vp_in_nI hq (by decide)) (v := .int (nI wd)) (by rw [nI_clamp (by omega), hwd]) rfl ?_
  refine j_istore E 7 dX2_lookUp_5 (Nat.le_of_ble_eq_true rfl) rfl rfl ?_
  dsimp only [List.set]
  refine j_gets E 10 dX2_lookUp_7 hA.2.2.2.2.2.2.1.1 gs_X2_51 rfl ?_
  refine j_iload_n E 11 dX2_lookUp_10 3 rfl rfl rfl ?_
  refine j_ti E 12 dX2_lookUp_11 hA.2.2.2.2.2.2.1.2 (vp_in_nI hq (by decide)) (v := .int (nI fx)) (by rw [nI_clamp (by omega), hfx]) rfl ?_
  refine j_i2l E 13 dX2_lookUp_12 rfl ?_
  rw [nI_l (by omega)]
  refine j_lstore E 15 dX2_lookUp_13 (Nat.le_of_ble_eq_true rfl) rfl rfl ?_
  dsimp only [List.set]
  refine j_iload E 17 dX2_lookUp_15 rfl rfl ?_
  refine j_if_le E 42 20 dX2_lookUp_17 (by decide) rfl (fun h17 => ?_) (fun h17 => ?_)
  · have q17 : wd ≤ 0 := (nI_leI (a := wd) (b := 0) (by omega) (by omega)).mp h17
    have e : ul = fx := by rw [hup, if_neg (by omega)]
    rw [e] at xtail
    exact xtail
  · have q17 : ¬ wd ≤ 0 := mt (nI_leI (a := wd) (b := 0) (by omega) (by omega)).mpr h17
    refine j_iload E 22 dX2_lookUp_20 rfl rfl ?_
    refine j_aload_n E 23 dX2_lookUp_22 1 rfl rfl rfl ?_
    refine j_callV E (c_row_size hG (d-1) r cap bs) 26 dX2_lookUp_23 _ _ _ iv_X2_54 rfl rfl rfl (by repeat (first | with_reducible exact pick_0 | with_reducible apply pick_s | exact sel_0 | apply sel_s)) (by omega) (by omega) (by omega) (Nat.le_of_ble_eq_true rfl) rfl ?_
    rintro _ _ _ _ ⟨rfl, rfl, rfl, rfl⟩
    dsimp only [List.cons_append, List.nil_append, Option.toList]
    refine j_iload_n E 27 dX2_lookUp_26 2 rfl rfl rfl ?_
    refine j_isub E 28 dX2_lookUp_27 rfl ?_
    refine j_eqi (y := nI (bs.length - i)) (pk_sub (by omega)) ?_
    refine j_icmp_ge E 42 31 dX2_lookUp_28 (by decide) rfl (fun h28 => ?_) (fun h28 => ?_)
    · have q28 : (bs.length - i) ≤ wd := (nI_leI (a := (bs.length - i)) (b := wd) (by omega) (by omega)).mp h28
      have e : ul = fx := by rw [hup, if_neg (by omega)]
      rw [e] at xtail
      exact j_sel (by repeat (first | with_reducible exact pick_0 | with_reducible apply pick_s | exact sel_0 | apply sel_s)) xtail
    · have q28 : ¬ (bs.length - i) ≤ wd := mt (nI_leI (a := (bs.length - i)) (b := wd) (by omega) (by omega)).mpr h28
      have e : ul = beN bs (i + 1) wd := by rw [hup, if_pos (by omega)]
      refine j_aload_n E 32 dX2_lookUp_31 1 rfl rfl rfl ?_
      refine j_iload_n E 33 dX2_lookUp_32 2 rfl rfl rfl ?_
      refine j_iconst E (1) 34 dX2_lookUp_33 (by decide) rfl ?_
      refine j_iadd E 35 dX2_lookUp_34 rfl ?_
      refine j_eqi (nI_1 i) ?_
      refine j_iload E 37 dX2_lookUp_35 rfl rfl ?_
      refine j_callV E (c_row_be hG (d-1) r cap (i + 1) wd bs (by omega) (by omega)) 40 dX2_lookUp_37 _ _ _ iv_X2_58 rfl rfl rfl (by repeat (first | with_reducible exact pick_0 | with_reducible apply pick_s | exact sel_0 | apply sel_s)) (by omega) (by omega) (by omega) (Nat.le_of_ble_eq_true rfl) rfl ?_
      rintro _ _ _ _ ⟨rfl, rfl, rfl, rfl⟩
      dsimp only [List.cons_append, List.nil_append, Option.toList]
      refine j_lstore E 42 dX2_lookUp_40 (Nat.le_of_ble_eq_true rfl) rfl rfl ?_
      dsimp only [List.set]
      rw [e] at xtail
      exact j_sel (by repeat (first | with_reducible exact pick_0 | with_reducible apply pick_s | exact sel_0 | apply sel_s)) xtail

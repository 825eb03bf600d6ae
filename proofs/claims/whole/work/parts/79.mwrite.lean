/-! the model: bytes are written -/
def pkP (st : Option (List UInt8)) : Int32 := match st with
  | none => nI 65536
  | some p => nI p.length
def fuP (st : Option (List UInt8)) : Int32 := match st with
  | none => 1
  | some _ => 0
def stL (st : Option (List UInt8)) (f : Nat → Int32) : Prop := match st with
  | none => True
  | some p => Lat p f ∧ p.length ≤ 65536
/-- a row that is written into -/
def BF (g : GT) (a : Nat) (st : Option (List UInt8)) : Asn := fun w => ∃ f : Nat → Int32, (Fit8 f ∧ stL st f) ∧ sepL [pt a (aB g 65536 f)] w
theorem bf_open {g : GT} {a : Nat} {st : Option (List UInt8)} : ∀ w, BF g a st w → ∃ f : Nat → Int32, (Fit8 f ∧ stL st f) ∧ sepL [pt a (aB g 65536 f)] w := fun _ h => h
theorem bf_of {g : GT} {a : Nat} {f : Nat → Int32} (st : Option (List UInt8)) (h1 : Fit8 f) (h2 : stL st f) : ∀ w, sepL [pt a (aB g 65536 f)] w → BF g a st w := fun _ h => ⟨f, ⟨h1, h2⟩, h⟩
theorem bf_know {g : GT} {a : Nat} {st : Option (List UInt8)} : ∀ w, BF g a st w → ∀ p, st = some p → p.length ≤ 65536 := fun _ ⟨_, h, _⟩ p e => by
  subst e
  exact h.2.2
theorem wr_nil {st : Option (List UInt8)} (h : ∀ p, st = some p → p.length ≤ 65536) : wr 65536 st [] = st := by
  rcases st with _ | p
  · rfl
  · have h1 := h p rfl
    unfold wr
    dsimp only
    rw [List.length_nil, Nat.add_zero, if_pos h1, List.append_nil]
theorem low0 (v : Int64) : lowB v 0 = lo8 v.toInt32 := by
  have e : v >>> ((nI (8 * 0)).toInt64 &&& 63) = v := by
    refine wb_inj ?_
    show v.toBitVec.sshiftRight (((nI (8 * 0)).toInt64 &&& 63).toBitVec.smod 64).toNat = v.toBitVec
    rw [show (((nI (8 * 0)).toInt64 &&& 63).toBitVec.smod 64).toNat = 0 by decide]
    exact BitVec.sshiftRight_zero
  rw [lowB, e]
theorem b1_lo (n : Nat) : b1 n = [lo8 (nI n)] := by
  show [lowB (lN n) 0] = _
  rw [low0, lN_i]
theorem lo8_by8 (b : UInt8) : lo8 (by8 b) = b := by
  unfold lo8 by8
  simp
set_option maxHeartbeats 4000000 in
theorem c_m_byte {g : GT} (hG : GLB g) (d m : Nat) (r : Nat → Nat) {th ts os vc lc bc pkg cm op fc fp at_ bgc got : Int32} {pr : Int64} (a : Nat) (b : Int32) (st : Option (List UInt8)) : CtrV g mX8_byteTo 7 d 0 0 m [.ref a, .int b] [MF m r th ts os vc lc bc (pkP st) pkg cm (fuP st) op fc fp at_ bgc got pr, BF g a st] (fun o dc ds ws' => o = none ∧ dc = 0 ∧ ds = 0 ∧ ws' = [MF m r th ts os vc lc bc (pkP (wr 65536 st [lo8 b])) pkg cm (fuP (wr 65536 st [lo8 b])) op fc fp at_ bgc got pr, BF g a (wr 65536 st [lo8 b])]) noX := by
  refine ⟨rcv_pt, ?_⟩
  refine ctr_intro hG (by decide +kernel) (Nat.le_of_ble_eq_true rfl) ?_
  rintro X F rfl E B hI T
  replace E : JE X RX8 cX8_byteTo 3 d 0 0 := E
  show J X _ [MF m r th ts os vc lc bc (pkP st) pkg cm (fuP st) op fc fp at_ bgc got pr, BF X.1 a st, F] 0 0 0 [some (.ref m), some (.ref a), some (.int b)] []
  refine j_open (by repeat (first | with_reducible exact pick_0 | with_reducible apply pick_s)) bf_open ?_
  rintro f ⟨h1, h2⟩
  dsimp only [List.cons_append, List.nil_append]
  have full : wr 65536 st [lo8 b] = none → pkP st = nI 65536 → J X 3 [pt a (aB X.1 65536 f), MF m r th ts os vc lc bc (pkP st) pkg cm (fuP st) op fc fp at_ bgc got pr, F] 0 0 9 [some (.ref m), some (.ref a), some (.int b)] [] := by
    intro e1 e2
    rw [e1] at B
    dsimp only [pkP, fuP] at B
    rw [e2]
    refine j_aload_n E 10 dX8_byteTo_9 0 rfl rfl rfl ?_
    refine j_iconst E (1) 11 dX8_byteTo_10 (by decide) rfl ?_
    refine j_putf E 14 dX8_byteTo_11 fl_X8_205 (by repeat (first | with_reducible exact pick_0 | with_reducible apply pick_s)) (by decide) (by decide) (Nat.le_of_ble_eq_true rfl) rfl ?_
    dsimp only [List.set]
    refine j_goto E 35 dX8_byteTo_14 (by decide) ?_
    refine j_close (by repeat (first | with_reducible exact pick_0 | with_reducible apply pick_s | exact sel_0 | apply sel_s)) (bf_of none h1 trivial) ?_
    exact j_vret E B rfl 0 0 dX8_byteTo_35 (by repeat (first | with_reducible exact pick_0 | with_reducible apply pick_s | exact sel_0 | apply sel_s)) ⟨rfl, rfl, rfl, rfl⟩ (by omega) (by omega) (by omega) (by omega)
  rcases st with _ | p
  · refine j_aload_n E 1 dX8_byteTo_0 0 rfl rfl rfl ?_
    refine j_getf E 4 dX8_byteTo_1 fl_X8_202 (by repeat (first | with_reducible exact pick_0 | with_reducible apply pick_s)) (by rfl) rfl ?_
    refine j_ldcI E _ 6 dX8_byteTo_4 kc_X8_7 rfl ?_
    refine j_icmp_ne E 17 9 dX8_byteTo_6 (by decide) rfl (fun h6 => ?_) (fun h6 => ?_)
    · exact absurd rfl h6
    · exact j_sel (by repeat (first | with_reducible exact pick_0 | with_reducible apply pick_s | exact sel_0 | apply sel_s)) (full rfl rfl)
  · obtain ⟨h3, h4⟩ := h2
    refine j_aload_n E 1 dX8_byteTo_0 0 rfl rfl rfl ?_
    refine j_getf E 4 dX8_byteTo_1 fl_X8_202 (by repeat (first | with_reducible exact pick_0 | with_reducible apply pick_s)) (by rfl) rfl ?_
    refine j_ldcI E _ 6 dX8_byteTo_4 kc_X8_7 rfl ?_
    dsimp only [pkP]
    refine j_icmp_ne E 17 9 dX8_byteTo_6 (by decide) rfl (fun h6 => ?_) (fun h6 => ?_)
    · have q : ¬ p.length = 65536 := fun q => h6 (by rw [q]; rfl)
      have e : wr 65536 (some p) [lo8 b] = some (p ++ [lo8 b]) := if_pos (by rw [List.length_singleton]; omega)
      rw [e] at B
      dsimp only [pkP, fuP] at B ⊢
      rw [List.length_append, List.length_singleton] at B
      refine j_aload_n E 18 dX8_byteTo_17 1 rfl rfl rfl ?_
      refine j_aload_n E 19 dX8_byteTo_18 0 rfl rfl rfl ?_
      refine j_getf E 22 dX8_byteTo_19 fl_X8_202 (by repeat (first | with_reducible exact pick_0 | with_reducible apply pick_s)) (by rfl) rfl ?_
      refine j_iload_n E 23 dX8_byteTo_22 2 rfl rfl rfl ?_
      refine j_i2b E 24 dX8_byteTo_23 rfl ?_
      refine j_bast E 25 dX8_byteTo_24 (by repeat (first | with_reducible exact pick_0 | with_reducible apply pick_s)) (vp_in_nI (by omega) (by omega)) rfl ?_
      rw [nI_clamp (by omega)]
      refine j_aload_n E 26 dX8_byteTo_25 0 rfl rfl rfl ?_
      refine j_dup E 27 dX8_byteTo_26 rfl rfl ?_
      refine j_getf E 30 dX8_byteTo_27 fl_X8_202 (by repeat (first | with_reducible exact pick_0 | with_reducible apply pick_s)) (by rfl) rfl ?_
      refine j_iconst E (1) 31 dX8_byteTo_30 (by decide) rfl ?_
      refine j_iadd E 32 dX8_byteTo_31 rfl ?_
      refine j_eqi (nI_1 p.length) ?_
      refine j_putf E 35 dX8_byteTo_32 fl_X8_202 (by repeat (first | with_reducible exact pick_0 | with_reducible apply pick_s)) rfl rfl (Nat.le_of_ble_eq_true rfl) rfl ?_
      dsimp only [List.set]
      refine j_close (by repeat (first | with_reducible exact pick_0 | with_reducible apply pick_s | exact sel_0 | apply sel_s)) (bf_of (some (p ++ [lo8 b])) (fit_store h1) ⟨lat_store h3, by rw [List.length_append, List.length_singleton]; omega⟩) ?_
      exact j_vret E B rfl 0 0 dX8_byteTo_35 (by repeat (first | with_reducible exact pick_0 | with_reducible apply pick_s | exact sel_0 | apply sel_s)) ⟨rfl, rfl, rfl, rfl⟩ (by omega) (by omega) (by omega) (by omega)
    · have q : p.length = 65536 := (nI_eq (by omega) (by decide)).mp h6
      have h8 := full (if_neg (by rw [List.length_singleton]; omega)) (by dsimp only [pkP]; rw [q])
      dsimp only [pkP, fuP] at h8 ⊢
      exact j_sel (by repeat (first | with_reducible exact pick_0 | with_reducible apply pick_s | exact sel_0 | apply sel_s)) h8
set_option maxHeartbeats 4000000 in
theorem c_m_num {g : GT} (hG : GLB g) (d m : Nat) (r : Nat → Nat) {th ts os vc lc bc pkg cm op fc fp at_ bgc got : Int32} {pr : Int64} (a n : Nat) (v : Int64) (st : Option (List UInt8)) (hd : 1 ≤ d) (hn : n ≤ 8) : CtrV g mX8_numberTo 7 d 0 0 m [.ref a, .long v, .int (nI n)] [MF m r th ts os vc lc bc (pkP st) pkg cm (fuP st) op fc fp at_ bgc got pr, BF g a st] (fun o dc ds ws' => o = none ∧ dc = 0 ∧ ds = 0 ∧ ws' = [MF m r th ts os vc lc bc (pkP (wr 65536 st (beB v n))) pkg cm (fuP (wr 65536 st (beB v n))) op fc fp at_ bgc got pr, BF g a (wr 65536 st (beB v n))]) noX := by
  refine ⟨rcv_pt, ?_⟩
  refine ctr_intro hG (by decide +kernel) (Nat.le_of_ble_eq_true rfl) ?_
  rintro X F rfl E B hI T
  replace E : JE X RX8 cX8_numberTo 6 d 0 0 := E
  show J X _ [MF m r th ts os vc lc bc (pkP st) pkg cm (fuP st) op fc fp at_ bgc got pr, BF X.1 a st, F] 0 0 0 [some (.ref m), some (.ref a), some (.long v), none, some (.int (nI n)), none] []
  obtain ⟨R, hR⟩ : ∃ R, R = wr 65536 st (beB v n) := ⟨_, rfl⟩
  rw [← hR] at B
  refine j_iload E 2 dX8_numberTo_0 rfl rfl ?_
  refine j_iconst E (1) 3 dX8_numberTo_2 (by decide) rfl ?_
  refine j_isub E 4 dX8_numberTo_3 rfl ?_
  refine j_istore E 6 dX8_numberTo_4 (Nat.le_of_ble_eq_true rfl) rfl rfl ?_
  dsimp only [List.set]
  have loop : ∀ (j : Nat) (st : Option (List UInt8)), j ≤ 8 → R = wr 65536 st (beB v j) → J X 6 [MF m r th ts os vc lc bc (pkP st) pkg cm (fuP st) op fc fp at_ bgc got pr, BF X.1 a st, F] 0 0 6 [some (.ref m), some (.ref a), some (.long v), none, some (.int (nI n)), some (.int (nI j - 1))] [] := by
    intro j
    induction j with
    | zero =>
      intro st hj hr
      refine j_know (pick_know (P := BF X.1 a st) (by repeat (first | with_reducible exact pick_0 | with_reducible apply pick_s)) bf_know) (fun hbl => ?_)
      rw [beB, wr_nil hbl] at hr
      rw [hr] at B
      refine j_iload E 8 dX8_numberTo_6 rfl rfl ?_
      refine j_if_lt E 30 11 dX8_numberTo_8 (by decide) rfl (fun h8 => ?_) (fun h8 => ?_)
      · exact j_vret E B rfl 0 0 dX8_numberTo_30 (by repeat (first | with_reducible exact pick_0 | with_reducible apply pick_s | exact sel_0 | apply sel_s)) ⟨rfl, rfl, rfl, rfl⟩ (by omega) (by omega) (by omega) (by omega)
      · exact absurd (by decide) h8
    | succ j ih =>
      intro st hj hr
      rw [nI_pred]
      refine j_iload E 8 dX8_numberTo_6 rfl rfl ?_
      refine j_if_lt E 30 11 dX8_numberTo_8 (by decide) rfl (fun h8 => ?_) (fun h8 => ?_)
      · exact absurd h8 (nI_pos (by omega))
      · refine j_aload_n E 12 dX8_numberTo_11 0 rfl rfl rfl ?_
        refine j_aload_n E 13 dX8_numberTo_12 1 rfl rfl rfl ?_
        refine j_lload_n E 14 dX8_numberTo_13 2 rfl rfl rfl ?_
        refine j_bipush E (8) 16 dX8_numberTo_14 (by decide) rfl ?_
        refine j_iload E 18 dX8_numberTo_16 rfl rfl ?_
        refine j_imul E 19 dX8_numberTo_18 rfl ?_
        refine j_eqi (y := nI (8 * j)) (pk_mul 8 j) ?_
        refine j_lshr E 20 dX8_numberTo_19 rfl ?_
        refine j_l2i E 21 dX8_numberTo_20 rfl ?_
        refine j_callV E (c_m_byte hG (d-1) m r a (v >>> ((nI (8 * j)).toInt64 &&& 63)).toInt32 st) 24 dX8_numberTo_21 _ _ _ iv_X8_209 rfl rfl rfl (by repeat (first | with_reducible exact pick_0 | with_reducible apply pick_s | exact sel_0 | apply sel_s)) (by omega) (by omega) (by omega) (Nat.le_of_ble_eq_true rfl) rfl ?_
        rintro _ _ _ _ ⟨rfl, rfl, rfl, rfl⟩
        dsimp only [List.cons_append, List.nil_append, Option.toList]
        refine j_iinc E _ 27 dX8_numberTo_24 rfl rfl (Nat.le_of_ble_eq_true rfl) rfl rfl ?_
        dsimp only [List.set]
        refine j_goto E 6 dX8_numberTo_27 (by decide) ?_
        rw [x_dec1]
        exact j_sel (by repeat (first | with_reducible exact pick_0 | with_reducible apply pick_s | exact sel_0 | apply sel_s)) (ih _ (by omega) (by rw [hr, wr_app]; rfl))
  exact loop n st hn hR
def cntE (n few ld x1 x2 x4 : Nat) : List UInt8 := if n < few then b1 (ld + n) else if n < 256 ∧ 0 < x1 then b1 x1 ++ beB (lN n) 1 else if n < 65536 then b1 x2 ++ beB (lN n) 2 else b1 x4 ++ beB (lN n) 4
set_option maxHeartbeats 4000000 in
theorem c_m_count {g : GT} (hG : GLB g) (d m : Nat) (r : Nat → Nat) {th ts os vc lc bc pkg cm op fc fp at_ bgc got : Int32} {pr : Int64} (a n few ld x1 x2 x4 : Nat) (st : Option (List UInt8)) (hd : 3 ≤ d) (hn : n < 2 ^ 30) (h1 : few < 256) (h2 : x1 < 256) : CtrV g mX8_countTo 7 d 0 0 m [.ref a, .int (nI n), .int (nI few), .int (nI ld), .int (nI x1), .int (nI x2), .int (nI x4)] [MF m r th ts os vc lc bc (pkP st) pkg cm (fuP st) op fc fp at_ bgc got pr, BF g a st] (fun o dc ds ws' => o = none ∧ dc = 0 ∧ ds = 0 ∧ ws' = [MF m r th ts os vc lc bc (pkP (wr 65536 st (cntE n few ld x1 x2 x4))) pkg cm (fuP (wr 65536 st (cntE n few ld x1 x2 x4))) op fc fp at_ bgc got pr, BF g a (wr 65536 st (cntE n few ld x1 x2 x4))]) noX := by
  refine ⟨rcv_pt, ?_⟩
  refine ctr_intro hG (by decide +kernel) (Nat.le_of_ble_eq_true rfl) ?_
  rintro X F rfl E B hI T
  replace E : JE X RX8 cX8_countTo 8 d 0 0 := E
  show J X _ [MF m r th ts os vc lc bc (pkP st) pkg cm (fuP st) op fc fp at_ bgc got pr, BF X.1 a st, F] 0 0 0 [some (.ref m), some (.ref a), some (.int (nI n)), some (.int (nI few)), some (.int (nI ld)), some (.int (nI x1)), some (.int (nI x2)), some (.int (nI x4))] []
  have t47 : ¬ n < few → ¬ (n < 256 ∧ 0 < x1) → J X 8 [MF m r th ts os vc lc bc (pkP st) pkg cm (fuP st) op fc fp at_ bgc got pr, BF X.1 a st, F] 0 0 47 [some (.ref m), some (.ref a), some (.int (nI n)), some (.int (nI few)), some (.int (nI ld)), some (.int (nI x1)), some (.int (nI x2)), some (.int (nI x4))] [] := by
    intro q1 q2
    rw [cntE, if_neg q1, if_neg q2] at B
    refine j_iload_n E 48 dX8_countTo_47 2 rfl rfl rfl ?_
    refine j_ldcI E _ 50 dX8_countTo_48 kc_X8_7 rfl ?_
    refine j_icmp_ge E 71 53 dX8_countTo_50 (by decide) rfl (fun h50 => ?_) (fun h50 => ?_)
    · have q3 : ¬ n < 65536 := fun q => absurd (show nI 65536 ≤ nI n from h50) (nI_ge q (by decide))
      rw [if_neg q3] at B
      refine j_aload_n E 72 dX8_countTo_71 0 rfl rfl rfl ?_
      refine j_aload_n E 73 dX8_countTo_72 1 rfl rfl rfl ?_
      refine j_iload E 75 dX8_countTo_73 rfl rfl ?_
      refine j_callV E (c_m_byte hG (d-1) m r a (nI x4) st) 78 dX8_countTo_75 _ _ _ iv_X8_209 rfl rfl rfl (by repeat (first | with_reducible exact pick_0 | with_reducible apply pick_s | exact sel_0 | apply sel_s)) (by omega) (by omega) (by omega) (Nat.le_of_ble_eq_true rfl) rfl ?_
      rintro _ _ _ _ ⟨rfl, rfl, rfl, rfl⟩
      dsimp only [List.cons_append, List.nil_append, Option.toList]
      refine j_aload_n E 79 dX8_countTo_78 0 rfl rfl rfl ?_
      refine j_aload_n E 80 dX8_countTo_79 1 rfl rfl rfl ?_
      refine j_iload_n E 81 dX8_countTo_80 2 rfl rfl rfl ?_
      refine j_i2l E 82 dX8_countTo_81 rfl ?_
      rw [nI_l (by omega)]
      refine j_iconst E (4) 83 dX8_countTo_82 (by decide) rfl ?_
      refine j_callV E (c_m_num hG (d-1) m r a 4 (lN n) _ (by omega) (by omega)) 86 dX8_countTo_83 _ _ _ iv_X8_213 rfl rfl rfl (by repeat (first | with_reducible exact pick_0 | with_reducible apply pick_s | exact sel_0 | apply sel_s)) (by omega) (by omega) (by omega) (Nat.le_of_ble_eq_true rfl) rfl ?_
      rintro _ _ _ _ ⟨rfl, rfl, rfl, rfl⟩
      dsimp only [List.cons_append, List.nil_append, Option.toList]
      rw [wr_app, ← b1_lo]
      exact j_vret E B rfl 0 0 dX8_countTo_86 (by repeat (first | with_reducible exact pick_0 | with_reducible apply pick_s | exact sel_0 | apply sel_s)) ⟨rfl, rfl, rfl, rfl⟩ (by omega) (by omega) (by omega) (by omega)
    · have q3 : n < 65536 := Nat.lt_of_not_le fun q => h50 (nI_le (a := 65536) q (by omega))
      rw [if_pos q3] at B
      refine j_aload_n E 54 dX8_countTo_53 0 rfl rfl rfl ?_
      refine j_aload_n E 55 dX8_countTo_54 1 rfl rfl rfl ?_
      refine j_iload E 57 dX8_countTo_55 rfl rfl ?_
      refine j_callV E (c_m_byte hG (d-1) m r a (nI x2) st) 60 dX8_countTo_57 _ _ _ iv_X8_209 rfl rfl rfl (by repeat (first | with_reducible exact pick_0 | with_reducible apply pick_s | exact sel_0 | apply sel_s)) (by omega) (by omega) (by omega) (Nat.le_of_ble_eq_true rfl) rfl ?_
      rintro _ _ _ _ ⟨rfl, rfl, rfl, rfl⟩
      dsimp only [List.cons_append, List.nil_append, Option.toList]
      refine j_aload_n E 61 dX8_countTo_60 0 rfl rfl rfl ?_
      refine j_aload_n E 62 dX8_countTo_61 1 rfl rfl rfl ?_
      refine j_iload_n E 63 dX8_countTo_62 2 rfl rfl rfl ?_
      refine j_i2l E 64 dX8_countTo_63 rfl ?_
      rw [nI_l (by omega)]
      refine j_iconst E (2) 65 dX8_countTo_64 (by decide) rfl ?_
      refine j_callV E (c_m_num hG (d-1) m r a 2 (lN n) _ (by omega) (by omega)) 68 dX8_countTo_65 _ _ _ iv_X8_213 rfl rfl rfl (by repeat (first | with_reducible exact pick_0 | with_reducible apply pick_s | exact sel_0 | apply sel_s)) (by omega) (by omega) (by omega) (Nat.le_of_ble_eq_true rfl) rfl ?_
      rintro _ _ _ _ ⟨rfl, rfl, rfl, rfl⟩
      dsimp only [List.cons_append, List.nil_append, Option.toList]
      rw [wr_app, ← b1_lo]
      refine j_goto E 86 dX8_countTo_68 (by decide) ?_
      exact j_vret E B rfl 0 0 dX8_countTo_86 (by repeat (first | with_reducible exact pick_0 | with_reducible apply pick_s | exact sel_0 | apply sel_s)) ⟨rfl, rfl, rfl, rfl⟩ (by omega) (by omega) (by omega) (by omega)
  refine j_iload_n E 1 dX8_countTo_0 2 rfl rfl rfl ?_
  refine j_iload_n E 2 dX8_countTo_1 3 rfl rfl rfl ?_
  refine j_icmp_ge E 17 5 dX8_countTo_2 (by decide) rfl (fun hh2 => ?_) (fun hh2 => ?_)
  · have qh2 : few ≤ n := (nI_leI (a := few) (b := n) (by omega) (by omega)).mp hh2
    refine j_iload_n E 18 dX8_countTo_17 2 rfl rfl rfl ?_
    refine j_sipush E (256) 21 dX8_countTo_18 (by decide) rfl ?_
    refine j_icmp_ge E 47 24 dX8_countTo_21 (by decide) rfl (fun h21 => ?_) (fun h21 => ?_)
    · have q3 : ¬ n < 256 := fun q => absurd (show nI 256 ≤ nI n from h21) (nI_ge q (by decide))
      exact t47 (by omega) (fun q => q3 q.1)
    · have q3 : n < 256 := Nat.lt_of_not_le fun q => h21 (nI_le (a := 256) q (by omega))
      refine j_iload E 26 dX8_countTo_24 rfl rfl ?_
      refine j_if_le E 47 29 dX8_countTo_26 (by decide) rfl (fun h26 => ?_) (fun h26 => ?_)
      · have q4 : ¬ 0 < x1 := fun q => absurd (show nI x1 ≤ nI 0 from h26) (nI_ge q (by omega))
        exact t47 (by omega) (fun q => q4 q.2)
      · have q4 : 0 < x1 := Nat.lt_of_not_le fun q => h26 (nI_le (b := 0) q (by decide))
        rw [cntE, if_neg (show ¬ n < few by omega), if_pos ⟨q3, q4⟩] at B
        refine j_aload_n E 30 dX8_countTo_29 0 rfl rfl rfl ?_
        refine j_aload_n E 31 dX8_countTo_30 1 rfl rfl rfl ?_
        refine j_iload E 33 dX8_countTo_31 rfl rfl ?_
        refine j_callV E (c_m_byte hG (d-1) m r a (nI x1) st) 36 dX8_countTo_33 _ _ _ iv_X8_209 rfl rfl rfl (by repeat (first | with_reducible exact pick_0 | with_reducible apply pick_s | exact sel_0 | apply sel_s)) (by omega) (by omega) (by omega) (Nat.le_of_ble_eq_true rfl) rfl ?_
        rintro _ _ _ _ ⟨rfl, rfl, rfl, rfl⟩
        dsimp only [List.cons_append, List.nil_append, Option.toList]
        refine j_aload_n E 37 dX8_countTo_36 0 rfl rfl rfl ?_
        refine j_aload_n E 38 dX8_countTo_37 1 rfl rfl rfl ?_
        refine j_iload_n E 39 dX8_countTo_38 2 rfl rfl rfl ?_
        refine j_i2l E 40 dX8_countTo_39 rfl ?_
        rw [nI_l (by omega)]
        refine j_iconst E (1) 41 dX8_countTo_40 (by decide) rfl ?_
        refine j_callV E (c_m_num hG (d-1) m r a 1 (lN n) _ (by omega) (by omega)) 44 dX8_countTo_41 _ _ _ iv_X8_213 rfl rfl rfl (by repeat (first | with_reducible exact pick_0 | with_reducible apply pick_s | exact sel_0 | apply sel_s)) (by omega) (by omega) (by omega) (Nat.le_of_ble_eq_true rfl) rfl ?_
        rintro _ _ _ _ ⟨rfl, rfl, rfl, rfl⟩
        dsimp only [List.cons_append, List.nil_append, Option.toList]
        rw [wr_app, ← b1_lo]
        refine j_goto E 86 dX8_countTo_44 (by decide) ?_
        exact j_vret E B rfl 0 0 dX8_countTo_86 (by repeat (first | with_reducible exact pick_0 | with_reducible apply pick_s | exact sel_0 | apply sel_s)) ⟨rfl, rfl, rfl, rfl⟩ (by omega) (by omega) (by omega) (by omega)
  · have qh2 : ¬ few ≤ n := mt (nI_leI (a := few) (b := n) (by omega) (by omega)).mpr hh2
    rw [cntE, if_pos (show n < few by omega)] at B
    refine j_aload_n E 6 dX8_countTo_5 0 rfl rfl rfl ?_
    refine j_aload_n E 7 dX8_countTo_6 1 rfl rfl rfl ?_
    refine j_iload E 9 dX8_countTo_7 rfl rfl ?_
    refine j_iload_n E 10 dX8_countTo_9 2 rfl rfl rfl ?_
    refine j_iadd E 11 dX8_countTo_10 rfl ?_
    refine j_eqi (y := nI (ld + n)) (nI_add ld n) ?_
    refine j_callV E (c_m_byte hG (d-1) m r a (nI (ld + n)) st) 14 dX8_countTo_11 _ _ _ iv_X8_209 rfl rfl rfl (by repeat (first | with_reducible exact pick_0 | with_reducible apply pick_s | exact sel_0 | apply sel_s)) (by omega) (by omega) (by omega) (Nat.le_of_ble_eq_true rfl) rfl ?_
    rintro _ _ _ _ ⟨rfl, rfl, rfl, rfl⟩
    dsimp only [List.cons_append, List.nil_append, Option.toList]
    rw [← b1_lo]
    refine j_goto E 86 dX8_countTo_14 (by decide) ?_
    exact j_vret E B rfl 0 0 dX8_countTo_86 (by repeat (first | with_reducible exact pick_0 | with_reducible apply pick_s | exact sel_0 | apply sel_s)) ⟨rfl, rfl, rfl, rfl⟩ (by omega) (by omega) (by omega) (by omega)
set_option maxHeartbeats 8000000 in
theorem c_m_size {g : GT} (hG : GLB g) (d : Nat) (v : Int64) (hb : Bool) : Ctr g mX8_integerSize d 0 0 [.long v, .int (bI hb)] [] (fun o dc ds ws' => o = some (.int (nI (intL v hb))) ∧ dc = 0 ∧ ds = 0 ∧ ws' = []) noX := by
  refine ctr_intro hG (by decide +kernel) (Nat.le_of_ble_eq_true rfl) ?_
  rintro X F rfl E B hI T
  replace E : JE X RX8 cX8_integerSize 5 d 0 0 := E
  show J X _ [F] 0 0 0 [some (.long v), none, some (.int (bI hb)), none, none] []
  rcases hb with _ | _
  · have big : ¬ (-32 ≤ v.toInt ∧ v.toInt < 128) → J X 5 [F] 0 0 25 [some (.long v), none, some (.int (bI false)), none, none] [] := by
      intro hbig
      have w8 : ∀ l4 : Option Value, (0 ≤ v.toInt → 4294967296 ≤ v.toInt) → (v.toInt < 0 → v.toInt < -2147483648) → J X 5 [F] 0 0 27 [some (.long v), none, some (.int (bI false)), some (.int 8), l4] [] := by
        intro l4 hp hn
        have es : stN v false = 3 := by
          rw [stN, if_neg (by decide), if_neg hbig]
          by_cases q : 0 ≤ v.toInt
          · have := hp q
            rw [if_pos q, if_neg (by omega), if_neg (by omega), if_neg (by omega)]
          · have := hn (by omega)
            rw [if_neg q, if_neg (by omega), if_neg (by omega), if_neg (by omega)]
        have el : intL v false = 9 := by rw [intL, es]; rfl
        rw [el] at B
        refine j_iload_n E 28 dX8_integerSize_27 3 rfl rfl rfl ?_
        refine j_bipush E (8) 30 dX8_integerSize_28 (by decide) rfl ?_
        refine j_icmp_ge E 95 33 dX8_integerSize_30 (by decide) rfl (fun h30 => ?_) (fun h30 => ?_)
        · refine j_bipush E (9) 97 dX8_integerSize_95 (by decide) rfl ?_
          exact j_iret E B rfl 0 0 dX8_integerSize_97 (by repeat (first | with_reducible exact pick_0 | with_reducible apply pick_s | exact sel_0 | apply sel_s)) ⟨rfl, rfl, rfl, rfl⟩ (by omega) (by omega) (by omega) (by omega)
        · exact absurd (by decide) h30
      have w4 : ∀ l4 : Option Value, (0 ≤ v.toInt → 65536 ≤ v.toInt) → (v.toInt < 0 → v.toInt < -32768) → J X 5 [F] 0 0 27 [some (.long v), none, some (.int (bI false)), some (.int 4), l4] [] := by
        intro l4 hp hn
        have done : ∀ k : Nat, intL v false = k → k < 100 → True := fun _ _ _ => trivial
        have ret4 : ((0 ≤ v.toInt ∧ v.toInt < 4294967296) ∨ (v.toInt < 0 ∧ -2147483648 ≤ v.toInt)) → ∀ l5 : Value, J X 5 [F] 0 0 84 [some (.long v), none, some (.int (bI false)), some (.int 4), some l5] [] := by
          intro hc l5
          have es : stN v false = 2 := by
            rw [stN, if_neg (by decide), if_neg hbig]
            rcases hc with hc | hc
            · have := hp hc.1
              rw [if_pos hc.1, if_neg (by omega), if_neg (by omega), if_pos (by omega)]
            · have := hn hc.1
              rw [if_neg (by omega), if_neg (by omega), if_neg (by omega), if_pos (by omega)]
          have el : intL v false = 5 := by rw [intL, es]; rfl
          rw [el] at B
          refine j_iconst E (1) 85 dX8_integerSize_84 (by decide) rfl ?_
          refine j_iload_n E 86 dX8_integerSize_85 3 rfl rfl rfl ?_
          refine j_iadd E 87 dX8_integerSize_86 rfl ?_
          exact j_iret E B rfl 0 0 dX8_integerSize_87 (by repeat (first | with_reducible exact pick_0 | with_reducible apply pick_s | exact sel_0 | apply sel_s)) ⟨rfl, rfl, rfl, rfl⟩ (by omega) (by omega) (by omega) (by omega)
        have go4 : ¬ ((0 ≤ v.toInt ∧ v.toInt < 4294967296) ∨ (v.toInt < 0 ∧ -2147483648 ≤ v.toInt)) → ∀ l5 : Value, J X 5 [F] 0 0 88 [some (.long v), none, some (.int (bI false)), some (.int 4), some l5] [] := by
          intro hc l5
          refine j_iconst E (2) 89 dX8_integerSize_88 (by decide) rfl ?_
          refine j_iload_n E 90 dX8_integerSize_89 3 rfl rfl rfl ?_
          refine j_imul E 91 dX8_integerSize_90 rfl ?_
          refine j_eqi (y := 8) (by decide) ?_
          refine j_istore_n E 92 dX8_integerSize_91 3 rfl (Nat.le_of_ble_eq_true rfl) rfl rfl ?_
          dsimp only [List.set]
          refine j_goto E 27 dX8_integerSize_92 (by decide) ?_
          exact w8 _ (fun q => by omega) (fun q => by omega)
        refine j_iload_n E 28 dX8_integerSize_27 3 rfl rfl rfl ?_
        refine j_bipush E (8) 30 dX8_integerSize_28 (by decide) rfl ?_
        refine j_icmp_ge E 95 33 dX8_integerSize_30 (by decide) rfl (fun h30 => ?_) (fun h30 => ?_)
        · exact absurd h30 (by decide)
        · refine j_lload_n E 34 dX8_integerSize_33 0 rfl rfl rfl ?_
          refine j_lconst E 0 35 dX8_integerSize_34 rfl rfl ?_
          refine j_lcmp E 36 dX8_integerSize_35 rfl ?_
          refine j_if_lt E 58 39 dX8_integerSize_36 (by decide) rfl (fun h36 => ?_) (fun h36 => ?_)
          · have q0 : v.toInt < 0 := (fa_lt64 _ _).mp ((lg_cmp_lt _ _).mp h36)
            refine j_lload_n E 59 dX8_integerSize_58 0 rfl rfl rfl ?_
            refine j_lconst E 1 60 dX8_integerSize_59 rfl rfl ?_
            refine j_bipush E (8) 62 dX8_integerSize_60 (by decide) rfl ?_
            refine j_iload_n E 63 dX8_integerSize_62 3 rfl rfl rfl ?_
            refine j_imul E 64 dX8_integerSize_63 rfl ?_
            refine j_eqi (y := 32) (by decide) ?_
            refine j_iconst E (1) 65 dX8_integerSize_64 (by decide) rfl ?_
            refine j_isub E 66 dX8_integerSize_65 rfl ?_
            refine j_eqi (y := 31) (by decide) ?_
            refine j_lshl E 67 dX8_integerSize_66 rfl ?_
            refine j_eql (y := 2147483648) (by decide) ?_
            refine j_lneg E 68 dX8_integerSize_67 rfl ?_
            refine j_eql (y := -2147483648) (by decide) ?_
            refine j_lcmp E 69 dX8_integerSize_68 rfl ?_
            refine j_if_lt E 76 72 dX8_integerSize_69 (by decide) rfl (fun h69 => ?_) (fun h69 => ?_)
            · have q1 : v.toInt < -2147483648 := (fa_lt64 _ _).mp ((lg_cmp_lt _ _).mp h69)
              refine j_iconst E (0) 77 dX8_integerSize_76 (by decide) rfl ?_
              refine j_istore E 79 dX8_integerSize_77 (Nat.le_of_ble_eq_true rfl) rfl rfl ?_
              dsimp only [List.set]
              refine j_iload E 81 dX8_integerSize_79 rfl rfl ?_
              refine j_if_eq E 88 84 dX8_integerSize_81 (by decide) rfl (fun h81 => ?_) (fun h81 => ?_)
              · exact go4 (by omega) _
              · exact absurd rfl h81
            · have q1 : ¬ v.toInt < -2147483648 := fun q => h69 ((lg_cmp_lt _ _).mpr ((fa_lt64 v (-2147483648)).mpr q))
              refine j_iconst E (1) 73 dX8_integerSize_72 (by decide) rfl ?_
              refine j_goto E 77 dX8_integerSize_73 (by decide) ?_
              refine j_istore E 79 dX8_integerSize_77 (Nat.le_of_ble_eq_true rfl) rfl rfl ?_
              dsimp only [List.set]
              refine j_iload E 81 dX8_integerSize_79 rfl rfl ?_
              refine j_if_eq E 88 84 dX8_integerSize_81 (by decide) rfl (fun h81 => ?_) (fun h81 => ?_)
              · exact absurd h81 (by decide)
              · exact ret4 (by omega) _
          · have q0 : ¬ v.toInt < 0 := fun q => h36 ((lg_cmp_lt _ _).mpr ((fa_lt64 v 0).mpr q))
            refine j_lload_n E 40 dX8_integerSize_39 0 rfl rfl rfl ?_
            refine j_lconst E 1 41 dX8_integerSize_40 rfl rfl ?_
            refine j_bipush E (8) 43 dX8_integerSize_41 (by decide) rfl ?_
            refine j_iload_n E 44 dX8_integerSize_43 3 rfl rfl rfl ?_
            refine j_imul E 45 dX8_integerSize_44 rfl ?_
            refine j_eqi (y := 32) (by decide) ?_
            refine j_lshl E 46 dX8_integerSize_45 rfl ?_
            refine j_eql (y := 4294967296) (by decide) ?_
            refine j_lcmp E 47 dX8_integerSize_46 rfl ?_
            refine j_if_ge E 54 50 dX8_integerSize_47 (by decide) rfl (fun h47 => ?_) (fun h47 => ?_)
            · have q1 : 4294967296 ≤ v.toInt := (fa_le64 _ _).mp ((lg_cmp_ge _ _).mp h47)
              refine j_iconst E (0) 55 dX8_integerSize_54 (by decide) rfl ?_
              refine j_goto E 77 dX8_integerSize_55 (by decide) ?_
              refine j_istore E 79 dX8_integerSize_77 (Nat.le_of_ble_eq_true rfl) rfl rfl ?_
              dsimp only [List.set]
              refine j_iload E 81 dX8_integerSize_79 rfl rfl ?_
              refine j_if_eq E 88 84 dX8_integerSize_81 (by decide) rfl (fun h81 => ?_) (fun h81 => ?_)
              · exact go4 (by omega) _
              · exact absurd rfl h81
            · have q1 : ¬ 4294967296 ≤ v.toInt := fun q => h47 ((lg_cmp_ge _ _).mpr ((fa_le64 4294967296 v).mpr q))
              refine j_iconst E (1) 51 dX8_integerSize_50 (by decide) rfl ?_
              refine j_goto E 77 dX8_integerSize_51 (by decide) ?_
              refine j_istore E 79 dX8_integerSize_77 (Nat.le_of_ble_eq_true rfl) rfl rfl ?_
              dsimp only [List.set]
              refine j_iload E 81 dX8_integerSize_79 rfl rfl ?_
              refine j_if_eq E 88 84 dX8_integerSize_81 (by decide) rfl (fun h81 => ?_) (fun h81 => ?_)
              · exact absurd h81 (by decide)
              · exact ret4 (by omega) _
      have w2 : ∀ l4 : Option Value, (0 ≤ v.toInt → 256 ≤ v.toInt) → (v.toInt < 0 → v.toInt < -128) → J X 5 [F] 0 0 27 [some (.long v), none, some (.int (bI false)), some (.int 2), l4] [] := by
        intro l4 hp hn
        have done : ∀ k : Nat, intL v false = k → k < 100 → True := fun _ _ _ => trivial
        have ret2 : ((0 ≤ v.toInt ∧ v.toInt < 65536) ∨ (v.toInt < 0 ∧ -32768 ≤ v.toInt)) → ∀ l5 : Value, J X 5 [F] 0 0 84 [some (.long v), none, some (.int (bI false)), some (.int 2), some l5] [] := by
          intro hc l5
          have es : stN v false = 1 := by
            rw [stN, if_neg (by decide), if_neg hbig]
            rcases hc with hc | hc
            · have := hp hc.1
              rw [if_pos hc.1, if_neg (by omega), if_pos (by omega)]
            · have := hn hc.1
              rw [if_neg (by omega), if_neg (by omega), if_pos (by omega)]
          have el : intL v false = 3 := by rw [intL, es]; rfl
          rw [el] at B
          refine j_iconst E (1) 85 dX8_integerSize_84 (by decide) rfl ?_
          refine j_iload_n E 86 dX8_integerSize_85 3 rfl rfl rfl ?_
          refine j_iadd E 87 dX8_integerSize_86 rfl ?_
          exact j_iret E B rfl 0 0 dX8_integerSize_87 (by repeat (first | with_reducible exact pick_0 | with_reducible apply pick_s | exact sel_0 | apply sel_s)) ⟨rfl, rfl, rfl, rfl⟩ (by omega) (by omega) (by omega) (by omega)
        have go2 : ¬ ((0 ≤ v.toInt ∧ v.toInt < 65536) ∨ (v.toInt < 0 ∧ -32768 ≤ v.toInt)) → ∀ l5 : Value, J X 5 [F] 0 0 88 [some (.long v), none, some (.int (bI false)), some (.int 2), some l5] [] := by
          intro hc l5
          refine j_iconst E (2) 89 dX8_integerSize_88 (by decide) rfl ?_
          refine j_iload_n E 90 dX8_integerSize_89 3 rfl rfl rfl ?_
          refine j_imul E 91 dX8_integerSize_90 rfl ?_
          refine j_eqi (y := 4) (by decide) ?_
          refine j_istore_n E 92 dX8_integerSize_91 3 rfl (Nat.le_of_ble_eq_true rfl) rfl rfl ?_
          dsimp only [List.set]
          refine j_goto E 27 dX8_integerSize_92 (by decide) ?_
          exact w4 _ (fun q => by omega) (fun q => by omega)
        refine j_iload_n E 28 dX8_integerSize_27 3 rfl rfl rfl ?_
        refine j_bipush E (8) 30 dX8_integerSize_28 (by decide) rfl ?_
        refine j_icmp_ge E 95 33 dX8_integerSize_30 (by decide) rfl (fun h30 => ?_) (fun h30 => ?_)
        · exact absurd h30 (by decide)
        · refine j_lload_n E 34 dX8_integerSize_33 0 rfl rfl rfl ?_
          refine j_lconst E 0 35 dX8_integerSize_34 rfl rfl ?_
          refine j_lcmp E 36 dX8_integerSize_35 rfl ?_
          refine j_if_lt E 58 39 dX8_integerSize_36 (by decide) rfl (fun h36 => ?_) (fun h36 => ?_)
          · have q0 : v.toInt < 0 := (fa_lt64 _ _).mp ((lg_cmp_lt _ _).mp h36)
            refine j_lload_n E 59 dX8_integerSize_58 0 rfl rfl rfl ?_
            refine j_lconst E 1 60 dX8_integerSize_59 rfl rfl ?_
            refine j_bipush E (8) 62 dX8_integerSize_60 (by decide) rfl ?_
            refine j_iload_n E 63 dX8_integerSize_62 3 rfl rfl rfl ?_
            refine j_imul E 64 dX8_integerSize_63 rfl ?_
            refine j_eqi (y := 16) (by decide) ?_
            refine j_iconst E (1) 65 dX8_integerSize_64 (by decide) rfl ?_
            refine j_isub E 66 dX8_integerSize_65 rfl ?_
            refine j_eqi (y := 15) (by decide) ?_
            refine j_lshl E 67 dX8_integerSize_66 rfl ?_
            refine j_eql (y := 32768) (by decide) ?_
            refine j_lneg E 68 dX8_integerSize_67 rfl ?_
            refine j_eql (y := -32768) (by decide) ?_
            refine j_lcmp E 69 dX8_integerSize_68 rfl ?_
            refine j_if_lt E 76 72 dX8_integerSize_69 (by decide) rfl (fun h69 => ?_) (fun h69 => ?_)
            · have q1 : v.toInt < -32768 := (fa_lt64 _ _).mp ((lg_cmp_lt _ _).mp h69)
              refine j_iconst E (0) 77 dX8_integerSize_76 (by decide) rfl ?_
              refine j_istore E 79 dX8_integerSize_77 (Nat.le_of_ble_eq_true rfl) rfl rfl ?_
              dsimp only [List.set]
              refine j_iload E 81 dX8_integerSize_79 rfl rfl ?_
              refine j_if_eq E 88 84 dX8_integerSize_81 (by decide) rfl (fun h81 => ?_) (fun h81 => ?_)
              · exact go2 (by omega) _
              · exact absurd rfl h81
            · have q1 : ¬ v.toInt < -32768 := fun q => h69 ((lg_cmp_lt _ _).mpr ((fa_lt64 v (-32768)).mpr q))
              refine j_iconst E (1) 73 dX8_integerSize_72 (by decide) rfl ?_
              refine j_goto E 77 dX8_integerSize_73 (by decide) ?_
              refine j_istore E 79 dX8_integerSize_77 (Nat.le_of_ble_eq_true rfl) rfl rfl ?_
              dsimp only [List.set]
              refine j_iload E 81 dX8_integerSize_79 rfl rfl ?_
              refine j_if_eq E 88 84 dX8_integerSize_81 (by decide) rfl (fun h81 => ?_) (fun h81 => ?_)
              · exact absurd h81 (by decide)
              · exact ret2 (by omega) _
          · have q0 : ¬ v.toInt < 0 := fun q => h36 ((lg_cmp_lt _ _).mpr ((fa_lt64 v 0).mpr q))
            refine j_lload_n E 40 dX8_integerSize_39 0 rfl rfl rfl ?_
            refine j_lconst E 1 41 dX8_integerSize_40 rfl rfl ?_
            refine j_bipush E (8) 43 dX8_integerSize_41 (by decide) rfl ?_
            refine j_iload_n E 44 dX8_integerSize_43 3 rfl rfl rfl ?_
            refine j_imul E 45 dX8_integerSize_44 rfl ?_
            refine j_eqi (y := 16) (by decide) ?_
            refine j_lshl E 46 dX8_integerSize_45 rfl ?_
            refine j_eql (y := 65536) (by decide) ?_
            refine j_lcmp E 47 dX8_integerSize_46 rfl ?_
            refine j_if_ge E 54 50 dX8_integerSize_47 (by decide) rfl (fun h47 => ?_) (fun h47 => ?_)
            · have q1 : 65536 ≤ v.toInt := (fa_le64 _ _).mp ((lg_cmp_ge _ _).mp h47)
              refine j_iconst E (0) 55 dX8_integerSize_54 (by decide) rfl ?_
              refine j_goto E 77 dX8_integerSize_55 (by decide) ?_
              refine j_istore E 79 dX8_integerSize_77 (Nat.le_of_ble_eq_true rfl) rfl rfl ?_
              dsimp only [List.set]
              refine j_iload E 81 dX8_integerSize_79 rfl rfl ?_
              refine j_if_eq E 88 84 dX8_integerSize_81 (by decide) rfl (fun h81 => ?_) (fun h81 => ?_)
              · exact go2 (by omega) _
              · exact absurd rfl h81
            · have q1 : ¬ 65536 ≤ v.toInt := fun q => h47 ((lg_cmp_ge _ _).mpr ((fa_le64 65536 v).mpr q))
              refine j_iconst E (1) 51 dX8_integerSize_50 (by decide) rfl ?_
              refine j_goto E 77 dX8_integerSize_51 (by decide) ?_
              refine j_istore E 79 dX8_integerSize_77 (Nat.le_of_ble_eq_true rfl) rfl rfl ?_
              dsimp only [List.set]
              refine j_iload E 81 dX8_integerSize_79 rfl rfl ?_
              refine j_if_eq E 88 84 dX8_integerSize_81 (by decide) rfl (fun h81 => ?_) (fun h81 => ?_)
              · exact absurd h81 (by decide)
              · exact ret2 (by omega) _
      have w1 : ∀ l4 : Option Value, (0 ≤ v.toInt → True) → (v.toInt < 0 → True) → J X 5 [F] 0 0 27 [some (.long v), none, some (.int (bI false)), some (.int 1), l4] [] := by
        intro l4 hp hn
        have done : ∀ k : Nat, intL v false = k → k < 100 → True := fun _ _ _ => trivial
        have ret1 : ((0 ≤ v.toInt ∧ v.toInt < 256) ∨ (v.toInt < 0 ∧ -128 ≤ v.toInt)) → ∀ l5 : Value, J X 5 [F] 0 0 84 [some (.long v), none, some (.int (bI false)), some (.int 1), some l5] [] := by
          intro hc l5
          have es : stN v false = 0 := by
            rw [stN, if_neg (by decide), if_neg hbig]
            rcases hc with hc | hc
            · rw [if_pos hc.1, if_pos (by omega)]
            · rw [if_neg (by omega), if_pos (by omega)]
          have el : intL v false = 2 := by rw [intL, es]; rfl
          rw [el] at B
          refine j_iconst E (1) 85 dX8_integerSize_84 (by decide) rfl ?_
          refine j_iload_n E 86 dX8_integerSize_85 3 rfl rfl rfl ?_
          refine j_iadd E 87 dX8_integerSize_86 rfl ?_
          exact j_iret E B rfl 0 0 dX8_integerSize_87 (by repeat (first | with_reducible exact pick_0 | with_reducible apply pick_s | exact sel_0 | apply sel_s)) ⟨rfl, rfl, rfl, rfl⟩ (by omega) (by omega) (by omega) (by omega)
        have go1 : ¬ ((0 ≤ v.toInt ∧ v.toInt < 256) ∨ (v.toInt < 0 ∧ -128 ≤ v.toInt)) → ∀ l5 : Value, J X 5 [F] 0 0 88 [some (.long v), none, some (.int (bI false)), some (.int 1), some l5] [] := by
          intro hc l5
          refine j_iconst E (2) 89 dX8_integerSize_88 (by decide) rfl ?_
          refine j_iload_n E 90 dX8_integerSize_89 3 rfl rfl rfl ?_
          refine j_imul E 91 dX8_integerSize_90 rfl ?_
          refine j_eqi (y := 2) (by decide) ?_
          refine j_istore_n E 92 dX8_integerSize_91 3 rfl (Nat.le_of_ble_eq_true rfl) rfl rfl ?_
          dsimp only [List.set]
          refine j_goto E 27 dX8_integerSize_92 (by decide) ?_
          exact w2 _ (fun q => by omega) (fun q => by omega)
        refine j_iload_n E 28 dX8_integerSize_27 3 rfl rfl rfl ?_
        refine j_bipush E (8) 30 dX8_integerSize_28 (by decide) rfl ?_
        refine j_icmp_ge E 95 33 dX8_integerSize_30 (by decide) rfl (fun h30 => ?_) (fun h30 => ?_)
        · exact absurd h30 (by decide)
        · refine j_lload_n E 34 dX8_integerSize_33 0 rfl rfl rfl ?_
          refine j_lconst E 0 35 dX8_integerSize_34 rfl rfl ?_
          refine j_lcmp E 36 dX8_integerSize_35 rfl ?_
          refine j_if_lt E 58 39 dX8_integerSize_36 (by decide) rfl (fun h36 => ?_) (fun h36 => ?_)
          · have q0 : v.toInt < 0 := (fa_lt64 _ _).mp ((lg_cmp_lt _ _).mp h36)
            refine j_lload_n E 59 dX8_integerSize_58 0 rfl rfl rfl ?_
            refine j_lconst E 1 60 dX8_integerSize_59 rfl rfl ?_
            refine j_bipush E (8) 62 dX8_integerSize_60 (by decide) rfl ?_
            refine j_iload_n E 63 dX8_integerSize_62 3 rfl rfl rfl ?_
            refine j_imul E 64 dX8_integerSize_63 rfl ?_
            refine j_eqi (y := 8) (by decide) ?_
            refine j_iconst E (1) 65 dX8_integerSize_64 (by decide) rfl ?_
            refine j_isub E 66 dX8_integerSize_65 rfl ?_
            refine j_eqi (y := 7) (by decide) ?_
            refine j_lshl E 67 dX8_integerSize_66 rfl ?_
            refine j_eql (y := 128) (by decide) ?_
            refine j_lneg E 68 dX8_integerSize_67 rfl ?_
            refine j_eql (y := -128) (by decide) ?_
            refine j_lcmp E 69 dX8_integerSize_68 rfl ?_
            refine j_if_lt E 76 72 dX8_integerSize_69 (by decide) rfl (fun h69 => ?_) (fun h69 => ?_)
            · have q1 : v.toInt < -128 := (fa_lt64 _ _).mp ((lg_cmp_lt _ _).mp h69)
              refine j_iconst E (0) 77 dX8_integerSize_76 (by decide) rfl ?_
              refine j_istore E 79 dX8_integerSize_77 (Nat.le_of_ble_eq_true rfl) rfl rfl ?_
              dsimp only [List.set]
              refine j_iload E 81 dX8_integerSize_79 rfl rfl ?_
              refine j_if_eq E 88 84 dX8_integerSize_81 (by decide) rfl (fun h81 => ?_) (fun h81 => ?_)
              · exact go1 (by omega) _
              · exact absurd rfl h81
            · have q1 : ¬ v.toInt < -128 := fun q => h69 ((lg_cmp_lt _ _).mpr ((fa_lt64 v (-128)).mpr q))
              refine j_iconst E (1) 73 dX8_integerSize_72 (by decide) rfl ?_
              refine j_goto E 77 dX8_integerSize_73 (by decide) ?_
              refine j_istore E 79 dX8_integerSize_77 (Nat.le_of_ble_eq_true rfl) rfl rfl ?_
              dsimp only [List.set]
              refine j_iload E 81 dX8_integerSize_79 rfl rfl ?_
              refine j_if_eq E 88 84 dX8_integerSize_81 (by decide) rfl (fun h81 => ?_) (fun h81 => ?_)
              · exact absurd h81 (by decide)
              · exact ret1 (by omega) _
          · have q0 : ¬ v.toInt < 0 := fun q => h36 ((lg_cmp_lt _ _).mpr ((fa_lt64 v 0).mpr q))
            refine j_lload_n E 40 dX8_integerSize_39 0 rfl rfl rfl ?_
            refine j_lconst E 1 41 dX8_integerSize_40 rfl rfl ?_
            refine j_bipush E (8) 43 dX8_integerSize_41 (by decide) rfl ?_
            refine j_iload_n E 44 dX8_integerSize_43 3 rfl rfl rfl ?_
            refine j_imul E 45 dX8_integerSize_44 rfl ?_
            refine j_eqi (y := 8) (by decide) ?_
            refine j_lshl E 46 dX8_integerSize_45 rfl ?_
            refine j_eql (y := 256) (by decide) ?_
            refine j_lcmp E 47 dX8_integerSize_46 rfl ?_
            refine j_if_ge E 54 50 dX8_integerSize_47 (by decide) rfl (fun h47 => ?_) (fun h47 => ?_)
            · have q1 : 256 ≤ v.toInt := (fa_le64 _ _).mp ((lg_cmp_ge _ _).mp h47)
              refine j_iconst E (0) 55 dX8_integerSize_54 (by decide) rfl ?_
              refine j_goto E 77 dX8_integerSize_55 (by decide) ?_
              refine j_istore E 79 dX8_integerSize_77 (Nat.le_of_ble_eq_true rfl) rfl rfl ?_
              dsimp only [List.set]
              refine j_iload E 81 dX8_integerSize_79 rfl rfl ?_
              refine j_if_eq E 88 84 dX8_integerSize_81 (by decide) rfl (fun h81 => ?_) (fun h81 => ?_)
              · exact go1 (by omega) _
              · exact absurd rfl h81
            · have q1 : ¬ 256 ≤ v.toInt := fun q => h47 ((lg_cmp_ge _ _).mpr ((fa_le64 256 v).mpr q))
              refine j_iconst E (1) 51 dX8_integerSize_50 (by decide) rfl ?_
              refine j_goto E 77 dX8_integerSize_51 (by decide) ?_
              refine j_istore E 79 dX8_integerSize_77 (Nat.le_of_ble_eq_true rfl) rfl rfl ?_
              dsimp only [List.set]
              refine j_iload E 81 dX8_integerSize_79 rfl rfl ?_
              refine j_if_eq E 88 84 dX8_integerSize_81 (by decide) rfl (fun h81 => ?_) (fun h81 => ?_)
              · exact absurd h81 (by decide)
              · exact ret1 (by omega) _
      refine j_iconst E (1) 26 dX8_integerSize_25 (by decide) rfl ?_
      refine j_istore_n E 27 dX8_integerSize_26 3 rfl (Nat.le_of_ble_eq_true rfl) rfl rfl ?_
      dsimp only [List.set]
      exact w1 _ (fun _ => trivial) (fun _ => trivial)
    refine j_iload_n E 1 dX8_integerSize_0 2 rfl rfl rfl ?_
    refine j_if_eq E 7 4 dX8_integerSize_1 (by decide) rfl (fun h1 => ?_) (fun h1 => ?_)
    · refine j_lload_n E 8 dX8_integerSize_7 0 rfl rfl rfl ?_
      refine j_ldcL E _ 11 dX8_integerSize_8 kc_X8_217 rfl ?_
      refine j_lcmp E 12 dX8_integerSize_11 rfl ?_
      refine j_if_lt E 25 15 dX8_integerSize_12 (by decide) rfl (fun h12 => ?_) (fun h12 => ?_)
      · have q1 : v.toInt < -32 := (fa_lt64 _ _).mp ((lg_cmp_lt _ _).mp h12)
        exact big (by omega)
      · have q1 : ¬ v.toInt < -32 := fun q => h12 ((lg_cmp_lt _ _).mpr ((fa_lt64 v (-32)).mpr q))
        refine j_lload_n E 16 dX8_integerSize_15 0 rfl rfl rfl ?_
        refine j_ldcL E _ 19 dX8_integerSize_16 kc_X8_219 rfl ?_
        refine j_lcmp E 20 dX8_integerSize_19 rfl ?_
        refine j_if_ge E 25 23 dX8_integerSize_20 (by decide) rfl (fun h20 => ?_) (fun h20 => ?_)
        · have q2 : (128 : Int) ≤ v.toInt := (fa_le64 _ _).mp ((lg_cmp_ge _ _).mp h20)
          exact big (by omega)
        · have q2 : ¬ (128 : Int) ≤ v.toInt := fun q => h20 ((lg_cmp_ge _ _).mpr ((fa_le64 128 v).mpr q))
          have e : stN v false = 4 := by rw [stN, if_neg (by decide), if_pos (by omega)]
          have el : intL v false = 1 := by rw [intL, e]; rfl
          rw [el] at B
          refine j_iconst E (1) 24 dX8_integerSize_23 (by decide) rfl ?_
          exact j_iret E B rfl 0 0 dX8_integerSize_24 (by repeat (first | with_reducible exact pick_0 | with_reducible apply pick_s | exact sel_0 | apply sel_s)) ⟨rfl, rfl, rfl, rfl⟩ (by omega) (by omega) (by omega) (by omega)
    · exact absurd rfl h1
  · have el : intL v true = 9 := rfl
    rw [el] at B
    refine j_iload_n E 1 dX8_integerSize_0 2 rfl rfl rfl ?_
    refine j_if_eq E 7 4 dX8_integerSize_1 (by decide) rfl (fun h1 => ?_) (fun h1 => ?_)
    · exact absurd h1 (by decide)
    · refine j_bipush E (9) 6 dX8_integerSize_4 (by decide) rfl ?_
      exact j_iret E B rfl 0 0 dX8_integerSize_6 (by repeat (first | with_reducible exact pick_0 | with_reducible apply pick_s | exact sel_0 | apply sel_s)) ⟨rfl, rfl, rfl, rfl⟩ (by omega) (by omega) (by omega) (by omega)

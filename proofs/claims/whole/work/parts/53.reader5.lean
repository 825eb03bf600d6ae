/-! Reader: readValue, by readGroup -/
theorem rdQ_leaf2 {g : GT} {z : Nat → Nat} {rd ld gr tp vl i e m np nb capV capG cap2 k h b : Nat} {bs : List UInt8} {cd pl ty : Int32} {vs : List VE} {gs : List Nat} {R : RO} {o : Option Value} {dc ds : Nat} {ws' : List Asn} (hgs : ∀ j ∈ gs, j < vs.length) (hR : ∀ x, R = .inr x → x.2.2.2.2.2 = gs) (hv : vs.length ≤ 3000) (h1 : i < e) (hm : m ≤ e - i) (hq : leafQ g z rd ld gr e cd pl vl vs np nb capV m [LEA ld k h b ty, ROW g tp bs cap2] R o dc ds ws') : ∃ ws2, rdQ g z rd ld gr tp vl bs cap2 i cd pl vs capV capG R o dc ds ws2 ∧ ∀ (F : Asn) w, sepL (ws' ++ [LST g z gr (gad vs gs) capG, F]) w → sepL (ws2 ++ [F]) w := by
  have e8 : ∃ ws4, leafQ g z rd ld gr e cd pl vl vs np nb capV m [LEAx ld, ROW g tp bs cap2, LST g z gr (gad vs gs) capG] R o dc ds ws4 ∧ ∀ (F : Asn) w, sepL (ws' ++ [LST g z gr (gad vs gs) capG, F]) w → sepL (ws4 ++ [F]) w := by
    have key : ∀ (P Q : Asn) (F : Asn) w, sepL ([P, Q, LEA ld k h b ty, ROW g tp bs cap2] ++ [LST g z gr (gad vs gs) capG, F]) w → sepL ([P, Q, LEAx ld, ROW g tp bs cap2, LST g z gr (gad vs gs) capG] ++ [F]) w := by
      rintro P Q F w ⟨w1, w2, hp, a1, w3, w4, hp2, a2, w5, w6, hp3, a3, a4⟩
      exact ⟨w1, w2, hp, a1, w3, w4, hp2, a2, w5, w6, hp3, leax_of w5 (sep_sing a3), a4⟩
    rcases R with x | x
    · obtain ⟨rfl, rfl, rfl, rfl⟩ := hq
      exact ⟨_, ⟨rfl, rfl, rfl, rfl⟩, fun F w hw => key _ _ F w hw⟩
    · obtain ⟨ads, xcap, f1, rfl, f2, rfl, f3, f4, f5, f6⟩ := hq
      exact ⟨_, ⟨ads, xcap, f1, rfl, f2, rfl, f3, f4, f5, f6⟩, fun F w hw => key _ _ F w hw⟩
  obtain ⟨ws4, q1, q2⟩ := e8
  obtain ⟨ws2, q3, q4⟩ := rdQ_leaf hgs hR hv h1 hm q1
  refine ⟨ws2, q3, fun F w hw => ?_⟩
  obtain ⟨u1, u2, hp, b1, b2⟩ := q4 [F] w (q2 F w hw)
  have h3 : u2 = [] := b2
  subst h3
  rw [List.append_nil] at hp
  exact sepL_perm hp b1
theorem leafQ_dc {g : GT} {z : Nat → Nat} {rd ld gr e vl np nb cap m dc ds : Nat} {cd pl : Int32} {vs : List VE} {ex ws' : List Asn} {R : RO} {o : Option Value} (h : leafQ g z rd ld gr e cd pl vl vs np nb cap m ex R o dc ds ws') : dc ≤ 3 ∧ ds ≤ 20008 + m := by
  rcases R with x | x
  · obtain ⟨-, rfl, rfl, -⟩ := h
    omega
  · obtain ⟨ads, xcap, f1, -, f2, -, f3, f4, f5, f6⟩ := h
    exact ⟨f5, f6⟩
theorem leafQ_int {g : GT} {z : Nat → Nat} {rd ld gr e vl np nb cap m dc ds : Nat} {cd pl : Int32} {vs : List VE} {ex ws' : List Asn} {R : RO} {o : Option Value} (h : leafQ g z rd ld gr e cd pl vl vs np nb cap m ex R o dc ds ws') : ∃ v : Int32, o = some (.int v) := by
  rcases R with x | x
  · exact ⟨_, h.1⟩
  · obtain ⟨ads, xcap, f1, f0, -⟩ := h
    exact ⟨_, f0⟩
theorem rdQ_int {g : GT} {z : Nat → Nat} {rd ld gr tp vl i capV capG cap2 dc ds : Nat} {bs : List UInt8} {cd pl : Int32} {vs : List VE} {R : RO} {o : Option Value} {ws' : List Asn} (h : rdQ g z rd ld gr tp vl bs cap2 i cd pl vs capV capG R o dc ds ws') : ∃ v : Int32, o = some (.int v) := by
  rcases R with x | x
  · obtain ⟨_, _, _, _, _, _, _, f0, -⟩ := h
    exact ⟨_, f0⟩
  · obtain ⟨_, _, _, _, f0, -⟩ := h
    exact ⟨_, f0⟩
/-- what readGroup keeps -/
def RDG (g : GT) (z : Nat → Nat) (f : Nat) (sub : List UInt8 → Option (Nat → Nat → Nat → Nat → List Nat → RO)) : Prop :=
  ∀ (d M N rd ld gr tp vl i np nb capV capG cap2 k h b : Nat) (cd pl ty : Int32) (bs : List UInt8) (vs : List VE) (gs : List Nat), 2 * f + 13 ≤ d → OKs vs.length np nb gs → (k = 7 ∨ k = 8) → 1 ≤ h → i + h ≤ bs.length → b < 2 ^ 33 → bs.length ≤ 100000 →
    160200 + 50 * (bs.length - i) ≤ 20 * M + 4 * (capV + capG) → 200000 + 21 * (bs.length - i) ≤ N + 4 * (capV + capG) →
    CtrV g mX4_readGroup 3 d M N rd [.ref tp, .ref vl, .int (nI i), .int (nI (24 - f))] [RDR rd ld gr (i + h) cd pl, LEA ld k h b ty, ROW g tp bs cap2, LST g z gr (gad vs gs) capG, VLS g z vl vs np nb capV] (fun o dc ds ws' => rdQ g z rd ld gr tp vl bs cap2 i cd pl vs capV capG (rdGroup (sub bs) i vs.length np nb gs k h b) o dc ds ws' ∧ dc ≤ M ∧ ds ≤ N) noX
def RDV (g : GT) (z : Nat → Nat) (f : Nat) : Prop :=
  ∀ (d M N rd ld gr tp vl i np nb capV capG cap2 : Nat) (cd pl : Int32) (bs : List UInt8) (vs : List VE) (gs : List Nat), 2 * f + 14 ≤ d → OKs vs.length np nb gs → i ≤ bs.length → bs.length ≤ 100000 →
    160200 + 50 * (bs.length - i) ≤ 20 * M + 4 * (capV + capG) → 200000 + 21 * (bs.length - i) ≤ N + 4 * (capV + capG) →
    CtrV g mX4_readValue 3 d M N rd [.ref tp, .ref vl, .int (nI (24 - f))] [RDR rd ld gr i cd pl, LEAx ld, ROW g tp bs cap2, LST g z gr (gad vs gs) capG, VLS g z vl vs np nb capV] (fun o dc ds ws' => rdQ g z rd ld gr tp vl bs cap2 i cd pl vs capV capG (rdV bs f i vs.length np nb gs) o dc ds ws' ∧ dc ≤ M ∧ ds ≤ N) noX
theorem rdQ_inl {g : GT} {z : Nat → Nat} {rd ld gr tp vl e i np nb capV capG cap2 c p : Nat} {cd pl : Int32} {bs : List UInt8} {vs : List VE} {xs : List Nat} (hv : vs.length ≤ 3000) : rdQ g z rd ld gr tp vl bs cap2 i cd pl vs capV capG (.inl (c, p)) (some (.int (-1))) 0 0 [RDR rd ld gr e (nI c) (nI p), LEAx ld, ROW g tp bs cap2, LST g z gr xs capG, VLS g z vl vs np nb capV] :=
  ⟨e, [], np, nb, capV, capG, xs, rfl, by rw [List.append_nil], by rw [List.append_nil]; exact hv, by omega, by omega⟩
set_option maxHeartbeats 8000000 in
theorem c_rd_value {g : GT} {z : Nat → Nat} (hA : GA g z) {f : Nat} {sub : List UInt8 → Option (Nat → Nat → Nat → Nat → List Nat → RO)} (hf : ∀ bs, rdV bs f = rdOne (sub bs) bs) (hgrp : RDG g z f sub) : RDV g z f := by
  intro d M N rd ld gr tp vl i np nb capV capG cap2 cd pl bs vs gs hd hok hi hb hM hN
  refine ⟨rcv_pt, ?_⟩
  have hG := hA.1
  rw [hf bs]
  refine ctr_intro hG (by decide +kernel) (Nat.le_of_ble_eq_true rfl) ?_
  rintro X F rfl E B hI T
  replace E : JE X RX4 cX4_readValue 5 d M N := E
  show J X _ [RDR rd ld gr i cd pl, LEAx ld, ROW X.1 tp bs cap2, LST X.1 z gr (gad vs gs) capG, VLS X.1 z vl vs np nb capV, F] 0 0 0 [some (.ref rd), some (.ref tp), some (.ref vl), some (.int (nI (24 - f))), none] []
  refine j_know (pick_know (P := LST X.1 z gr (gad vs gs) capG) (by repeat (first | with_reducible exact pick_0 | with_reducible apply pick_s)) lst_know) (fun hcG => ?_)
  refine j_know (pick_know (P := VLS X.1 z vl vs np nb capV) (by repeat (first | with_reducible exact pick_0 | with_reducible apply pick_s)) vls_know) (fun hcV => ?_)
  have hgs := hok.2.2.2.2
  refine j_aload_n E 1 dX4_readValue_0 0 rfl rfl rfl ?_
  refine j_getf E 4 dX4_readValue_1 fl_X4_38 (by repeat (first | with_reducible exact pick_0 | with_reducible apply pick_s)) (by rfl) rfl ?_
  refine j_istore E 6 dX4_readValue_4 (Nat.le_of_ble_eq_true rfl) rfl rfl ?_
  dsimp only [List.set]
  refine j_iload E 8 dX4_readValue_6 rfl rfl ?_
  refine j_aload_n E 9 dX4_readValue_8 1 rfl rfl rfl ?_
  refine j_callV E (c_row_size hG (d-1) tp cap2 bs) 12 dX4_readValue_9 _ _ _ iv_X4_51 rfl rfl rfl (by repeat (first | with_reducible exact pick_0 | with_reducible apply pick_s | exact sel_0 | apply sel_s)) (by omega) (by omega) (by omega) (Nat.le_of_ble_eq_true rfl) rfl ?_
  rintro _ _ _ _ ⟨rfl, rfl, rfl, rfl⟩
  dsimp only [List.cons_append, List.nil_append, Option.toList]
  refine j_icmp_lt E 23 15 dX4_readValue_12 (by decide) rfl (fun h12 => ?_) (fun h12 => ?_)
  · have q12 : i < (bs.length) := (nI_ltI (a := i) (b := (bs.length)) (by omega) (by omega)).mp h12
    refine j_open (P := LEAx ld) (by repeat (first | with_reducible exact pick_0 | with_reducible apply pick_s)) leax_open ?_
    rintro ⟨k9, h9, b9, t9⟩ -
    dsimp only [List.cons_append, List.nil_append]
    refine j_aload_n E 24 dX4_readValue_23 0 rfl rfl rfl ?_
    refine j_getf E 27 dX4_readValue_24 fl_X4_12 (by repeat (first | with_reducible exact pick_0 | with_reducible apply pick_s)) (by rfl) rfl ?_
    refine j_aload_n E 28 dX4_readValue_27 1 rfl rfl rfl ?_
    refine j_iload E 30 dX4_readValue_28 rfl rfl ?_
    refine j_callV E (c_ld_look hA (d-1) ld tp cap2 i k9 h9 t9 b9 bs (by omega) q12 hb) 33 dX4_readValue_30 _ _ _ iv_X4_65 rfl rfl rfl (by repeat (first | with_reducible exact pick_0 | with_reducible apply pick_s | exact sel_0 | apply sel_s)) (by omega) (by omega) (by omega) (Nat.le_of_ble_eq_true rfl) rfl ?_
    rintro _ _ _ _ ⟨rfl, rfl, rfl, rfl⟩
    dsimp only [List.cons_append, List.nil_append, Option.toList]
    have hlk := lead_ok bs i
    have hsm := lead_small (bs := bs) (i := i)
    rw [rdOne, if_neg (by omega)] at B
    obtain ⟨L, hL⟩ : ∃ L, L = lead bs i := ⟨_, rfl⟩
    rw [← hL] at B hlk hsm ⊢
    obtain ⟨k, h, b, ty⟩ := L
    dsimp only at B hlk hsm ⊢
    refine j_aload_n E 34 dX4_readValue_33 0 rfl rfl rfl ?_
    refine j_getf E 37 dX4_readValue_34 fl_X4_12 (by repeat (first | with_reducible exact pick_0 | with_reducible apply pick_s)) (by rfl) rfl ?_
    refine j_getfN E 40 dX4_readValue_37 fl_X4_69 (by repeat (first | with_reducible exact pick_0 | with_reducible apply pick_s)) (by rfl) rfl ?_
    refine j_iconst E (-1) 41 dX4_readValue_40 (by decide) rfl ?_
    refine j_icmp_ne E 52 44 dX4_readValue_41 (by decide) rfl (fun h41 => ?_) (fun h41 => ?_)
    · have qk : ¬ k = 12 := fun q => h41 ((kI_eq hlk.1 (b := 12) (by decide)).mpr q)
      rw [if_neg qk] at B
      refine j_aload_n E 53 dX4_readValue_52 0 rfl rfl rfl ?_
      refine j_getf E 56 dX4_readValue_53 fl_X4_12 (by repeat (first | with_reducible exact pick_0 | with_reducible apply pick_s)) (by rfl) rfl ?_
      refine j_callV E (c_ld_own hG (d-1) ld k h b ty hlk.1 (by omega) (by omega)) 59 dX4_readValue_56 _ _ _ iv_X4_72 rfl rfl rfl (by repeat (first | with_reducible exact pick_0 | with_reducible apply pick_s | exact sel_0 | apply sel_s)) (by omega) (by omega) (by omega) (Nat.le_of_ble_eq_true rfl) rfl ?_
      rintro _ _ _ _ ⟨rfl, rfl, rfl, rfl⟩
      dsimp only [List.cons_append, List.nil_append, Option.toList]
      have hob : ownB k h b < 2 ^ 40 := by
        unfold ownB
        split <;> omega
      refine j_aload_n E 60 dX4_readValue_59 1 rfl rfl rfl ?_
      refine j_callV E (c_row_size hG (d-1) tp cap2 bs) 63 dX4_readValue_60 _ _ _ iv_X4_51 rfl rfl rfl (by repeat (first | with_reducible exact pick_0 | with_reducible apply pick_s | exact sel_0 | apply sel_s)) (by omega) (by omega) (by omega) (Nat.le_of_ble_eq_true rfl) rfl ?_
      rintro _ _ _ _ ⟨rfl, rfl, rfl, rfl⟩
      dsimp only [List.cons_append, List.nil_append, Option.toList]
      refine j_iload E 65 dX4_readValue_63 rfl rfl ?_
      refine j_isub E 66 dX4_readValue_65 rfl ?_
      refine j_eqi (y := nI (bs.length - i)) (pk_sub (by omega)) ?_
      refine j_i2l E 67 dX4_readValue_66 rfl ?_
      rw [nI_l (by omega)]
      refine j_lcmp E 68 dX4_readValue_67 rfl ?_
      refine j_if_le E 79 71 dX4_readValue_68 (by decide) rfl (fun h68 => ?_) (fun h68 => ?_)
      · have qo : ownB k h b ≤ bs.length - i := (lN_leB (by omega) (by omega)).mp ((lg_cmp_le _ _).mp h68)
        rw [if_neg (by omega)] at B
        refine j_aload_n E 80 dX4_readValue_79 0 rfl rfl rfl ?_
        refine j_iload E 82 dX4_readValue_80 rfl rfl ?_
        refine j_aload_n E 83 dX4_readValue_82 0 rfl rfl rfl ?_
        refine j_getf E 86 dX4_readValue_83 fl_X4_12 (by repeat (first | with_reducible exact pick_0 | with_reducible apply pick_s)) (by rfl) rfl ?_
        refine j_callV E (c_ld_own hG (d-1) ld k h b ty hlk.1 (by omega) (by omega)) 89 dX4_readValue_86 _ _ _ iv_X4_72 rfl rfl rfl (by repeat (first | with_reducible exact pick_0 | with_reducible apply pick_s | exact sel_0 | apply sel_s)) (by omega) (by omega) (by omega) (Nat.le_of_ble_eq_true rfl) rfl ?_
        rintro _ _ _ _ ⟨rfl, rfl, rfl, rfl⟩
        dsimp only [List.cons_append, List.nil_append, Option.toList]
        refine j_l2i E 90 dX4_readValue_89 rfl ?_
        rw [lN_i]
        refine j_iadd E 91 dX4_readValue_90 rfl ?_
        refine j_eqi (nI_add i (ownB k h b)) ?_
        refine j_putf E 94 dX4_readValue_91 fl_X4_38 (by repeat (first | with_reducible exact pick_0 | with_reducible apply pick_s)) rfl rfl (Nat.le_of_ble_eq_true rfl) rfl ?_
        dsimp only [List.set]
        refine j_aload_n E 95 dX4_readValue_94 0 rfl rfl rfl ?_
        refine j_getf E 98 dX4_readValue_95 fl_X4_12 (by repeat (first | with_reducible exact pick_0 | with_reducible apply pick_s)) (by rfl) rfl ?_
        refine j_getfN E 101 dX4_readValue_98 fl_X4_69 (by repeat (first | with_reducible exact pick_0 | with_reducible apply pick_s)) (by rfl) rfl ?_
        have ek : k = 0 ∨ k = 1 ∨ k = 2 ∨ k = 3 ∨ k = 4 ∨ k = 5 ∨ k = 6 ∨ k = 7 ∨ k = 8 ∨ k = 9 ∨ k = 10 ∨ k = 11 := by omega
        rcases ek with e | e | e | e | e | e | e | e | e | e | e | e
        · subst e
          have eo : ownB 0 h b = h + b := by rw [ownB, if_neg (by decide)]
          rw [eo] at qo ⊢
          have eR : rdLeaf bs i vs.length np nb gs 0 h b ty = rdPlain bs i vs.length np nb gs 0 h b := by rw [rdLeaf, if_neg (by decide), if_neg (by decide), if_neg (by decide)]
          rw [if_neg (by decide), eR] at B
          refine j_tableOut E 180 dX4_readValue_101 (by decide) (by decide) ?_
          refine j_aload_n E 181 dX4_readValue_180 0 rfl rfl rfl ?_
          refine j_aload_n E 182 dX4_readValue_181 1 rfl rfl rfl ?_
          refine j_aload_n E 183 dX4_readValue_182 2 rfl rfl rfl ?_
          refine j_iload E 185 dX4_readValue_183 rfl rfl ?_
          refine j_callV E (c_rd_plain hA (d-1) rd ld gr vl tp np nb capV cap2 i 0 h b cd pl ty bs vs gs (by omega) (by decide) hlk.2.1 (hsm (by decide)) hok.1 (by have := hok.2.2.1; omega) (by omega) hb) 188 dX4_readValue_185 _ _ _ iv_X4_100 rfl rfl rfl (by repeat (first | with_reducible exact pick_0 | with_reducible apply pick_s | exact sel_0 | apply sel_s)) (by omega) (by omega) (by omega) (Nat.le_of_ble_eq_true rfl) rfl ?_
          rintro o xdc xds ws' hq
          have hdc := leafQ_dc hq
          obtain ⟨v, rfl⟩ := leafQ_int hq
          obtain ⟨ws2, q1, q2⟩ := rdQ_leaf2 (i := i) (e := i + (h + b)) hgs (fun x e => rdLeaf_gs (eR.trans e)) hok.1 (by omega) (by omega) hq
          refine j_mono (q2 F) ?_
          exact j_iret E B rfl xdc xds dX4_readValue_188 sel_refl ⟨q1, by omega, by omega⟩ (by omega) (by omega) (by omega) (by omega)
        · subst e
          have eo : ownB 1 h b = h + b := by rw [ownB, if_neg (by decide)]
          rw [eo] at qo ⊢
          have eR : rdLeaf bs i vs.length np nb gs 1 h b ty = rdPlain bs i vs.length np nb gs 1 h b := by rw [rdLeaf, if_neg (by decide), if_neg (by decide), if_neg (by decide)]
          rw [if_neg (by decide), eR] at B
          refine j_tableOut E 180 dX4_readValue_101 (by decide) (by decide) ?_
          refine j_aload_n E 181 dX4_readValue_180 0 rfl rfl rfl ?_
          refine j_aload_n E 182 dX4_readValue_181 1 rfl rfl rfl ?_
          refine j_aload_n E 183 dX4_readValue_182 2 rfl rfl rfl ?_
          refine j_iload E 185 dX4_readValue_183 rfl rfl ?_
          refine j_callV E (c_rd_plain hA (d-1) rd ld gr vl tp np nb capV cap2 i 1 h b cd pl ty bs vs gs (by omega) (by decide) hlk.2.1 (hsm (by decide)) hok.1 (by have := hok.2.2.1; omega) (by omega) hb) 188 dX4_readValue_185 _ _ _ iv_X4_100 rfl rfl rfl (by repeat (first | with_reducible exact pick_0 | with_reducible apply pick_s | exact sel_0 | apply sel_s)) (by omega) (by omega) (by omega) (Nat.le_of_ble_eq_true rfl) rfl ?_
          rintro o xdc xds ws' hq
          have hdc := leafQ_dc hq
          obtain ⟨v, rfl⟩ := leafQ_int hq
          obtain ⟨ws2, q1, q2⟩ := rdQ_leaf2 (i := i) (e := i + (h + b)) hgs (fun x e => rdLeaf_gs (eR.trans e)) hok.1 (by omega) (by omega) hq
          refine j_mono (q2 F) ?_
          exact j_iret E B rfl xdc xds dX4_readValue_188 sel_refl ⟨q1, by omega, by omega⟩ (by omega) (by omega) (by omega) (by omega)
        · subst e
          have eo : ownB 2 h b = h + b := by rw [ownB, if_neg (by decide)]
          rw [eo] at qo ⊢
          have eR : rdLeaf bs i vs.length np nb gs 2 h b ty = rdPlain bs i vs.length np nb gs 2 h b := by rw [rdLeaf, if_neg (by decide), if_neg (by decide), if_neg (by decide)]
          rw [if_neg (by decide), eR] at B
          refine j_tableOut E 180 dX4_readValue_101 (by decide) (by decide) ?_
          refine j_aload_n E 181 dX4_readValue_180 0 rfl rfl rfl ?_
          refine j_aload_n E 182 dX4_readValue_181 1 rfl rfl rfl ?_
          refine j_aload_n E 183 dX4_readValue_182 2 rfl rfl rfl ?_
          refine j_iload E 185 dX4_readValue_183 rfl rfl ?_
          refine j_callV E (c_rd_plain hA (d-1) rd ld gr vl tp np nb capV cap2 i 2 h b cd pl ty bs vs gs (by omega) (by decide) hlk.2.1 (hsm (by decide)) hok.1 (by have := hok.2.2.1; omega) (by omega) hb) 188 dX4_readValue_185 _ _ _ iv_X4_100 rfl rfl rfl (by repeat (first | with_reducible exact pick_0 | with_reducible apply pick_s | exact sel_0 | apply sel_s)) (by omega) (by omega) (by omega) (Nat.le_of_ble_eq_true rfl) rfl ?_
          rintro o xdc xds ws' hq
          have hdc := leafQ_dc hq
          obtain ⟨v, rfl⟩ := leafQ_int hq
          obtain ⟨ws2, q1, q2⟩ := rdQ_leaf2 (i := i) (e := i + (h + b)) hgs (fun x e => rdLeaf_gs (eR.trans e)) hok.1 (by omega) (by omega) hq
          refine j_mono (q2 F) ?_
          exact j_iret E B rfl xdc xds dX4_readValue_188 sel_refl ⟨q1, by omega, by omega⟩ (by omega) (by omega) (by omega) (by omega)
        · subst e
          have eo : ownB 3 h b = h + b := by rw [ownB, if_neg (by decide)]
          rw [eo] at qo ⊢
          have eR : rdLeaf bs i vs.length np nb gs 3 h b ty = rdPlain bs i vs.length np nb gs 3 h b := by rw [rdLeaf, if_neg (by decide), if_neg (by decide), if_neg (by decide)]
          rw [if_neg (by decide), eR] at B
          refine j_tableOut E 180 dX4_readValue_101 (by decide) (by decide) ?_
          refine j_aload_n E 181 dX4_readValue_180 0 rfl rfl rfl ?_
          refine j_aload_n E 182 dX4_readValue_181 1 rfl rfl rfl ?_
          refine j_aload_n E 183 dX4_readValue_182 2 rfl rfl rfl ?_
          refine j_iload E 185 dX4_readValue_183 rfl rfl ?_
          refine j_callV E (c_rd_plain hA (d-1) rd ld gr vl tp np nb capV cap2 i 3 h b cd pl ty bs vs gs (by omega) (by decide) hlk.2.1 (hsm (by decide)) hok.1 (by have := hok.2.2.1; omega) (by omega) hb) 188 dX4_readValue_185 _ _ _ iv_X4_100 rfl rfl rfl (by repeat (first | with_reducible exact pick_0 | with_reducible apply pick_s | exact sel_0 | apply sel_s)) (by omega) (by omega) (by omega) (Nat.le_of_ble_eq_true rfl) rfl ?_
          rintro o xdc xds ws' hq
          have hdc := leafQ_dc hq
          obtain ⟨v, rfl⟩ := leafQ_int hq
          obtain ⟨ws2, q1, q2⟩ := rdQ_leaf2 (i := i) (e := i + (h + b)) hgs (fun x e => rdLeaf_gs (eR.trans e)) hok.1 (by omega) (by omega) hq
          refine j_mono (q2 F) ?_
          exact j_iret E B rfl xdc xds dX4_readValue_188 sel_refl ⟨q1, by omega, by omega⟩ (by omega) (by omega) (by omega) (by omega)
        · subst e
          have eo : ownB 4 h b = h + b := by rw [ownB, if_neg (by decide)]
          rw [eo] at qo ⊢
          have eR : rdLeaf bs i vs.length np nb gs 4 h b ty = rdPlain bs i vs.length np nb gs 4 h b := by rw [rdLeaf, if_neg (by decide), if_neg (by decide), if_neg (by decide)]
          rw [if_neg (by decide), eR] at B
          refine j_tableOut E 180 dX4_readValue_101 (by decide) (by decide) ?_
          refine j_aload_n E 181 dX4_readValue_180 0 rfl rfl rfl ?_
          refine j_aload_n E 182 dX4_readValue_181 1 rfl rfl rfl ?_
          refine j_aload_n E 183 dX4_readValue_182 2 rfl rfl rfl ?_
          refine j_iload E 185 dX4_readValue_183 rfl rfl ?_
          refine j_callV E (c_rd_plain hA (d-1) rd ld gr vl tp np nb capV cap2 i 4 h b cd pl ty bs vs gs (by omega) (by decide) hlk.2.1 (hsm (by decide)) hok.1 (by have := hok.2.2.1; omega) (by omega) hb) 188 dX4_readValue_185 _ _ _ iv_X4_100 rfl rfl rfl (by repeat (first | with_reducible exact pick_0 | with_reducible apply pick_s | exact sel_0 | apply sel_s)) (by omega) (by omega) (by omega) (Nat.le_of_ble_eq_true rfl) rfl ?_
          rintro o xdc xds ws' hq
          have hdc := leafQ_dc hq
          obtain ⟨v, rfl⟩ := leafQ_int hq
          obtain ⟨ws2, q1, q2⟩ := rdQ_leaf2 (i := i) (e := i + (h + b)) hgs (fun x e => rdLeaf_gs (eR.trans e)) hok.1 (by omega) (by omega) hq
          refine j_mono (q2 F) ?_
          exact j_iret E B rfl xdc xds dX4_readValue_188 sel_refl ⟨q1, by omega, by omega⟩ (by omega) (by omega) (by omega) (by omega)
        · subst e
          have eo : ownB 5 h b = h + b := by rw [ownB, if_neg (by decide)]
          rw [eo] at qo ⊢
          have eR : rdLeaf bs i vs.length np nb gs 5 h b ty = rdRow bs i vs.length np nb gs 5 h b ty := if_pos (by decide)
          rw [if_neg (by decide), eR] at B
          refine j_tableIn E (off := 53) 154 dX4_readValue_101 (by decide) (by decide) (by rfl) (by decide) ?_
          refine j_aload_n E 155 dX4_readValue_154 0 rfl rfl rfl ?_
          refine j_aload_n E 156 dX4_readValue_155 1 rfl rfl rfl ?_
          refine j_aload_n E 157 dX4_readValue_156 2 rfl rfl rfl ?_
          refine j_iload E 159 dX4_readValue_157 rfl rfl ?_
          refine j_callV E (c_rd_row hA (d-1) rd ld gr vl tp np nb capV cap2 i 5 h b cd pl ty bs vs gs (by omega) (by decide) hok.1 (by have := hok.2.2.1; omega) (by omega) hb) 162 dX4_readValue_159 _ _ _ iv_X4_90 rfl rfl rfl (by repeat (first | with_reducible exact pick_0 | with_reducible apply pick_s | exact sel_0 | apply sel_s)) (by omega) (by omega) (by omega) (Nat.le_of_ble_eq_true rfl) rfl ?_
          rintro o xdc xds ws' hq
          have hdc := leafQ_dc hq
          obtain ⟨v, rfl⟩ := leafQ_int hq
          obtain ⟨ws2, q1, q2⟩ := rdQ_leaf2 (i := i) (e := i + (h + b)) hgs (fun x e => rdLeaf_gs (eR.trans e)) hok.1 (by omega) (by omega) hq
          refine j_mono (q2 F) ?_
          exact j_iret E B rfl xdc xds dX4_readValue_162 sel_refl ⟨q1, by omega, by omega⟩ (by omega) (by omega) (by omega) (by omega)
        · subst e
          have eo : ownB 6 h b = h + b := by rw [ownB, if_neg (by decide)]
          rw [eo] at qo ⊢
          have eR : rdLeaf bs i vs.length np nb gs 6 h b ty = rdRow bs i vs.length np nb gs 6 h b ty := if_pos (by decide)
          rw [if_neg (by decide), eR] at B
          refine j_tableIn E (off := 53) 154 dX4_readValue_101 (by decide) (by decide) (by rfl) (by decide) ?_
          refine j_aload_n E 155 dX4_readValue_154 0 rfl rfl rfl ?_
          refine j_aload_n E 156 dX4_readValue_155 1 rfl rfl rfl ?_
          refine j_aload_n E 157 dX4_readValue_156 2 rfl rfl rfl ?_
          refine j_iload E 159 dX4_readValue_157 rfl rfl ?_
          refine j_callV E (c_rd_row hA (d-1) rd ld gr vl tp np nb capV cap2 i 6 h b cd pl ty bs vs gs (by omega) (by decide) hok.1 (by have := hok.2.2.1; omega) (by omega) hb) 162 dX4_readValue_159 _ _ _ iv_X4_90 rfl rfl rfl (by repeat (first | with_reducible exact pick_0 | with_reducible apply pick_s | exact sel_0 | apply sel_s)) (by omega) (by omega) (by omega) (Nat.le_of_ble_eq_true rfl) rfl ?_
          rintro o xdc xds ws' hq
          have hdc := leafQ_dc hq
          obtain ⟨v, rfl⟩ := leafQ_int hq
          obtain ⟨ws2, q1, q2⟩ := rdQ_leaf2 (i := i) (e := i + (h + b)) hgs (fun x e => rdLeaf_gs (eR.trans e)) hok.1 (by omega) (by omega) hq
          refine j_mono (q2 F) ?_
          exact j_iret E B rfl xdc xds dX4_readValue_162 sel_refl ⟨q1, by omega, by omega⟩ (by omega) (by omega) (by omega) (by omega)
        · subst e
          have eo : ownB 7 h b = h := by rw [ownB, if_pos (by decide)]
          rw [eo] at qo ⊢
          rw [if_pos (by decide)] at B
          refine j_tableIn E (off := 43) 144 dX4_readValue_101 (by decide) (by decide) (by rfl) (by decide) ?_
          refine j_aload_n E 145 dX4_readValue_144 0 rfl rfl rfl ?_
          refine j_aload_n E 146 dX4_readValue_145 1 rfl rfl rfl ?_
          refine j_aload_n E 147 dX4_readValue_146 2 rfl rfl rfl ?_
          refine j_iload E 149 dX4_readValue_147 rfl rfl ?_
          refine j_iload_n E 150 dX4_readValue_149 3 rfl rfl rfl ?_
          refine j_callV E (hgrp (d-1) M N rd ld gr tp vl i np nb capV capG cap2 7 h b cd pl ty bs vs gs (by omega) hok (by decide) hlk.2.1 (by omega) hlk.2.2.2 hb hM hN) 153 dX4_readValue_150 _ _ _ iv_X4_86 rfl rfl rfl (by repeat (first | with_reducible exact pick_0 | with_reducible apply pick_s | exact sel_0 | apply sel_s)) (by omega) (by omega) (by omega) (Nat.le_of_ble_eq_true rfl) rfl ?_
          rintro o xdc xds ws' ⟨hq, hq2, hq3⟩
          obtain ⟨v, rfl⟩ := rdQ_int hq
          exact j_iret E B rfl xdc xds dX4_readValue_153 sel_refl ⟨hq, hq2, hq3⟩ (by omega) (by omega) (by omega) (by omega)
        · subst e
          have eo : ownB 8 h b = h := by rw [ownB, if_pos (by decide)]
          rw [eo] at qo ⊢
          rw [if_pos (by decide)] at B
          refine j_tableIn E (off := 43) 144 dX4_readValue_101 (by decide) (by decide) (by rfl) (by decide) ?_
          refine j_aload_n E 145 dX4_readValue_144 0 rfl rfl rfl ?_
          refine j_aload_n E 146 dX4_readValue_145 1 rfl rfl rfl ?_
          refine j_aload_n E 147 dX4_readValue_146 2 rfl rfl rfl ?_
          refine j_iload E 149 dX4_readValue_147 rfl rfl ?_
          refine j_iload_n E 150 dX4_readValue_149 3 rfl rfl rfl ?_
          refine j_callV E (hgrp (d-1) M N rd ld gr tp vl i np nb capV capG cap2 8 h b cd pl ty bs vs gs (by omega) hok (by decide) hlk.2.1 (by omega) hlk.2.2.2 hb hM hN) 153 dX4_readValue_150 _ _ _ iv_X4_86 rfl rfl rfl (by repeat (first | with_reducible exact pick_0 | with_reducible apply pick_s | exact sel_0 | apply sel_s)) (by omega) (by omega) (by omega) (Nat.le_of_ble_eq_true rfl) rfl ?_
          rintro o xdc xds ws' ⟨hq, hq2, hq3⟩
          obtain ⟨v, rfl⟩ := rdQ_int hq
          exact j_iret E B rfl xdc xds dX4_readValue_153 sel_refl ⟨hq, hq2, hq3⟩ (by omega) (by omega) (by omega) (by omega)
        · subst e
          have eo : ownB 9 h b = h + b := by rw [ownB, if_neg (by decide)]
          rw [eo] at qo ⊢
          have eR : rdLeaf bs i vs.length np nb gs 9 h b ty = rdRow bs i vs.length np nb gs 9 h b ty := if_pos (by decide)
          rw [if_neg (by decide), eR] at B
          refine j_tableIn E (off := 53) 154 dX4_readValue_101 (by decide) (by decide) (by rfl) (by decide) ?_
          refine j_aload_n E 155 dX4_readValue_154 0 rfl rfl rfl ?_
          refine j_aload_n E 156 dX4_readValue_155 1 rfl rfl rfl ?_
          refine j_aload_n E 157 dX4_readValue_156 2 rfl rfl rfl ?_
          refine j_iload E 159 dX4_readValue_157 rfl rfl ?_
          refine j_callV E (c_rd_row hA (d-1) rd ld gr vl tp np nb capV cap2 i 9 h b cd pl ty bs vs gs (by omega) (by decide) hok.1 (by have := hok.2.2.1; omega) (by omega) hb) 162 dX4_readValue_159 _ _ _ iv_X4_90 rfl rfl rfl (by repeat (first | with_reducible exact pick_0 | with_reducible apply pick_s | exact sel_0 | apply sel_s)) (by omega) (by omega) (by omega) (Nat.le_of_ble_eq_true rfl) rfl ?_
          rintro o xdc xds ws' hq
          have hdc := leafQ_dc hq
          obtain ⟨v, rfl⟩ := leafQ_int hq
          obtain ⟨ws2, q1, q2⟩ := rdQ_leaf2 (i := i) (e := i + (h + b)) hgs (fun x e => rdLeaf_gs (eR.trans e)) hok.1 (by omega) (by omega) hq
          refine j_mono (q2 F) ?_
          exact j_iret E B rfl xdc xds dX4_readValue_162 sel_refl ⟨q1, by omega, by omega⟩ (by omega) (by omega) (by omega) (by omega)
        · subst e
          have eo : ownB 10 h b = h + b := by rw [ownB, if_neg (by decide)]
          rw [eo] at qo ⊢
          have eR : rdLeaf bs i vs.length np nb gs 10 h b ty = rdTime bs i vs.length np nb gs h b := by rw [rdLeaf, if_neg (by decide), if_pos rfl]
          rw [if_neg (by decide), eR] at B
          refine j_tableIn E (off := 62) 163 dX4_readValue_101 (by decide) (by decide) (by rfl) (by decide) ?_
          refine j_aload_n E 164 dX4_readValue_163 0 rfl rfl rfl ?_
          refine j_aload_n E 165 dX4_readValue_164 1 rfl rfl rfl ?_
          refine j_aload_n E 166 dX4_readValue_165 2 rfl rfl rfl ?_
          refine j_iload E 168 dX4_readValue_166 rfl rfl ?_
          refine j_callV E (c_rd_time hA (d-1) rd ld gr vl tp np nb capV cap2 i h b cd pl ty bs vs gs (by omega) hok.1 (by have := hok.2.2.1; omega) (by omega) hb) 171 dX4_readValue_168 _ _ _ iv_X4_93 rfl rfl rfl (by repeat (first | with_reducible exact pick_0 | with_reducible apply pick_s | exact sel_0 | apply sel_s)) (by omega) (by omega) (by omega) (Nat.le_of_ble_eq_true rfl) rfl ?_
          rintro o xdc xds ws' hq
          have hdc := leafQ_dc hq
          obtain ⟨v, rfl⟩ := leafQ_int hq
          obtain ⟨ws2, q1, q2⟩ := rdQ_leaf2 (i := i) (e := i + (h + b)) hgs (fun x e => rdLeaf_gs (eR.trans e)) hok.1 (by omega) (by omega) hq
          refine j_mono (q2 F) ?_
          exact j_iret E B rfl xdc xds dX4_readValue_171 sel_refl ⟨q1, by omega, by omega⟩ (by omega) (by omega) (by omega) (by omega)
        · subst e
          have eo : ownB 11 h b = h + b := by rw [ownB, if_neg (by decide)]
          rw [eo] at qo ⊢
          have eR : rdLeaf bs i vs.length np nb gs 11 h b ty = rdRef bs i np nb gs h b := by rw [rdLeaf, if_neg (by decide), if_neg (by decide), if_pos rfl]
          rw [if_neg (by decide), eR] at B
          refine j_tableIn E (off := 71) 172 dX4_readValue_101 (by decide) (by decide) (by rfl) (by decide) ?_
          refine j_aload_n E 173 dX4_readValue_172 0 rfl rfl rfl ?_
          refine j_aload_n E 174 dX4_readValue_173 1 rfl rfl rfl ?_
          refine j_iload E 176 dX4_readValue_174 rfl rfl ?_
          refine j_callV E (c_rd_ref hA (d-1) rd ld gr vl tp np nb capV cap2 capG i h b cd pl ty bs vs gs (by omega) hok.1 hgs (by have := hok.2.2.2.1; have := hok.1; omega) (by omega) hb) 179 dX4_readValue_176 _ _ _ iv_X4_96 rfl rfl rfl (by repeat (first | with_reducible exact pick_0 | with_reducible apply pick_s | exact sel_0 | apply sel_s)) (by omega) (by omega) (by omega) (Nat.le_of_ble_eq_true rfl) rfl ?_
          rintro o xdc xds ws' hq
          have hdc := leafQ_dc hq
          obtain ⟨v, rfl⟩ := leafQ_int hq
          obtain ⟨ws2, q1, q2⟩ := rdQ_leaf (i := i) (e := i + (h + b)) hgs (fun x e => rdLeaf_gs (eR.trans e)) hok.1 (by omega) (by omega) hq
          refine j_sel (q2 [F]) ?_
          exact j_iret E B rfl xdc xds dX4_readValue_179 sel_refl ⟨q1, by omega, by omega⟩ (by omega) (by omega) (by omega) (by omega)
      · have qo : ¬ ownB k h b ≤ bs.length - i := fun q => h68 ((lg_cmp_le _ _).mpr ((lN_leB (by omega) (by omega)).mpr q))
        rw [if_pos (by omega)] at B
        refine j_aload_n E 72 dX4_readValue_71 0 rfl rfl rfl ?_
        refine j_iconst E (1) 73 dX4_readValue_72 (by decide) rfl ?_
        refine j_iload E 75 dX4_readValue_73 rfl rfl ?_
        refine j_callV E (c_rd_refuse hG (d-1) rd ld gr i cd pl (nI 1) (nI i)) 78 dX4_readValue_75 _ _ _ iv_X4_54 rfl rfl rfl (by repeat (first | with_reducible exact pick_0 | with_reducible apply pick_s | exact sel_0 | apply sel_s)) (by omega) (by omega) (by omega) (Nat.le_of_ble_eq_true rfl) rfl ?_
        rintro _ _ _ _ ⟨rfl, rfl, rfl, rfl⟩
        dsimp only [List.cons_append, List.nil_append, Option.toList]
        refine j_close (by repeat (first | with_reducible exact pick_0 | with_reducible apply pick_s | exact sel_0 | apply sel_s)) (leax_of (ld := ld) (k := k) (h := h) (b := b) (ty := ty)) ?_
        exact j_iret E B rfl 0 0 dX4_readValue_78 (by repeat (first | with_reducible exact pick_0 | with_reducible apply pick_s | exact sel_0 | apply sel_s)) ⟨rdQ_inl hok.1, by omega, by omega⟩ (by omega) (by omega) (by omega) (by omega)
    · have qk : k = 12 := (kI_eq hlk.1 (b := 12) (by decide)).mp h41
      rw [if_pos qk] at B
      refine j_aload_n E 45 dX4_readValue_44 0 rfl rfl rfl ?_
      refine j_iconst E (2) 46 dX4_readValue_45 (by decide) rfl ?_
      refine j_iload E 48 dX4_readValue_46 rfl rfl ?_
      refine j_callV E (c_rd_refuse hG (d-1) rd ld gr i cd pl (nI 2) (nI i)) 51 dX4_readValue_48 _ _ _ iv_X4_54 rfl rfl rfl (by repeat (first | with_reducible exact pick_0 | with_reducible apply pick_s | exact sel_0 | apply sel_s)) (by omega) (by omega) (by omega) (Nat.le_of_ble_eq_true rfl) rfl ?_
      rintro _ _ _ _ ⟨rfl, rfl, rfl, rfl⟩
      dsimp only [List.cons_append, List.nil_append, Option.toList]
      refine j_close (by repeat (first | with_reducible exact pick_0 | with_reducible apply pick_s | exact sel_0 | apply sel_s)) (leax_of (ld := ld) (k := k) (h := h) (b := b) (ty := ty)) ?_
      exact j_iret E B rfl 0 0 dX4_readValue_51 (by repeat (first | with_reducible exact pick_0 | with_reducible apply pick_s | exact sel_0 | apply sel_s)) ⟨rdQ_inl hok.1, by omega, by omega⟩ (by omega) (by omega) (by omega) (by omega)
  · have q12 : ¬ i < (bs.length) := mt (nI_ltI (a := i) (b := (bs.length)) (by omega) (by omega)).mpr h12
    rw [rdOne, if_pos (by omega)] at B
    refine j_aload_n E 16 dX4_readValue_15 0 rfl rfl rfl ?_
    refine j_iconst E (1) 17 dX4_readValue_16 (by decide) rfl ?_
    refine j_iload E 19 dX4_readValue_17 rfl rfl ?_
    refine j_callV E (c_rd_refuse hG (d-1) rd ld gr i cd pl (nI 1) (nI i)) 22 dX4_readValue_19 _ _ _ iv_X4_54 rfl rfl rfl (by repeat (first | with_reducible exact pick_0 | with_reducible apply pick_s | exact sel_0 | apply sel_s)) (by omega) (by omega) (by omega) (Nat.le_of_ble_eq_true rfl) rfl ?_
    rintro _ _ _ _ ⟨rfl, rfl, rfl, rfl⟩
    dsimp only [List.cons_append, List.nil_append, Option.toList]
    exact j_iret E B rfl 0 0 dX4_readValue_22 (by repeat (first | with_reducible exact pick_0 | with_reducible apply pick_s | exact sel_0 | apply sel_s)) ⟨rdQ_inl hok.1, by omega, by omega⟩ (by omega) (by omega) (by omega) (by omega)

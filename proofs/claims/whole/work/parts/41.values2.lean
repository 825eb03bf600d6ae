/-! Values: takesParts, keep, keepOnly -/
theorem lN_tiB {a : Nat} (ha : a < 2 ^ 63) : (lN a).toInt = (a : Int) := lg_ofNat_toInt ha
theorem lN_ltB {a b : Nat} (ha : a < 2 ^ 63) (hb : b < 2 ^ 63) : lN a < lN b ↔ a < b := by
  rw [fa_lt64, lN_tiB ha, lN_tiB hb]
  omega
theorem lN_leB {a b : Nat} (ha : a < 2 ^ 63) (hb : b < 2 ^ 63) : lN a ≤ lN b ↔ a ≤ b := by
  rw [fa_le64, lN_tiB ha, lN_tiB hb]
  omega
set_option maxHeartbeats 4000000 in
theorem c_vls_parts {g : GT} {z : Nat → Nat} (hG : GLB g) (d s np nb cap m : Nat) (vs : List VE) (hn : np < 2 ^ 31) (hm : m < 2 ^ 62) : CtrV g mX6_takesParts 5 d 0 0 s [.long (lN m)] [VLS g z s vs np nb cap] (fun o dc ds ws' => o = some (.int (if np + m ≤ 6000 then 1 else 0)) ∧ dc = 0 ∧ ds = 0 ∧ ws' = [VLS g z s vs np nb cap]) noX := by
  refine ⟨vls_rcv, ?_⟩
  refine ctr_intro hG (by decide +kernel) (Nat.le_of_ble_eq_true rfl) ?_
  rintro X F rfl E B hI T
  replace E : JE X RX6 cX6_takesParts 3 d 0 0 := E
  show J X _ [VLS X.1 z s vs np nb cap, F] 0 0 0 [some (.ref s), some (.long (lN m)), none] []
  refine j_open (by repeat (first | with_reducible exact pick_0 | with_reducible apply pick_s)) vls_open ?_
  rintro al -
  dsimp only [VLSo, List.cons_append, List.nil_append]
  refine j_aload_n E 1 dX6_takesParts_0 0 rfl rfl rfl ?_
  refine j_getf E 4 dX6_takesParts_1 fl_X6_33 (by repeat (first | with_reducible exact pick_0 | with_reducible apply pick_s)) (by rfl) rfl ?_
  refine j_i2l E 5 dX6_takesParts_4 rfl ?_
  rw [nI_l hn]
  refine j_lload_n E 6 dX6_takesParts_5 1 rfl rfl rfl ?_
  refine j_ladd E 7 dX6_takesParts_6 rfl ?_
  refine j_eql (lN_add np m) ?_
  refine j_ldcL E _ 10 dX6_takesParts_7 kc_X6_36 rfl ?_
  refine j_lcmp E 11 dX6_takesParts_10 rfl ?_
  refine j_if_gt E 18 14 dX6_takesParts_11 (by decide) rfl (fun h11 => ?_) (fun h11 => ?_)
  · have e : ¬ np + m ≤ 6000 := fun q => absurd ((lN_ltB (a := 6000) (by decide) (by omega)).mp ((lg_cmp_gt _ _).mp h11)) (by omega)
    refine j_iconst E (0) 19 dX6_takesParts_18 (by decide) rfl ?_
    refine j_close (by repeat (first | with_reducible exact pick_0 | with_reducible apply pick_s | exact sel_0 | apply sel_s)) vls_of ?_
    exact j_zret E B rfl (by first | exact Or.inl rfl | exact Or.inr rfl) 0 0 dX6_takesParts_19 (by repeat (first | with_reducible exact pick_0 | with_reducible apply pick_s | exact sel_0 | apply sel_s)) ⟨by rw [if_neg e], rfl, rfl, rfl⟩ (by omega) (by omega) (by omega) (by omega)
  · have e : np + m ≤ 6000 := Nat.le_of_not_lt fun q => h11 ((lg_cmp_gt _ _).mpr ((lN_ltB (a := 6000) (by decide) (by omega)).mpr q))
    refine j_iconst E (1) 15 dX6_takesParts_14 (by decide) rfl ?_
    refine j_goto E 19 dX6_takesParts_15 (by decide) ?_
    refine j_close (by repeat (first | with_reducible exact pick_0 | with_reducible apply pick_s | exact sel_0 | apply sel_s)) vls_of ?_
    exact j_zret E B rfl (by first | exact Or.inl rfl | exact Or.inr rfl) 0 0 dX6_takesParts_19 (by repeat (first | with_reducible exact pick_0 | with_reducible apply pick_s | exact sel_0 | apply sel_s)) ⟨by rw [if_pos e], rfl, rfl, rfl⟩ (by omega) (by omega) (by omega) (by omega)
theorem adr_snoc (vs : List VE) (e : VE) : adr (vs ++ [e]) = adr vs ++ [e.1] := by rw [adr, List.map_append]; rfl
set_option maxHeartbeats 4000000 in
/-- keep(kind, number, detail, bytes) -/
theorem c_vls_keep {g : GT} {z : Nat → Nat} (hA : GA g z) (d s np nb cap kd q : Nat) (hd : 10 ≤ d) (nm : Int64) (dt : Int32) (bs : List UInt8) (vs : List VE) (hv : vs.length ≤ 12000) : CtrV g mX6_keep 5 d 2 20008 s [.int (nI kd), .long nm, .int dt, .ref q] [VLS g z s vs np nb cap, BYS g z q bs] (fun o dc ds ws' => ∃ xa xcap, o = some (.int (nI vs.length)) ∧ ws' = [VLS g z s (vs ++ [(xa, (kd, nm, dt, bs, []), -1)]) np (nb + bs.length) xcap] ∧ dc ≤ 2 ∧ ds ≤ 20008 ∧ 5 * dc + cap ≤ xcap + 5 ∧ ds + 4 * cap ≤ 4 * xcap + 8) noX := by
  refine ⟨vls_rcv, ?_⟩
  have hG := hA.1
  refine ctr_intro hG (by decide +kernel) (Nat.le_of_ble_eq_true rfl) ?_
  rintro X F rfl E B hI T
  replace E : JE X RX6 cX6_keep 7 d 2 20008 := E
  show J X _ [VLS X.1 z s vs np nb cap, BYS X.1 z q bs, F] 0 0 0 [some (.ref s), some (.int (nI kd)), some (.long nm), none, some (.int dt), some (.ref q), none] []
  refine j_open (by repeat (first | with_reducible exact pick_0 | with_reducible apply pick_s)) vls_open ?_
  rintro al -
  dsimp only [VLSo, List.cons_append, List.nil_append]
  refine j_aload_n E 1 dX6_keep_0 0 rfl rfl rfl ?_
  refine j_getf E 4 dX6_keep_1 fl_X6_12 (by repeat (first | with_reducible exact pick_0 | with_reducible apply pick_s)) (by rfl) rfl ?_
  refine j_callV E (c_lst_size hG z (d-1) al cap (adr vs)) 7 dX6_keep_4 _ _ _ iv_X6_18 rfl rfl rfl (by repeat (first | with_reducible exact pick_0 | with_reducible apply pick_s | exact sel_0 | apply sel_s)) (by omega) (by omega) (by omega) (Nat.le_of_ble_eq_true rfl) rfl ?_
  rintro _ _ _ _ ⟨rfl, rfl, rfl, rfl⟩
  dsimp only [List.cons_append, List.nil_append, Option.toList]
  rw [adr_len]
  refine j_istore E 9 dX6_keep_7 (Nat.le_of_ble_eq_true rfl) rfl rfl ?_
  dsimp only [List.set]
  refine j_aload_n E 10 dX6_keep_9 0 rfl rfl rfl ?_
  refine j_getf E 13 dX6_keep_10 fl_X6_12 (by repeat (first | with_reducible exact pick_0 | with_reducible apply pick_s)) (by rfl) rfl ?_
  refine j_new E 16 dX6_keep_13 nw_X6_26 (by omega) (by omega) rfl (fun xa => ?_)
  refine j_dup E 17 dX6_keep_16 rfl rfl ?_
  refine j_iload_n E 18 dX6_keep_17 1 rfl rfl rfl ?_
  refine j_iload E 20 dX6_keep_18 rfl rfl ?_
  refine j_lload_n E 21 dX6_keep_20 2 rfl rfl rfl ?_
  refine j_iload E 23 dX6_keep_21 rfl rfl ?_
  refine j_aload E 25 dX6_keep_23 rfl rfl ?_
  refine j_callI E (c_val_init hA (d-1) (by omega) xa vs.length q kd nm dt bs) 28 dX6_keep_25 iv_X6_38 rfl rfl (by repeat (first | with_reducible exact pick_0 | with_reducible apply pick_s | exact sel_0 | apply sel_s)) (by omega) (by omega) (by omega) (Nat.le_of_ble_eq_true rfl) rfl ?_
  rintro _ _ _ _ ⟨rfl, rfl, rfl, rfl⟩
  dsimp only [List.cons_append, List.nil_append, Option.toList]
  refine j_close (P := sepL [VSL X.1 z 0 vs, pt xa (.inr (4, [.int (nI kd), .int (nI vs.length), .long nm, .int dt, .ref q, .ref (z 1), .int 0, .int (-1)])), BYS X.1 z q bs]) (qs := [VSL X.1 z 0 vs, pt xa (.inr (4, [.int (nI kd), .int (nI vs.length), .long nm, .int dt, .ref q, .ref (z 1), .int 0, .int (-1)])), BYS X.1 z q bs]) (by repeat (first | with_reducible exact pick_0 | with_reducible apply pick_s | exact sel_0 | apply sel_s)) (fun w hw => hw) ?_
  refine j_callV E (c_lst_add hA (d-1) (by omega) al xa cap (adr vs) (sepL [VSL X.1 z 0 vs, pt xa (.inr (4, [.int (nI kd), .int (nI vs.length), .long nm, .int dt, .ref q, .ref (z 1), .int 0, .int (-1)])), BYS X.1 z q bs]) (fun x hx => has_1 (vsl_has x hx)) (has_2 (has_1 has_pt)) (by rw [adr_len]; omega)) 31 dX6_keep_28 _ _ _ iv_X6_41 rfl rfl rfl (by repeat (first | with_reducible exact pick_0 | with_reducible apply pick_s | exact sel_0 | apply sel_s)) (by omega) (by omega) (by omega) (Nat.le_of_ble_eq_true rfl) rfl ?_
  rintro _ xdc xds _ ⟨xcap, rfl, rfl, e1, e2, e3, e4⟩
  dsimp only [List.cons_append, List.nil_append, Option.toList]
  refine j_open (α := Unit) (φ := fun _ => True) (qs := fun _ => [VSL X.1 z 0 vs, pt xa (.inr (4, [.int (nI kd), .int (nI vs.length), .long nm, .int dt, .ref q, .ref (z 1), .int 0, .int (-1)])), BYS X.1 z q bs]) (P := sepL [VSL X.1 z 0 vs, pt xa (.inr (4, [.int (nI kd), .int (nI vs.length), .long nm, .int dt, .ref q, .ref (z 1), .int 0, .int (-1)])), BYS X.1 z q bs]) (by repeat (first | with_reducible exact pick_0 | with_reducible apply pick_s)) (fun w hw => ⟨(), trivial, hw⟩) ?_
  rintro _ -
  dsimp only [List.cons_append, List.nil_append]
  refine j_pop E 32 dX6_keep_31 rfl rfl ?_
  refine j_aload_n E 33 dX6_keep_32 0 rfl rfl rfl ?_
  refine j_dup E 34 dX6_keep_33 rfl rfl ?_
  refine j_getf E 37 dX6_keep_34 fl_X6_28 (by repeat (first | with_reducible exact pick_0 | with_reducible apply pick_s)) (by rfl) rfl ?_
  refine j_aload E 39 dX6_keep_37 rfl rfl ?_
  refine j_lenBys hA E 40 dX6_keep_39 (by repeat (first | with_reducible exact pick_0 | with_reducible apply pick_s)) rfl ?_
  refine j_iadd E 41 dX6_keep_40 rfl ?_
  refine j_eqi (nI_add nb bs.length) ?_
  refine j_putf E 44 dX6_keep_41 fl_X6_28 (by repeat (first | with_reducible exact pick_0 | with_reducible apply pick_s)) rfl rfl (Nat.le_of_ble_eq_true rfl) rfl ?_
  dsimp only [List.set]
  refine j_iload E 46 dX6_keep_44 rfl rfl ?_
  refine j_close (by repeat (first | with_reducible exact pick_0 | with_reducible apply pick_s | exact sel_0 | apply sel_s)) val_mk ?_
  refine j_close (by repeat (first | with_reducible exact pick_0 | with_reducible apply pick_s | exact sel_0 | apply sel_s)) (val_of (g := X.1) (z := z) (a := xa) (i := vs.length) (t := -1) (cap := 0) (v := (kd, nm, dt, bs, [])) rfl) ?_
  refine j_close (by repeat (first | with_reducible exact pick_0 | with_reducible apply pick_s | exact sel_0 | apply sel_s)) (vsl_snoc (L := vs) (xa, (kd, nm, dt, bs, []), -1) rfl) ?_
  rw [← adr_snoc vs (xa, (kd, nm, dt, bs, []), -1)]
  refine j_close (by repeat (first | with_reducible exact pick_0 | with_reducible apply pick_s | exact sel_0 | apply sel_s)) vls_of ?_
  exact j_iret E B rfl (1 + xdc) (8 + xds) dX6_keep_46 (by repeat (first | with_reducible exact pick_0 | with_reducible apply pick_s | exact sel_0 | apply sel_s)) ⟨xa, xcap, rfl, rfl, by omega, by omega, by omega, by omega⟩ (by omega) (by omega) (by omega) (by omega)
set_option maxHeartbeats 4000000 in
/-- keepOnly -/
theorem c_vls_only {g : GT} {z : Nat → Nat} (hA : GA g z) (d s np nb cap mp mb : Nat) (hd : 4 ≤ d) (us : List VE) : ∀ ms : List VE, (us ++ ms).length < 2 ^ 31 → CtrV g mX6_keepOnly 5 d 0 0 s [.int (nI us.length), .int (nI mp), .int (nI mb)] [VLS g z s (us ++ ms) np nb cap] (fun o dc ds ws' => o = none ∧ dc = 0 ∧ ds = 0 ∧ ws' = [VLS g z s us mp mb cap]) noX := by
  intro ms hms
  refine ⟨vls_rcv, ?_⟩
  have hG := hA.1
  refine ctr_intro hG (by decide +kernel) (Nat.le_of_ble_eq_true rfl) ?_
  rintro X F rfl E B hI T
  replace E : JE X RX6 cX6_keepOnly 5 d 0 0 := E
  show J X _ [VLS X.1 z s (us ++ ms) np nb cap, F] 0 0 0 [some (.ref s), some (.int (nI us.length)), some (.int (nI mp)), some (.int (nI mb)), none] []
  refine j_open (by repeat (first | with_reducible exact pick_0 | with_reducible apply pick_s)) vls_open ?_
  rintro al -
  dsimp only [VLSo, List.cons_append, List.nil_append]
  refine j_aload_n E 1 dX6_keepOnly_0 0 rfl rfl rfl ?_
  refine j_getf E 4 dX6_keepOnly_1 fl_X6_12 (by repeat (first | with_reducible exact pick_0 | with_reducible apply pick_s)) (by rfl) rfl ?_
  refine j_callV E (c_lst_size hG z (d-1) al cap (adr (us ++ ms))) 7 dX6_keepOnly_4 _ _ _ iv_X6_18 rfl rfl rfl (by repeat (first | with_reducible exact pick_0 | with_reducible apply pick_s | exact sel_0 | apply sel_s)) (by omega) (by omega) (by omega) (Nat.le_of_ble_eq_true rfl) rfl ?_
  rintro _ _ _ _ ⟨rfl, rfl, rfl, rfl⟩
  dsimp only [List.cons_append, List.nil_append, Option.toList]
  refine j_iconst E (1) 8 dX6_keepOnly_7 (by decide) rfl ?_
  refine j_isub E 9 dX6_keepOnly_8 rfl ?_
  refine j_istore E 11 dX6_keepOnly_9 (Nat.le_of_ble_eq_true rfl) rfl rfl ?_
  dsimp only [List.set]
  rw [adr_len]
  have loop : ∀ (n : Nat) (ts : List VE), ts.length = n → (us ++ ts).length < 2 ^ 31 → J X 5 [pt s (.inr (5, [.ref al, .int (nI np), .int (nI nb)])), LST X.1 z al (adr (us ++ ts)) cap, VSL X.1 z 0 (us ++ ts), F] 0 0 11 [some (.ref s), some (.int (nI us.length)), some (.int (nI mp)), some (.int (nI mb)), some (.int (nI (us ++ ts).length - 1))] [] := by
    intro n
    induction n with
    | zero =>
      intro ts hts hl
      have e0 : ts = [] := List.length_eq_zero_iff.mp hts
      subst e0
      rw [List.append_nil] at hl ⊢
      refine j_iload E 13 dX6_keepOnly_11 rfl rfl ?_
      refine j_iload_n E 14 dX6_keepOnly_13 1 rfl rfl rfl ?_
      refine j_icmp_lt E 33 17 dX6_keepOnly_14 (by decide) rfl (fun h14 => ?_) (fun h14 => ?_)
      · refine j_aload_n E 34 dX6_keepOnly_33 0 rfl rfl rfl ?_
        refine j_iload_n E 35 dX6_keepOnly_34 2 rfl rfl rfl ?_
        refine j_putf E 38 dX6_keepOnly_35 fl_X6_33 (by repeat (first | with_reducible exact pick_0 | with_reducible apply pick_s)) rfl rfl (Nat.le_of_ble_eq_true rfl) rfl ?_
        dsimp only [List.set]
        refine j_aload_n E 39 dX6_keepOnly_38 0 rfl rfl rfl ?_
        refine j_iload_n E 40 dX6_keepOnly_39 3 rfl rfl rfl ?_
        refine j_putf E 43 dX6_keepOnly_40 fl_X6_28 (by repeat (first | with_reducible exact pick_0 | with_reducible apply pick_s)) rfl rfl (Nat.le_of_ble_eq_true rfl) rfl ?_
        dsimp only [List.set]
        refine j_close (by repeat (first | with_reducible exact pick_0 | with_reducible apply pick_s | exact sel_0 | apply sel_s)) vls_of ?_
        exact j_vret E B rfl 0 0 dX6_keepOnly_43 (by repeat (first | with_reducible exact pick_0 | with_reducible apply pick_s | exact sel_0 | apply sel_s)) ⟨rfl, rfl, rfl, rfl⟩ (by omega) (by omega) (by omega) (by omega)
      · refine absurd ?_ h14
        rcases us with _ | ⟨u0, us⟩
        · exact (by decide : nI 0 - 1 < nI 0)
        · rw [List.length_cons, nI_pred]
          exact nI_lt (by omega) hl
    | succ n ih =>
      intro ts hts hl
      obtain ⟨t1, e, rfl⟩ : ∃ t1 e, ts = t1 ++ [e] := by
        rcases List.eq_nil_or_concat ts with e0 | ⟨t1, e, e0⟩
        · rw [e0] at hts
          cases hts
        · exact ⟨t1, e, by rw [e0, List.concat_eq_append]⟩
      rw [List.length_append, List.length_singleton] at hts
      rw [← List.append_assoc] at hl ⊢
      rw [List.length_append, List.length_singleton] at hl ⊢
      rw [nI_pred]
      have hle : us.length ≤ (us ++ t1).length := by rw [List.length_append]; omega
      refine j_iload E 13 dX6_keepOnly_11 rfl rfl ?_
      refine j_iload_n E 14 dX6_keepOnly_13 1 rfl rfl rfl ?_
      refine j_icmp_lt E 33 17 dX6_keepOnly_14 (by decide) rfl (fun h14 => ?_) (fun h14 => ?_)
      · exact absurd h14 (nI_nlt hle (by omega))
      · rw [adr_snoc]
        refine j_aload_n E 18 dX6_keepOnly_17 0 rfl rfl rfl ?_
        refine j_getf E 21 dX6_keepOnly_18 fl_X6_12 (by repeat (first | with_reducible exact pick_0 | with_reducible apply pick_s)) (by rfl) rfl ?_
        refine j_iload E 23 dX6_keepOnly_21 rfl rfl ?_
        refine j_callV E (c_lst_pop hA (d-1) (by omega) al cap (us ++ t1).length e.1 (adr (us ++ t1)) (adr_len _).symm) 26 dX6_keepOnly_23 _ _ _ iv_X6_45 rfl rfl rfl (by repeat (first | with_reducible exact pick_0 | with_reducible apply pick_s | exact sel_0 | apply sel_s)) (by omega) (by omega) (by omega) (Nat.le_of_ble_eq_true rfl) rfl ?_
        rintro _ _ _ _ ⟨rfl, rfl, rfl, rfl⟩
        dsimp only [List.cons_append, List.nil_append, Option.toList]
        refine j_pop E 27 dX6_keepOnly_26 rfl rfl ?_
        refine j_iinc E _ 30 dX6_keepOnly_27 rfl rfl (Nat.le_of_ble_eq_true rfl) rfl rfl ?_
        dsimp only [List.set]
        refine j_goto E 11 dX6_keepOnly_30 (by decide) ?_
        rw [x_dec1]
        refine j_open (P := VSL X.1 z 0 (us ++ t1 ++ [e])) (by repeat (first | with_reducible exact pick_0 | with_reducible apply pick_s)) vsl_pop ?_
        rintro _ -
        dsimp only [List.cons_append, List.nil_append]
        exact j_sel (by repeat (first | with_reducible exact pick_0 | with_reducible apply pick_s | exact sel_0 | apply sel_s)) (ih t1 (by omega) (by omega))
  exact j_sel (by repeat (first | with_reducible exact pick_0 | with_reducible apply pick_s | exact sel_0 | apply sel_s)) (loop ms.length ms rfl hms)

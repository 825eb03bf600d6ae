/-! the law: its wrappers -/
set_option maxHeartbeats 4000000 in
theorem c_L_feed {g : GT} {z : Nat → Nat} (hA : GA g z) (h4 : GLB4 g) (d M N x ob P Q : Nat) (f : Nat → Int64) (a1 : Int32) (a2 : Int32) (a3 : Int32) (a4 : Int32) (a5 : Int32) (S : AS) (hd : 101 ≤ d) (hM : 9100000 + 800 * S.1.length ≤ 320 * M + P) (hN : 1700000 + 21 * S.1.length ≤ N + Q) : CtrH g mL_feed hL_feed d M N [.ref x, .int a1, .int a2, .int a3, .int a4, .int a5, .ref ob] [PGA g z x S P Q, pt ob (aJ g 1 f)] (wpo g z x ob P Q S.1.length M N ((sFeed a1 a2 a3 a4 a5 S).1, (sFeed a1 a2 a3 a4 a5 S).2.2) ((sFeed a1 a2 a3 a4 a5 S).2.1.toInt64)) noX := by
  refine ctrH_intro hA.1 (by decide +kernel) (Nat.le_of_ble_eq_true rfl) ?_
  rintro X F rfl E B hT
  replace E : JE X RL cL_feed 8 d M N := E
  show J X _ [PGA X.1 z x S P Q, pt ob (aJ X.1 1 f), F] 0 0 0 [some (.ref x), some (.int a1), some (.int a2), some (.int a3), some (.int a4), some (.int a5), some (.ref ob), none] []
  refine j_aload E 2 dL_feed_0 rfl rfl ?_
  refine j_iconst E (0) 3 dL_feed_2 (by decide) rfl ?_
  refine j_aload_n E 4 dL_feed_3 0 rfl rfl rfl ?_
  refine j_iload_n E 5 dL_feed_4 1 rfl rfl rfl ?_
  refine j_iload_n E 6 dL_feed_5 2 rfl rfl rfl ?_
  refine j_iload_n E 7 dL_feed_6 3 rfl rfl rfl ?_
  refine j_iload E 9 dL_feed_7 rfl rfl ?_
  refine j_iload E 11 dL_feed_9 rfl rfl ?_
  refine j_callVX E (c_pg_feed hA (d-1) M N x P Q a1 a2 a3 a4 a5 S (by omega) hM hN) 14 dL_feed_11 _ _ _ iv_L_7 rfl rfl rfl (by repeat (first | with_reducible exact pick_0 | with_reducible apply pick_s | exact sel_0 | apply sel_s)) (by omega) (by omega) (by omega) (Nat.le_of_ble_eq_true rfl) rfl ?_ ?_
  · rintro o dc ds ws' ⟨P', Q', hk, rfl, rfl, hb1, hb2, hb3, hb4⟩
    dsimp only [List.cons_append, List.nil_append, Option.toList]
    have e0 : nI (sFeed a1 a2 a3 a4 a5 S).1 = 0 := by rw [hk]; decide
    refine j_i2l E 15 dL_feed_14 rfl ?_
    refine j_last E 16 dL_feed_15 (by repeat (first | with_reducible exact pick_0 | with_reducible apply pick_s)) vp_in01 rfl ?_
    refine j_goto E 23 dL_feed_16 (by decide) ?_
    refine j_iconst E (0) 24 dL_feed_23 (by decide) rfl ?_
    exact j_iret E B rfl dc ds dL_feed_24 (by repeat (first | with_reducible exact pick_0 | with_reducible apply pick_s | exact sel_0 | apply sel_s)) ⟨P', Q', vp_updL f (Int32.toNatClampNeg 0) (sFeed a1 a2 a3 a4 a5 S).2.1.toInt64, congrArg (fun q => some (Value.int q)) e0.symm, Nat.le_trans (Nat.le_of_eq hk) (by decide), fun _ => out_at _ _, rfl, hb1, hb2, hb3, hb4⟩ (by omega) (by omega) (by omega) (by omega)
  · rintro En dc ds ws' ⟨P', Q', hk, rfl, hb1, hb2, hb3, hb4⟩
    obtain ⟨rfl, hj⟩ := Prod.mk.inj (List.mem_singleton.mp hk)
    refine jx_catch E h4 hT [] 0 16 19 13 [] rfl (fun _ h9 => absurd h9 List.not_mem_nil) in_exU rfl (by decide) cl_13 (fun q9 => ?_)
    dsimp only [List.cons_append, List.nil_append]
    have e1 : nI (sFeed a1 a2 a3 a4 a5 S).1 = 1 := by rw [hj]; decide
    refine j_astore E 21 dL_feed_19 (Nat.le_of_ble_eq_true rfl) rfl rfl ?_
    dsimp only [List.set]
    refine j_iconst E (1) 22 dL_feed_21 (by decide) rfl ?_
    exact j_iret E B rfl dc ds dL_feed_22 (by repeat (first | with_reducible exact pick_0 | with_reducible apply pick_s | exact sel_0 | apply sel_s)) ⟨P', Q', f, congrArg (fun q => some (Value.int q)) e1.symm, Nat.le_trans (Nat.le_of_eq hj) (by decide), fun q => absurd (hj.symm.trans q) (by decide), rfl, hb1, hb2, hb3, hb4⟩ (by omega) (by omega) (by omega) (by omega)
set_option maxHeartbeats 4000000 in
theorem c_L_end {g : GT} {z : Nat → Nat} (hA : GA g z) (h4 : GLB4 g) (d M N x P Q : Nat) (v1 : Int32) (S : AS) (hd : 101 ≤ d) (hM : 9100000 + 800 * S.1.length ≤ 320 * M + P) (hN : 1700000 + 21 * S.1.length ≤ N + Q) : CtrH g mL_end hL_end d M N [.ref x, .int v1] [PGA g z x S P Q] (wpoE g z x P Q S.1.length M N ((sEnd v1 S).1, (sEnd v1 S).2.2)) noX := by
  refine ctrH_intro hA.1 (by decide +kernel) (Nat.le_of_ble_eq_true rfl) ?_
  rintro X F rfl E B hT
  replace E : JE X RL cL_end 3 d M N := E
  show J X _ [PGA X.1 z x S P Q, F] 0 0 0 [some (.ref x), some (.int v1), none] []
  refine j_aload_n E 1 dL_end_0 0 rfl rfl rfl ?_
  refine j_iload_n E 2 dL_end_1 1 rfl rfl rfl ?_
  refine j_callVX E (c_pg_end hA (d-1) M N x P Q v1 S (by omega) hM hN) 5 dL_end_2 _ _ _ iv_L_15 rfl rfl rfl (by repeat (first | with_reducible exact pick_0 | with_reducible apply pick_s | exact sel_0 | apply sel_s)) (by omega) (by omega) (by omega) (Nat.le_of_ble_eq_true rfl) rfl ?_ ?_
  · rintro o dc ds ws' ⟨P', Q', hk, rfl, rfl, hb1, hb2, hb3, hb4⟩
    dsimp only [List.cons_append, List.nil_append, Option.toList]
    have e0 : nI (sEnd v1 S).1 = 0 := by rw [hk]; decide
    refine j_goto E 11 dL_end_5 (by decide) ?_
    refine j_iconst E (0) 12 dL_end_11 (by decide) rfl ?_
    exact j_iret E B rfl dc ds dL_end_12 (by repeat (first | with_reducible exact pick_0 | with_reducible apply pick_s | exact sel_0 | apply sel_s)) ⟨P', Q', congrArg (fun q => some (Value.int q)) e0.symm, Nat.le_trans (Nat.le_of_eq hk) (by decide), rfl, hb1, hb2, hb3, hb4⟩ (by omega) (by omega) (by omega) (by omega)
  · rintro En dc ds ws' ⟨P', Q', hk, rfl, hb1, hb2, hb3, hb4⟩
    obtain ⟨rfl, hj⟩ := Prod.mk.inj (List.mem_singleton.mp hk)
    refine jx_catch E h4 hT [] 0 5 8 19 [] rfl (fun _ h9 => absurd h9 List.not_mem_nil) in_exA rfl (by decide) cl_19 (fun q9 => ?_)
    dsimp only [List.cons_append, List.nil_append]
    have e1 : nI (sEnd v1 S).1 = 1 := by rw [hj]; decide
    refine j_astore_n E 9 dL_end_8 2 rfl (Nat.le_of_ble_eq_true rfl) rfl rfl ?_
    dsimp only [List.set]
    refine j_iconst E (1) 10 dL_end_9 (by decide) rfl ?_
    exact j_iret E B rfl dc ds dL_end_10 (by repeat (first | with_reducible exact pick_0 | with_reducible apply pick_s | exact sel_0 | apply sel_s)) ⟨P', Q', congrArg (fun q => some (Value.int q)) e1.symm, Nat.le_trans (Nat.le_of_eq hj) (by decide), rfl, hb1, hb2, hb3, hb4⟩ (by omega) (by omega) (by omega) (by omega)
set_option maxHeartbeats 4000000 in
theorem c_L_fault {g : GT} {z : Nat → Nat} (hA : GA g z) (h4 : GLB4 g) (d M N x ob P Q : Nat) (f : Nat → Int64) (v1 : Int32) (S : AS) (hd : 101 ≤ d) (hM : 9100000 + 800 * S.1.length ≤ 320 * M + P) (hN : 1700000 + 21 * S.1.length ≤ N + Q) : CtrH g mL_fault hL_fault d M N [.ref x, .int v1, .ref ob] [PGA g z x S P Q, pt ob (aJ g 1 f)] (wpo g z x ob P Q S.1.length M N ((sFault v1 S).1, (sFault v1 S).2.2) ((sFault v1 S).2.1.toInt64)) noX := by
  refine ctrH_intro hA.1 (by decide +kernel) (Nat.le_of_ble_eq_true rfl) ?_
  rintro X F rfl E B hT
  replace E : JE X RL cL_fault 4 d M N := E
  show J X _ [PGA X.1 z x S P Q, pt ob (aJ X.1 1 f), F] 0 0 0 [some (.ref x), some (.int v1), some (.ref ob), none] []
  refine j_aload_n E 1 dL_fault_0 2 rfl rfl rfl ?_
  refine j_iconst E (0) 2 dL_fault_1 (by decide) rfl ?_
  refine j_aload_n E 3 dL_fault_2 0 rfl rfl rfl ?_
  refine j_iload_n E 4 dL_fault_3 1 rfl rfl rfl ?_
  refine j_callVX E (c_pg_fault hA (d-1) M N x P Q v1 S (by omega) hM hN) 7 dL_fault_4 _ _ _ iv_L_21 rfl rfl rfl (by repeat (first | with_reducible exact pick_0 | with_reducible apply pick_s | exact sel_0 | apply sel_s)) (by omega) (by omega) (by omega) (Nat.le_of_ble_eq_true rfl) rfl ?_ ?_
  · rintro o dc ds ws' ⟨P', Q', hk, rfl, rfl, hb1, hb2, hb3, hb4⟩
    dsimp only [List.cons_append, List.nil_append, Option.toList]
    have e0 : nI (sFault v1 S).1 = 0 := by rw [hk]; decide
    refine j_i2l E 8 dL_fault_7 rfl ?_
    refine j_last E 9 dL_fault_8 (by repeat (first | with_reducible exact pick_0 | with_reducible apply pick_s)) vp_in01 rfl ?_
    refine j_goto E 15 dL_fault_9 (by decide) ?_
    refine j_iconst E (0) 16 dL_fault_15 (by decide) rfl ?_
    exact j_iret E B rfl dc ds dL_fault_16 (by repeat (first | with_reducible exact pick_0 | with_reducible apply pick_s | exact sel_0 | apply sel_s)) ⟨P', Q', vp_updL f (Int32.toNatClampNeg 0) (sFault v1 S).2.1.toInt64, congrArg (fun q => some (Value.int q)) e0.symm, Nat.le_trans (Nat.le_of_eq hk) (by decide), fun _ => out_at _ _, rfl, hb1, hb2, hb3, hb4⟩ (by omega) (by omega) (by omega) (by omega)
  · rintro En dc ds ws' ⟨P', Q', hk, rfl, hb1, hb2, hb3, hb4⟩
    obtain ⟨rfl, hj⟩ := Prod.mk.inj (List.mem_singleton.mp hk)
    refine jx_catch E h4 hT [] 0 9 12 25 [] rfl (fun _ h9 => absurd h9 List.not_mem_nil) in_exI rfl (by decide) cl_25 (fun q9 => ?_)
    dsimp only [List.cons_append, List.nil_append]
    have e1 : nI (sFault v1 S).1 = 1 := by rw [hj]; decide
    refine j_astore_n E 13 dL_fault_12 3 rfl (Nat.le_of_ble_eq_true rfl) rfl rfl ?_
    dsimp only [List.set]
    refine j_iconst E (1) 14 dL_fault_13 (by decide) rfl ?_
    exact j_iret E B rfl dc ds dL_fault_14 (by repeat (first | with_reducible exact pick_0 | with_reducible apply pick_s | exact sel_0 | apply sel_s)) ⟨P', Q', f, congrArg (fun q => some (Value.int q)) e1.symm, Nat.le_trans (Nat.le_of_eq hj) (by decide), fun q => absurd (hj.symm.trans q) (by decide), rfl, hb1, hb2, hb3, hb4⟩ (by omega) (by omega) (by omega) (by omega)
set_option maxHeartbeats 4000000 in
theorem c_L_skip {g : GT} {z : Nat → Nat} (hA : GA g z) (h4 : GLB4 g) (d M N x ob P Q : Nat) (f : Nat → Int64) (v1 : Int32) (S : AS) (hd : 101 ≤ d) (hM : 9100000 + 800 * S.1.length ≤ 320 * M + P) (hN : 1700000 + 21 * S.1.length ≤ N + Q) : CtrH g mL_skip hL_skip d M N [.ref x, .int v1, .ref ob] [PGA g z x S P Q, pt ob (aJ g 1 f)] (wpo g z x ob P Q S.1.length M N ((sSkip v1 S).1, (sSkip v1 S).2.2) ((sSkip v1 S).2.1.toInt64)) noX := by
  refine ctrH_intro hA.1 (by decide +kernel) (Nat.le_of_ble_eq_true rfl) ?_
  rintro X F rfl E B hT
  replace E : JE X RL cL_skip 4 d M N := E
  show J X _ [PGA X.1 z x S P Q, pt ob (aJ X.1 1 f), F] 0 0 0 [some (.ref x), some (.int v1), some (.ref ob), none] []
  refine j_aload_n E 1 dL_skip_0 2 rfl rfl rfl ?_
  refine j_iconst E (0) 2 dL_skip_1 (by decide) rfl ?_
  refine j_aload_n E 3 dL_skip_2 0 rfl rfl rfl ?_
  refine j_iload_n E 4 dL_skip_3 1 rfl rfl rfl ?_
  refine j_callVX E (c_pg_skip hA (d-1) M N x P Q v1 S (by omega) hM hN) 7 dL_skip_4 _ _ _ iv_L_27 rfl rfl rfl (by repeat (first | with_reducible exact pick_0 | with_reducible apply pick_s | exact sel_0 | apply sel_s)) (by omega) (by omega) (by omega) (Nat.le_of_ble_eq_true rfl) rfl ?_ ?_
  · rintro o dc ds ws' ⟨P', Q', hk, rfl, rfl, hb1, hb2, hb3, hb4⟩
    dsimp only [List.cons_append, List.nil_append, Option.toList]
    have e0 : nI (sSkip v1 S).1 = 0 := by rw [hk]; decide
    refine j_i2l E 8 dL_skip_7 rfl ?_
    refine j_last E 9 dL_skip_8 (by repeat (first | with_reducible exact pick_0 | with_reducible apply pick_s)) vp_in01 rfl ?_
    refine j_goto E 15 dL_skip_9 (by decide) ?_
    refine j_iconst E (0) 16 dL_skip_15 (by decide) rfl ?_
    exact j_iret E B rfl dc ds dL_skip_16 (by repeat (first | with_reducible exact pick_0 | with_reducible apply pick_s | exact sel_0 | apply sel_s)) ⟨P', Q', vp_updL f (Int32.toNatClampNeg 0) (sSkip v1 S).2.1.toInt64, congrArg (fun q => some (Value.int q)) e0.symm, Nat.le_trans (Nat.le_of_eq hk) (by decide), fun _ => out_at _ _, rfl, hb1, hb2, hb3, hb4⟩ (by omega) (by omega) (by omega) (by omega)
  · rintro En dc ds ws' ⟨P', Q', hk, rfl, hb1, hb2, hb3, hb4⟩
    obtain ⟨rfl, hj⟩ := Prod.mk.inj (List.mem_singleton.mp hk)
    refine jx_catch E h4 hT [] 0 9 12 25 [] rfl (fun _ h9 => absurd h9 List.not_mem_nil) in_exI rfl (by decide) cl_25 (fun q9 => ?_)
    dsimp only [List.cons_append, List.nil_append]
    have e1 : nI (sSkip v1 S).1 = 1 := by rw [hj]; decide
    refine j_astore_n E 13 dL_skip_12 3 rfl (Nat.le_of_ble_eq_true rfl) rfl rfl ?_
    dsimp only [List.set]
    refine j_iconst E (1) 14 dL_skip_13 (by decide) rfl ?_
    exact j_iret E B rfl dc ds dL_skip_14 (by repeat (first | with_reducible exact pick_0 | with_reducible apply pick_s | exact sel_0 | apply sel_s)) ⟨P', Q', f, congrArg (fun q => some (Value.int q)) e1.symm, Nat.le_trans (Nat.le_of_eq hj) (by decide), fun q => absurd (hj.symm.trans q) (by decide), rfl, hb1, hb2, hb3, hb4⟩ (by omega) (by omega) (by omega) (by omega)
set_option maxHeartbeats 4000000 in
theorem c_L_pack {g : GT} {z : Nat → Nat} (hA : GA g z) (h4 : GLB4 g) (d M N x ob P Q : Nat) (f : Nat → Int64) (v1 : Int32) (S : AS) (hd : 101 ≤ d) (hM : 9100000 + 800 * S.1.length ≤ 320 * M + P) (hN : 1700000 + 21 * S.1.length ≤ N + Q) : CtrH g mL_pack hL_pack d M N [.ref x, .int v1, .ref ob] [PGA g z x S P Q, pt ob (aJ g 1 f)] (wpo g z x ob P Q S.1.length M N ((sPack v1 S).1, (sPack v1 S).2.2) ((sPack v1 S).2.1.toInt64)) noX := by
  refine ctrH_intro hA.1 (by decide +kernel) (Nat.le_of_ble_eq_true rfl) ?_
  rintro X F rfl E B hT
  replace E : JE X RL cL_pack 4 d M N := E
  show J X _ [PGA X.1 z x S P Q, pt ob (aJ X.1 1 f), F] 0 0 0 [some (.ref x), some (.int v1), some (.ref ob), none] []
  refine j_aload_n E 1 dL_pack_0 2 rfl rfl rfl ?_
  refine j_iconst E (0) 2 dL_pack_1 (by decide) rfl ?_
  refine j_aload_n E 3 dL_pack_2 0 rfl rfl rfl ?_
  refine j_iload_n E 4 dL_pack_3 1 rfl rfl rfl ?_
  refine j_callVX E (c_pg_pack hA (d-1) M N x P Q v1 S (by omega) hM hN) 7 dL_pack_4 _ _ _ iv_L_30 rfl rfl rfl (by repeat (first | with_reducible exact pick_0 | with_reducible apply pick_s | exact sel_0 | apply sel_s)) (by omega) (by omega) (by omega) (Nat.le_of_ble_eq_true rfl) rfl ?_ ?_
  · rintro o dc ds ws' ⟨P', Q', hk, rfl, rfl, hb1, hb2, hb3, hb4⟩
    dsimp only [List.cons_append, List.nil_append, Option.toList]
    have e0 : nI (sPack v1 S).1 = 0 := by rw [hk]; decide
    refine j_i2l E 8 dL_pack_7 rfl ?_
    refine j_last E 9 dL_pack_8 (by repeat (first | with_reducible exact pick_0 | with_reducible apply pick_s)) vp_in01 rfl ?_
    refine j_goto E 18 dL_pack_9 (by decide) ?_
    refine j_iconst E (0) 19 dL_pack_18 (by decide) rfl ?_
    exact j_iret E B rfl dc ds dL_pack_19 (by repeat (first | with_reducible exact pick_0 | with_reducible apply pick_s | exact sel_0 | apply sel_s)) ⟨P', Q', vp_updL f (Int32.toNatClampNeg 0) (sPack v1 S).2.1.toInt64, congrArg (fun q => some (Value.int q)) e0.symm, Nat.le_trans (Nat.le_of_eq hk) (by decide), fun _ => out_at _ _, rfl, hb1, hb2, hb3, hb4⟩ (by omega) (by omega) (by omega) (by omega)
  · rintro En dc ds ws' ⟨P', Q', hk, rfl, hb1, hb2, hb3, hb4⟩
    rcases List.mem_cons.mp hk with hk | hk
    · obtain ⟨rfl, hj⟩ := Prod.mk.inj hk
      refine jx_catch E h4 hT [] 0 9 12 25 [(0, 9, 15, 13)] rfl (fun _ h9 => absurd h9 List.not_mem_nil) in_exI rfl (by decide) cl_25 (fun q9 => ?_)
      dsimp only [List.cons_append, List.nil_append]
      have e1 : nI (sPack v1 S).1 = 1 := by rw [hj]; decide
      refine j_astore_n E 13 dL_pack_12 3 rfl (Nat.le_of_ble_eq_true rfl) rfl rfl ?_
      dsimp only [List.set]
      refine j_iconst E (1) 14 dL_pack_13 (by decide) rfl ?_
      exact j_iret E B rfl dc ds dL_pack_14 (by repeat (first | with_reducible exact pick_0 | with_reducible apply pick_s | exact sel_0 | apply sel_s)) ⟨P', Q', f, congrArg (fun q => some (Value.int q)) e1.symm, Nat.le_trans (Nat.le_of_eq hj) (by decide), fun q => absurd (hj.symm.trans q) (by decide), rfl, hb1, hb2, hb3, hb4⟩ (by omega) (by omega) (by omega) (by omega)
    obtain ⟨rfl, hj⟩ := Prod.mk.inj (List.mem_singleton.mp hk)
    refine jx_catch E h4 hT [(0, 9, 12, 25)] 0 9 15 13 [] rfl (List.forall_mem_cons.mpr ⟨⟨by decide, exI, in_exI, cl_25, by decide⟩, (fun _ h9 => absurd h9 List.not_mem_nil)⟩) in_exU rfl (by decide) cl_13 (fun q9 => ?_)
    dsimp only [List.cons_append, List.nil_append]
    have e1 : nI (sPack v1 S).1 = 2 := by rw [hj]; decide
    refine j_astore_n E 16 dL_pack_15 3 rfl (Nat.le_of_ble_eq_true rfl) rfl rfl ?_
    dsimp only [List.set]
    refine j_iconst E (2) 17 dL_pack_16 (by decide) rfl ?_
    exact j_iret E B rfl dc ds dL_pack_17 (by repeat (first | with_reducible exact pick_0 | with_reducible apply pick_s | exact sel_0 | apply sel_s)) ⟨P', Q', f, congrArg (fun q => some (Value.int q)) e1.symm, Nat.le_trans (Nat.le_of_eq hj) (by decide), fun q => absurd (hj.symm.trans q) (by decide), rfl, hb1, hb2, hb3, hb4⟩ (by omega) (by omega) (by omega) (by omega)
set_option maxHeartbeats 4000000 in
theorem c_L_shown {g : GT} {z : Nat → Nat} (hA : GA g z) (h4 : GLB4 g) (d M N x ob P Q : Nat) (f : Nat → Int64) (v1 : Int32) (S : AS) (hd : 101 ≤ d) (hM : 9100000 + 800 * S.1.length ≤ 320 * M + P) (hN : 1700000 + 21 * S.1.length ≤ N + Q) : CtrH g mL_shown hL_shown d M N [.ref x, .int v1, .ref ob] [PGA g z x S P Q, pt ob (aJ g 1 f)] (wpo g z x ob P Q S.1.length M N ((sShown v1 S).1, (sShown v1 S).2.2) ((sShown v1 S).2.1.toInt64)) noX := by
  refine ctrH_intro hA.1 (by decide +kernel) (Nat.le_of_ble_eq_true rfl) ?_
  rintro X F rfl E B hT
  replace E : JE X RL cL_shown 4 d M N := E
  show J X _ [PGA X.1 z x S P Q, pt ob (aJ X.1 1 f), F] 0 0 0 [some (.ref x), some (.int v1), some (.ref ob), none] []
  refine j_aload_n E 1 dL_shown_0 2 rfl rfl rfl ?_
  refine j_iconst E (0) 2 dL_shown_1 (by decide) rfl ?_
  refine j_aload_n E 3 dL_shown_2 0 rfl rfl rfl ?_
  refine j_iload_n E 4 dL_shown_3 1 rfl rfl rfl ?_
  refine j_callVX E (c_pg_shown hA (d-1) M N x P Q v1 S (by omega) hM hN) 7 dL_shown_4 _ _ _ iv_L_33 rfl rfl rfl (by repeat (first | with_reducible exact pick_0 | with_reducible apply pick_s | exact sel_0 | apply sel_s)) (by omega) (by omega) (by omega) (Nat.le_of_ble_eq_true rfl) rfl ?_ ?_
  · rintro o dc ds ws' ⟨P', Q', hk, rfl, rfl, hb1, hb2, hb3, hb4⟩
    dsimp only [List.cons_append, List.nil_append, Option.toList]
    have e0 : nI (sShown v1 S).1 = 0 := by rw [hk]; decide
    refine j_i2l E 8 dL_shown_7 rfl ?_
    refine j_last E 9 dL_shown_8 (by repeat (first | with_reducible exact pick_0 | with_reducible apply pick_s)) vp_in01 rfl ?_
    refine j_goto E 15 dL_shown_9 (by decide) ?_
    refine j_iconst E (0) 16 dL_shown_15 (by decide) rfl ?_
    exact j_iret E B rfl dc ds dL_shown_16 (by repeat (first | with_reducible exact pick_0 | with_reducible apply pick_s | exact sel_0 | apply sel_s)) ⟨P', Q', vp_updL f (Int32.toNatClampNeg 0) (sShown v1 S).2.1.toInt64, congrArg (fun q => some (Value.int q)) e0.symm, Nat.le_trans (Nat.le_of_eq hk) (by decide), fun _ => out_at _ _, rfl, hb1, hb2, hb3, hb4⟩ (by omega) (by omega) (by omega) (by omega)
  · rintro En dc ds ws' ⟨P', Q', hk, rfl, hb1, hb2, hb3, hb4⟩
    obtain ⟨rfl, hj⟩ := Prod.mk.inj (List.mem_singleton.mp hk)
    refine jx_catch E h4 hT [] 0 9 12 25 [] rfl (fun _ h9 => absurd h9 List.not_mem_nil) in_exI rfl (by decide) cl_25 (fun q9 => ?_)
    dsimp only [List.cons_append, List.nil_append]
    have e1 : nI (sShown v1 S).1 = 1 := by rw [hj]; decide
    refine j_astore_n E 13 dL_shown_12 3 rfl (Nat.le_of_ble_eq_true rfl) rfl rfl ?_
    dsimp only [List.set]
    refine j_iconst E (1) 14 dL_shown_13 (by decide) rfl ?_
    exact j_iret E B rfl dc ds dL_shown_14 (by repeat (first | with_reducible exact pick_0 | with_reducible apply pick_s | exact sel_0 | apply sel_s)) ⟨P', Q', f, congrArg (fun q => some (Value.int q)) e1.symm, Nat.le_trans (Nat.le_of_eq hj) (by decide), fun q => absurd (hj.symm.trans q) (by decide), rfl, hb1, hb2, hb3, hb4⟩ (by omega) (by omega) (by omega) (by omega)
set_option maxHeartbeats 4000000 in
theorem c_L_nil {g : GT} {z : Nat → Nat} (hA : GA g z) (h4 : GLB4 g) (d M N x ob P Q : Nat) (f : Nat → Int64)  (S : AS) (hd : 101 ≤ d) (hM : 9100000 + 800 * S.1.length ≤ 320 * M + P) (hN : 1700000 + 21 * S.1.length ≤ N + Q) : CtrH g mL_nil hL_nil d M N [.ref x, .ref ob] [PGA g z x S P Q, pt ob (aJ g 1 f)] (wpo g z x ob P Q S.1.length M N ((sKeep 0 0 0 1 S).1, (sKeep 0 0 0 1 S).2.2) ((sKeep 0 0 0 1 S).2.1.toInt64)) noX := by
  refine ctrH_intro hA.1 (by decide +kernel) (Nat.le_of_ble_eq_true rfl) ?_
  rintro X F rfl E B hT
  replace E : JE X RL cL_nil 3 d M N := E
  show J X _ [PGA X.1 z x S P Q, pt ob (aJ X.1 1 f), F] 0 0 0 [some (.ref x), some (.ref ob), none] []
  refine j_aload_n E 1 dL_nil_0 1 rfl rfl rfl ?_
  refine j_iconst E (0) 2 dL_nil_1 (by decide) rfl ?_
  refine j_aload_n E 3 dL_nil_2 0 rfl rfl rfl ?_
  refine j_callVX E (c_pg_nil hA (d-1) M N x P Q  S (by omega) hM hN) 6 dL_nil_3 _ _ _ iv_L_36 rfl rfl rfl (by repeat (first | with_reducible exact pick_0 | with_reducible apply pick_s | exact sel_0 | apply sel_s)) (by omega) (by omega) (by omega) (Nat.le_of_ble_eq_true rfl) rfl ?_ ?_
  · rintro o dc ds ws' ⟨P', Q', hk, rfl, rfl, hb1, hb2, hb3, hb4⟩
    dsimp only [List.cons_append, List.nil_append, Option.toList]
    have e0 : nI (sKeep 0 0 0 1 S).1 = 0 := by rw [hk]; decide
    refine j_i2l E 7 dL_nil_6 rfl ?_
    refine j_last E 8 dL_nil_7 (by repeat (first | with_reducible exact pick_0 | with_reducible apply pick_s)) vp_in01 rfl ?_
    refine j_goto E 14 dL_nil_8 (by decide) ?_
    refine j_iconst E (0) 15 dL_nil_14 (by decide) rfl ?_
    exact j_iret E B rfl dc ds dL_nil_15 (by repeat (first | with_reducible exact pick_0 | with_reducible apply pick_s | exact sel_0 | apply sel_s)) ⟨P', Q', vp_updL f (Int32.toNatClampNeg 0) (sKeep 0 0 0 1 S).2.1.toInt64, congrArg (fun q => some (Value.int q)) e0.symm, Nat.le_trans (Nat.le_of_eq hk) (by decide), fun _ => out_at _ _, rfl, hb1, hb2, hb3, hb4⟩ (by omega) (by omega) (by omega) (by omega)
  · rintro En dc ds ws' ⟨P', Q', hk, rfl, hb1, hb2, hb3, hb4⟩
    obtain ⟨rfl, hj⟩ := Prod.mk.inj (List.mem_singleton.mp hk)
    refine jx_catch E h4 hT [] 0 8 11 13 [] rfl (fun _ h9 => absurd h9 List.not_mem_nil) in_exU rfl (by decide) cl_13 (fun q9 => ?_)
    dsimp only [List.cons_append, List.nil_append]
    have e1 : nI (sKeep 0 0 0 1 S).1 = 1 := by rw [hj]; decide
    refine j_astore_n E 12 dL_nil_11 2 rfl (Nat.le_of_ble_eq_true rfl) rfl rfl ?_
    dsimp only [List.set]
    refine j_iconst E (1) 13 dL_nil_12 (by decide) rfl ?_
    exact j_iret E B rfl dc ds dL_nil_13 (by repeat (first | with_reducible exact pick_0 | with_reducible apply pick_s | exact sel_0 | apply sel_s)) ⟨P', Q', f, congrArg (fun q => some (Value.int q)) e1.symm, Nat.le_trans (Nat.le_of_eq hj) (by decide), fun q => absurd (hj.symm.trans q) (by decide), rfl, hb1, hb2, hb3, hb4⟩ (by omega) (by omega) (by omega) (by omega)
set_option maxHeartbeats 4000000 in
theorem c_L_truth {g : GT} {z : Nat → Nat} (hA : GA g z) (h4 : GLB4 g) (d M N x ob P Q : Nat) (f : Nat → Int64) (hb : Bool) (S : AS) (hd : 101 ≤ d) (hM : 9100000 + 800 * S.1.length ≤ 320 * M + P) (hN : 1700000 + 21 * S.1.length ≤ N + Q) : CtrH g mL_truth hL_truth d M N [.ref x, .int (bI hb), .ref ob] [PGA g z x S P Q, pt ob (aJ g 1 f)] (wpo g z x ob P Q S.1.length M N ((sKeep 1 0 (bI hb) 1 S).1, (sKeep 1 0 (bI hb) 1 S).2.2) ((sKeep 1 0 (bI hb) 1 S).2.1.toInt64)) noX := by
  refine ctrH_intro hA.1 (by decide +kernel) (Nat.le_of_ble_eq_true rfl) ?_
  rintro X F rfl E B hT
  replace E : JE X RL cL_truth 4 d M N := E
  show J X _ [PGA X.1 z x S P Q, pt ob (aJ X.1 1 f), F] 0 0 0 [some (.ref x), some (.int (bI hb)), some (.ref ob), none] []
  refine j_aload_n E 1 dL_truth_0 2 rfl rfl rfl ?_
  refine j_iconst E (0) 2 dL_truth_1 (by decide) rfl ?_
  refine j_aload_n E 3 dL_truth_2 0 rfl rfl rfl ?_
  refine j_iload_n E 4 dL_truth_3 1 rfl rfl rfl ?_
  refine j_callVX E (c_pg_truth hA (d-1) M N x P Q hb S (by omega) hM hN) 7 dL_truth_4 _ _ _ iv_L_40 rfl rfl rfl (by repeat (first | with_reducible exact pick_0 | with_reducible apply pick_s | exact sel_0 | apply sel_s)) (by omega) (by omega) (by omega) (Nat.le_of_ble_eq_true rfl) rfl ?_ ?_
  · rintro o dc ds ws' ⟨P', Q', hk, rfl, rfl, hb1, hb2, hb3, hb4⟩
    dsimp only [List.cons_append, List.nil_append, Option.toList]
    have e0 : nI (sKeep 1 0 (bI hb) 1 S).1 = 0 := by rw [hk]; decide
    refine j_i2l E 8 dL_truth_7 rfl ?_
    refine j_last E 9 dL_truth_8 (by repeat (first | with_reducible exact pick_0 | with_reducible apply pick_s)) vp_in01 rfl ?_
    refine j_goto E 15 dL_truth_9 (by decide) ?_
    refine j_iconst E (0) 16 dL_truth_15 (by decide) rfl ?_
    exact j_iret E B rfl dc ds dL_truth_16 (by repeat (first | with_reducible exact pick_0 | with_reducible apply pick_s | exact sel_0 | apply sel_s)) ⟨P', Q', vp_updL f (Int32.toNatClampNeg 0) (sKeep 1 0 (bI hb) 1 S).2.1.toInt64, congrArg (fun q => some (Value.int q)) e0.symm, Nat.le_trans (Nat.le_of_eq hk) (by decide), fun _ => out_at _ _, rfl, hb1, hb2, hb3, hb4⟩ (by omega) (by omega) (by omega) (by omega)
  · rintro En dc ds ws' ⟨P', Q', hk, rfl, hb1, hb2, hb3, hb4⟩
    obtain ⟨rfl, hj⟩ := Prod.mk.inj (List.mem_singleton.mp hk)
    refine jx_catch E h4 hT [] 0 9 12 13 [] rfl (fun _ h9 => absurd h9 List.not_mem_nil) in_exU rfl (by decide) cl_13 (fun q9 => ?_)
    dsimp only [List.cons_append, List.nil_append]
    have e1 : nI (sKeep 1 0 (bI hb) 1 S).1 = 1 := by rw [hj]; decide
    refine j_astore_n E 13 dL_truth_12 3 rfl (Nat.le_of_ble_eq_true rfl) rfl rfl ?_
    dsimp only [List.set]
    refine j_iconst E (1) 14 dL_truth_13 (by decide) rfl ?_
    exact j_iret E B rfl dc ds dL_truth_14 (by repeat (first | with_reducible exact pick_0 | with_reducible apply pick_s | exact sel_0 | apply sel_s)) ⟨P', Q', f, congrArg (fun q => some (Value.int q)) e1.symm, Nat.le_trans (Nat.le_of_eq hj) (by decide), fun q => absurd (hj.symm.trans q) (by decide), rfl, hb1, hb2, hb3, hb4⟩ (by omega) (by omega) (by omega) (by omega)
set_option maxHeartbeats 4000000 in
theorem c_L_integer {g : GT} {z : Nat → Nat} (hA : GA g z) (h4 : GLB4 g) (d M N x ob P Q : Nat) (f : Nat → Int64) (v : Int64) (hb : Bool) (S : AS) (hd : 101 ≤ d) (hM : 9100000 + 800 * S.1.length ≤ 320 * M + P) (hN : 1700000 + 21 * S.1.length ≤ N + Q) : CtrH g mL_integer hL_integer d M N [.ref x, .long v, .int (bI hb), .ref ob] [PGA g z x S P Q, pt ob (aJ g 1 f)] (wpo g z x ob P Q S.1.length M N ((sKeep 2 v (if hb = true ∧ v < 0 then 1 else 0) 1 S).1, (sKeep 2 v (if hb = true ∧ v < 0 then 1 else 0) 1 S).2.2) ((sKeep 2 v (if hb = true ∧ v < 0 then 1 else 0) 1 S).2.1.toInt64)) noX := by
  refine ctrH_intro hA.1 (by decide +kernel) (Nat.le_of_ble_eq_true rfl) ?_
  rintro X F rfl E B hT
  replace E : JE X RL cL_integer 6 d M N := E
  show J X _ [PGA X.1 z x S P Q, pt ob (aJ X.1 1 f), F] 0 0 0 [some (.ref x), some (.long v), none, some (.int (bI hb)), some (.ref ob), none] []
  refine j_aload E 2 dL_integer_0 rfl rfl ?_
  refine j_iconst E (0) 3 dL_integer_2 (by decide) rfl ?_
  refine j_aload_n E 4 dL_integer_3 0 rfl rfl rfl ?_
  refine j_lload_n E 5 dL_integer_4 1 rfl rfl rfl ?_
  refine j_iload_n E 6 dL_integer_5 3 rfl rfl rfl ?_
  refine j_callVX E (c_pg_integer hA (d-1) M N x P Q v hb S (by omega) hM hN) 9 dL_integer_6 _ _ _ iv_L_44 rfl rfl rfl (by repeat (first | with_reducible exact pick_0 | with_reducible apply pick_s | exact sel_0 | apply sel_s)) (by omega) (by omega) (by omega) (Nat.le_of_ble_eq_true rfl) rfl ?_ ?_
  · rintro o dc ds ws' ⟨P', Q', hk, rfl, rfl, hb1, hb2, hb3, hb4⟩
    dsimp only [List.cons_append, List.nil_append, Option.toList]
    have e0 : nI (sKeep 2 v (if hb = true ∧ v < 0 then 1 else 0) 1 S).1 = 0 := by rw [hk]; decide
    refine j_i2l E 10 dL_integer_9 rfl ?_
    refine j_last E 11 dL_integer_10 (by repeat (first | with_reducible exact pick_0 | with_reducible apply pick_s)) vp_in01 rfl ?_
    refine j_goto E 18 dL_integer_11 (by decide) ?_
    refine j_iconst E (0) 19 dL_integer_18 (by decide) rfl ?_
    exact j_iret E B rfl dc ds dL_integer_19 (by repeat (first | with_reducible exact pick_0 | with_reducible apply pick_s | exact sel_0 | apply sel_s)) ⟨P', Q', vp_updL f (Int32.toNatClampNeg 0) (sKeep 2 v (if hb = true ∧ v < 0 then 1 else 0) 1 S).2.1.toInt64, congrArg (fun q => some (Value.int q)) e0.symm, Nat.le_trans (Nat.le_of_eq hk) (by decide), fun _ => out_at _ _, rfl, hb1, hb2, hb3, hb4⟩ (by omega) (by omega) (by omega) (by omega)
  · rintro En dc ds ws' ⟨P', Q', hk, rfl, hb1, hb2, hb3, hb4⟩
    obtain ⟨rfl, hj⟩ := Prod.mk.inj (List.mem_singleton.mp hk)
    refine jx_catch E h4 hT [] 0 11 14 13 [] rfl (fun _ h9 => absurd h9 List.not_mem_nil) in_exU rfl (by decide) cl_13 (fun q9 => ?_)
    dsimp only [List.cons_append, List.nil_append]
    have e1 : nI (sKeep 2 v (if hb = true ∧ v < 0 then 1 else 0) 1 S).1 = 1 := by rw [hj]; decide
    refine j_astore E 16 dL_integer_14 (Nat.le_of_ble_eq_true rfl) rfl rfl ?_
    dsimp only [List.set]
    refine j_iconst E (1) 17 dL_integer_16 (by decide) rfl ?_
    exact j_iret E B rfl dc ds dL_integer_17 (by repeat (first | with_reducible exact pick_0 | with_reducible apply pick_s | exact sel_0 | apply sel_s)) ⟨P', Q', f, congrArg (fun q => some (Value.int q)) e1.symm, Nat.le_trans (Nat.le_of_eq hj) (by decide), fun q => absurd (hj.symm.trans q) (by decide), rfl, hb1, hb2, hb3, hb4⟩ (by omega) (by omega) (by omega) (by omega)
set_option maxHeartbeats 4000000 in
theorem c_L_real {g : GT} {z : Nat → Nat} (hA : GA g z) (h4 : GLB4 g) (d M N x ob P Q : Nat) (f : Nat → Int64) (v : Int64) (hb : Bool) (S : AS) (hd : 101 ≤ d) (hM : 9100000 + 800 * S.1.length ≤ 320 * M + P) (hN : 1700000 + 21 * S.1.length ≤ N + Q) : CtrH g mL_real hL_real d M N [.ref x, .long v, .int (bI hb), .ref ob] [PGA g z x S P Q, pt ob (aJ g 1 f)] (wpo g z x ob P Q S.1.length M N ((if hb = true then sKeep 4 v 0 1 S else sKeep 3 (v &&& 4294967295) 0 1 S).1, (if hb = true then sKeep 4 v 0 1 S else sKeep 3 (v &&& 4294967295) 0 1 S).2.2) ((if hb = true then sKeep 4 v 0 1 S else sKeep 3 (v &&& 4294967295) 0 1 S).2.1.toInt64)) noX := by
  refine ctrH_intro hA.1 (by decide +kernel) (Nat.le_of_ble_eq_true rfl) ?_
  rintro X F rfl E B hT
  replace E : JE X RL cL_real 6 d M N := E
  show J X _ [PGA X.1 z x S P Q, pt ob (aJ X.1 1 f), F] 0 0 0 [some (.ref x), some (.long v), none, some (.int (bI hb)), some (.ref ob), none] []
  refine j_aload E 2 dL_real_0 rfl rfl ?_
  refine j_iconst E (0) 3 dL_real_2 (by decide) rfl ?_
  refine j_aload_n E 4 dL_real_3 0 rfl rfl rfl ?_
  refine j_lload_n E 5 dL_real_4 1 rfl rfl rfl ?_
  refine j_iload_n E 6 dL_real_5 3 rfl rfl rfl ?_
  refine j_callVX E (c_pg_real hA (d-1) M N x P Q v hb S (by omega) hM hN) 9 dL_real_6 _ _ _ iv_L_48 rfl rfl rfl (by repeat (first | with_reducible exact pick_0 | with_reducible apply pick_s | exact sel_0 | apply sel_s)) (by omega) (by omega) (by omega) (Nat.le_of_ble_eq_true rfl) rfl ?_ ?_
  · rintro o dc ds ws' ⟨P', Q', hk, rfl, rfl, hb1, hb2, hb3, hb4⟩
    dsimp only [List.cons_append, List.nil_append, Option.toList]
    have e0 : nI (if hb = true then sKeep 4 v 0 1 S else sKeep 3 (v &&& 4294967295) 0 1 S).1 = 0 := by rw [hk]; decide
    refine j_i2l E 10 dL_real_9 rfl ?_
    refine j_last E 11 dL_real_10 (by repeat (first | with_reducible exact pick_0 | with_reducible apply pick_s)) vp_in01 rfl ?_
    refine j_goto E 18 dL_real_11 (by decide) ?_
    refine j_iconst E (0) 19 dL_real_18 (by decide) rfl ?_
    exact j_iret E B rfl dc ds dL_real_19 (by repeat (first | with_reducible exact pick_0 | with_reducible apply pick_s | exact sel_0 | apply sel_s)) ⟨P', Q', vp_updL f (Int32.toNatClampNeg 0) (if hb = true then sKeep 4 v 0 1 S else sKeep 3 (v &&& 4294967295) 0 1 S).2.1.toInt64, congrArg (fun q => some (Value.int q)) e0.symm, Nat.le_trans (Nat.le_of_eq hk) (by decide), fun _ => out_at _ _, rfl, hb1, hb2, hb3, hb4⟩ (by omega) (by omega) (by omega) (by omega)
  · rintro En dc ds ws' ⟨P', Q', hk, rfl, hb1, hb2, hb3, hb4⟩
    obtain ⟨rfl, hj⟩ := Prod.mk.inj (List.mem_singleton.mp hk)
    refine jx_catch E h4 hT [] 0 11 14 13 [] rfl (fun _ h9 => absurd h9 List.not_mem_nil) in_exU rfl (by decide) cl_13 (fun q9 => ?_)
    dsimp only [List.cons_append, List.nil_append]
    have e1 : nI (if hb = true then sKeep 4 v 0 1 S else sKeep 3 (v &&& 4294967295) 0 1 S).1 = 1 := by rw [hj]; decide
    refine j_astore E 16 dL_real_14 (Nat.le_of_ble_eq_true rfl) rfl rfl ?_
    dsimp only [List.set]
    refine j_iconst E (1) 17 dL_real_16 (by decide) rfl ?_
    exact j_iret E B rfl dc ds dL_real_17 (by repeat (first | with_reducible exact pick_0 | with_reducible apply pick_s | exact sel_0 | apply sel_s)) ⟨P', Q', f, congrArg (fun q => some (Value.int q)) e1.symm, Nat.le_trans (Nat.le_of_eq hj) (by decide), fun q => absurd (hj.symm.trans q) (by decide), rfl, hb1, hb2, hb3, hb4⟩ (by omega) (by omega) (by omega) (by omega)
set_option maxHeartbeats 4000000 in
theorem c_L_row {g : GT} {z : Nat → Nat} (hA : GA g z) (h4 : GLB4 g) (d M N x ob P Q : Nat) (f : Nat → Int64) (v1 : Int32) (S : AS) (hd : 101 ≤ d) (hM : 9100000 + 800 * S.1.length ≤ 320 * M + P) (hN : 1700000 + 21 * S.1.length ≤ N + Q) : CtrH g mL_row hL_row d M N [.ref x, .int v1, .ref ob] [PGA g z x S P Q, pt ob (aJ g 1 f)] (wpo g z x ob P Q S.1.length M N ((sRow v1 S).1, (sRow v1 S).2.2) ((sRow v1 S).2.1.toInt64)) noX := by
  refine ctrH_intro hA.1 (by decide +kernel) (Nat.le_of_ble_eq_true rfl) ?_
  rintro X F rfl E B hT
  replace E : JE X RL cL_row 4 d M N := E
  show J X _ [PGA X.1 z x S P Q, pt ob (aJ X.1 1 f), F] 0 0 0 [some (.ref x), some (.int v1), some (.ref ob), none] []
  refine j_aload_n E 1 dL_row_0 2 rfl rfl rfl ?_
  refine j_iconst E (0) 2 dL_row_1 (by decide) rfl ?_
  refine j_aload_n E 3 dL_row_2 0 rfl rfl rfl ?_
  refine j_iload_n E 4 dL_row_3 1 rfl rfl rfl ?_
  refine j_callVX E (c_pg_row hA (d-1) M N x P Q v1 S (by omega) hM hN) 7 dL_row_4 _ _ _ iv_L_51 rfl rfl rfl (by repeat (first | with_reducible exact pick_0 | with_reducible apply pick_s | exact sel_0 | apply sel_s)) (by omega) (by omega) (by omega) (Nat.le_of_ble_eq_true rfl) rfl ?_ ?_
  · rintro o dc ds ws' ⟨P', Q', hk, rfl, rfl, hb1, hb2, hb3, hb4⟩
    dsimp only [List.cons_append, List.nil_append, Option.toList]
    have e0 : nI (sRow v1 S).1 = 0 := by rw [hk]; decide
    refine j_i2l E 8 dL_row_7 rfl ?_
    refine j_last E 9 dL_row_8 (by repeat (first | with_reducible exact pick_0 | with_reducible apply pick_s)) vp_in01 rfl ?_
    refine j_goto E 18 dL_row_9 (by decide) ?_
    refine j_iconst E (0) 19 dL_row_18 (by decide) rfl ?_
    exact j_iret E B rfl dc ds dL_row_19 (by repeat (first | with_reducible exact pick_0 | with_reducible apply pick_s | exact sel_0 | apply sel_s)) ⟨P', Q', vp_updL f (Int32.toNatClampNeg 0) (sRow v1 S).2.1.toInt64, congrArg (fun q => some (Value.int q)) e0.symm, Nat.le_trans (Nat.le_of_eq hk) (by decide), fun _ => out_at _ _, rfl, hb1, hb2, hb3, hb4⟩ (by omega) (by omega) (by omega) (by omega)
  · rintro En dc ds ws' ⟨P', Q', hk, rfl, hb1, hb2, hb3, hb4⟩
    rcases List.mem_cons.mp hk with hk | hk
    · obtain ⟨rfl, hj⟩ := Prod.mk.inj hk
      refine jx_catch E h4 hT [] 0 9 12 19 [(0, 9, 15, 13)] rfl (fun _ h9 => absurd h9 List.not_mem_nil) in_exA rfl (by decide) cl_19 (fun q9 => ?_)
      dsimp only [List.cons_append, List.nil_append]
      have e1 : nI (sRow v1 S).1 = 1 := by rw [hj]; decide
      refine j_astore_n E 13 dL_row_12 3 rfl (Nat.le_of_ble_eq_true rfl) rfl rfl ?_
      dsimp only [List.set]
      refine j_iconst E (1) 14 dL_row_13 (by decide) rfl ?_
      exact j_iret E B rfl dc ds dL_row_14 (by repeat (first | with_reducible exact pick_0 | with_reducible apply pick_s | exact sel_0 | apply sel_s)) ⟨P', Q', f, congrArg (fun q => some (Value.int q)) e1.symm, Nat.le_trans (Nat.le_of_eq hj) (by decide), fun q => absurd (hj.symm.trans q) (by decide), rfl, hb1, hb2, hb3, hb4⟩ (by omega) (by omega) (by omega) (by omega)
    obtain ⟨rfl, hj⟩ := Prod.mk.inj (List.mem_singleton.mp hk)
    refine jx_catch E h4 hT [(0, 9, 12, 19)] 0 9 15 13 [] rfl (List.forall_mem_cons.mpr ⟨⟨by decide, exA, in_exA, cl_19, by decide⟩, (fun _ h9 => absurd h9 List.not_mem_nil)⟩) in_exU rfl (by decide) cl_13 (fun q9 => ?_)
    dsimp only [List.cons_append, List.nil_append]
    have e1 : nI (sRow v1 S).1 = 2 := by rw [hj]; decide
    refine j_astore_n E 16 dL_row_15 3 rfl (Nat.le_of_ble_eq_true rfl) rfl rfl ?_
    dsimp only [List.set]
    refine j_iconst E (2) 17 dL_row_16 (by decide) rfl ?_
    exact j_iret E B rfl dc ds dL_row_17 (by repeat (first | with_reducible exact pick_0 | with_reducible apply pick_s | exact sel_0 | apply sel_s)) ⟨P', Q', f, congrArg (fun q => some (Value.int q)) e1.symm, Nat.le_trans (Nat.le_of_eq hj) (by decide), fun q => absurd (hj.symm.trans q) (by decide), rfl, hb1, hb2, hb3, hb4⟩ (by omega) (by omega) (by omega) (by omega)
set_option maxHeartbeats 4000000 in
theorem c_L_extension {g : GT} {z : Nat → Nat} (hA : GA g z) (h4 : GLB4 g) (d M N x ob P Q : Nat) (f : Nat → Int64) (v1 : Int32) (S : AS) (hd : 101 ≤ d) (hM : 9100000 + 800 * S.1.length ≤ 320 * M + P) (hN : 1700000 + 21 * S.1.length ≤ N + Q) : CtrH g mL_extension hL_extension d M N [.ref x, .int v1, .ref ob] [PGA g z x S P Q, pt ob (aJ g 1 f)] (wpo g z x ob P Q S.1.length M N ((sExt v1 S).1, (sExt v1 S).2.2) ((sExt v1 S).2.1.toInt64)) noX := by
  refine ctrH_intro hA.1 (by decide +kernel) (Nat.le_of_ble_eq_true rfl) ?_
  rintro X F rfl E B hT
  replace E : JE X RL cL_extension 4 d M N := E
  show J X _ [PGA X.1 z x S P Q, pt ob (aJ X.1 1 f), F] 0 0 0 [some (.ref x), some (.int v1), some (.ref ob), none] []
  refine j_aload_n E 1 dL_extension_0 2 rfl rfl rfl ?_
  refine j_iconst E (0) 2 dL_extension_1 (by decide) rfl ?_
  refine j_aload_n E 3 dL_extension_2 0 rfl rfl rfl ?_
  refine j_iload_n E 4 dL_extension_3 1 rfl rfl rfl ?_
  refine j_callVX E (c_pg_extension hA (d-1) M N x P Q v1 S (by omega) hM hN) 7 dL_extension_4 _ _ _ iv_L_54 rfl rfl rfl (by repeat (first | with_reducible exact pick_0 | with_reducible apply pick_s | exact sel_0 | apply sel_s)) (by omega) (by omega) (by omega) (Nat.le_of_ble_eq_true rfl) rfl ?_ ?_
  · rintro o dc ds ws' ⟨P', Q', hk, rfl, rfl, hb1, hb2, hb3, hb4⟩
    dsimp only [List.cons_append, List.nil_append, Option.toList]
    have e0 : nI (sExt v1 S).1 = 0 := by rw [hk]; decide
    refine j_i2l E 8 dL_extension_7 rfl ?_
    refine j_last E 9 dL_extension_8 (by repeat (first | with_reducible exact pick_0 | with_reducible apply pick_s)) vp_in01 rfl ?_
    refine j_goto E 18 dL_extension_9 (by decide) ?_
    refine j_iconst E (0) 19 dL_extension_18 (by decide) rfl ?_
    exact j_iret E B rfl dc ds dL_extension_19 (by repeat (first | with_reducible exact pick_0 | with_reducible apply pick_s | exact sel_0 | apply sel_s)) ⟨P', Q', vp_updL f (Int32.toNatClampNeg 0) (sExt v1 S).2.1.toInt64, congrArg (fun q => some (Value.int q)) e0.symm, Nat.le_trans (Nat.le_of_eq hk) (by decide), fun _ => out_at _ _, rfl, hb1, hb2, hb3, hb4⟩ (by omega) (by omega) (by omega) (by omega)
  · rintro En dc ds ws' ⟨P', Q', hk, rfl, hb1, hb2, hb3, hb4⟩
    rcases List.mem_cons.mp hk with hk | hk
    · obtain ⟨rfl, hj⟩ := Prod.mk.inj hk
      refine jx_catch E h4 hT [] 0 9 12 19 [(0, 9, 15, 13)] rfl (fun _ h9 => absurd h9 List.not_mem_nil) in_exA rfl (by decide) cl_19 (fun q9 => ?_)
      dsimp only [List.cons_append, List.nil_append]
      have e1 : nI (sExt v1 S).1 = 1 := by rw [hj]; decide
      refine j_astore_n E 13 dL_extension_12 3 rfl (Nat.le_of_ble_eq_true rfl) rfl rfl ?_
      dsimp only [List.set]
      refine j_iconst E (1) 14 dL_extension_13 (by decide) rfl ?_
      exact j_iret E B rfl dc ds dL_extension_14 (by repeat (first | with_reducible exact pick_0 | with_reducible apply pick_s | exact sel_0 | apply sel_s)) ⟨P', Q', f, congrArg (fun q => some (Value.int q)) e1.symm, Nat.le_trans (Nat.le_of_eq hj) (by decide), fun q => absurd (hj.symm.trans q) (by decide), rfl, hb1, hb2, hb3, hb4⟩ (by omega) (by omega) (by omega) (by omega)
    obtain ⟨rfl, hj⟩ := Prod.mk.inj (List.mem_singleton.mp hk)
    refine jx_catch E h4 hT [(0, 9, 12, 19)] 0 9 15 13 [] rfl (List.forall_mem_cons.mpr ⟨⟨by decide, exA, in_exA, cl_19, by decide⟩, (fun _ h9 => absurd h9 List.not_mem_nil)⟩) in_exU rfl (by decide) cl_13 (fun q9 => ?_)
    dsimp only [List.cons_append, List.nil_append]
    have e1 : nI (sExt v1 S).1 = 2 := by rw [hj]; decide
    refine j_astore_n E 16 dL_extension_15 3 rfl (Nat.le_of_ble_eq_true rfl) rfl rfl ?_
    dsimp only [List.set]
    refine j_iconst E (2) 17 dL_extension_16 (by decide) rfl ?_
    exact j_iret E B rfl dc ds dL_extension_17 (by repeat (first | with_reducible exact pick_0 | with_reducible apply pick_s | exact sel_0 | apply sel_s)) ⟨P', Q', f, congrArg (fun q => some (Value.int q)) e1.symm, Nat.le_trans (Nat.le_of_eq hj) (by decide), fun q => absurd (hj.symm.trans q) (by decide), rfl, hb1, hb2, hb3, hb4⟩ (by omega) (by omega) (by omega) (by omega)
set_option maxHeartbeats 4000000 in
theorem c_L_time {g : GT} {z : Nat → Nat} (hA : GA g z) (h4 : GLB4 g) (d M N x ob P Q : Nat) (f : Nat → Int64) (v : Int64) (na : Int32) (S : AS) (hd : 101 ≤ d) (hM : 9100000 + 800 * S.1.length ≤ 320 * M + P) (hN : 1700000 + 21 * S.1.length ≤ N + Q) : CtrH g mL_time hL_time d M N [.ref x, .long v, .int na, .ref ob] [PGA g z x S P Q, pt ob (aJ g 1 f)] (wpo g z x ob P Q S.1.length M N ((sTime v na S).1, (sTime v na S).2.2) ((sTime v na S).2.1.toInt64)) noX := by
  refine ctrH_intro hA.1 (by decide +kernel) (Nat.le_of_ble_eq_true rfl) ?_
  rintro X F rfl E B hT
  replace E : JE X RL cL_time 6 d M N := E
  show J X _ [PGA X.1 z x S P Q, pt ob (aJ X.1 1 f), F] 0 0 0 [some (.ref x), some (.long v), none, some (.int na), some (.ref ob), none] []
  refine j_aload E 2 dL_time_0 rfl rfl ?_
  refine j_iconst E (0) 3 dL_time_2 (by decide) rfl ?_
  refine j_aload_n E 4 dL_time_3 0 rfl rfl rfl ?_
  refine j_lload_n E 5 dL_time_4 1 rfl rfl rfl ?_
  refine j_iload_n E 6 dL_time_5 3 rfl rfl rfl ?_
  refine j_callVX E (c_pg_time hA (d-1) M N x P Q v na S (by omega) hM hN) 9 dL_time_6 _ _ _ iv_L_57 rfl rfl rfl (by repeat (first | with_reducible exact pick_0 | with_reducible apply pick_s | exact sel_0 | apply sel_s)) (by omega) (by omega) (by omega) (Nat.le_of_ble_eq_true rfl) rfl ?_ ?_
  · rintro o dc ds ws' ⟨P', Q', hk, rfl, rfl, hb1, hb2, hb3, hb4⟩
    dsimp only [List.cons_append, List.nil_append, Option.toList]
    have e0 : nI (sTime v na S).1 = 0 := by rw [hk]; decide
    refine j_i2l E 10 dL_time_9 rfl ?_
    refine j_last E 11 dL_time_10 (by repeat (first | with_reducible exact pick_0 | with_reducible apply pick_s)) vp_in01 rfl ?_
    refine j_goto E 22 dL_time_11 (by decide) ?_
    refine j_iconst E (0) 23 dL_time_22 (by decide) rfl ?_
    exact j_iret E B rfl dc ds dL_time_23 (by repeat (first | with_reducible exact pick_0 | with_reducible apply pick_s | exact sel_0 | apply sel_s)) ⟨P', Q', vp_updL f (Int32.toNatClampNeg 0) (sTime v na S).2.1.toInt64, congrArg (fun q => some (Value.int q)) e0.symm, Nat.le_trans (Nat.le_of_eq hk) (by decide), fun _ => out_at _ _, rfl, hb1, hb2, hb3, hb4⟩ (by omega) (by omega) (by omega) (by omega)
  · rintro En dc ds ws' ⟨P', Q', hk, rfl, hb1, hb2, hb3, hb4⟩
    rcases List.mem_cons.mp hk with hk | hk
    · obtain ⟨rfl, hj⟩ := Prod.mk.inj hk
      refine jx_catch E h4 hT [] 0 11 14 19 [(0, 11, 18, 13)] rfl (fun _ h9 => absurd h9 List.not_mem_nil) in_exA rfl (by decide) cl_19 (fun q9 => ?_)
      dsimp only [List.cons_append, List.nil_append]
      have e1 : nI (sTime v na S).1 = 1 := by rw [hj]; decide
      refine j_astore E 16 dL_time_14 (Nat.le_of_ble_eq_true rfl) rfl rfl ?_
      dsimp only [List.set]
      refine j_iconst E (1) 17 dL_time_16 (by decide) rfl ?_
      exact j_iret E B rfl dc ds dL_time_17 (by repeat (first | with_reducible exact pick_0 | with_reducible apply pick_s | exact sel_0 | apply sel_s)) ⟨P', Q', f, congrArg (fun q => some (Value.int q)) e1.symm, Nat.le_trans (Nat.le_of_eq hj) (by decide), fun q => absurd (hj.symm.trans q) (by decide), rfl, hb1, hb2, hb3, hb4⟩ (by omega) (by omega) (by omega) (by omega)
    obtain ⟨rfl, hj⟩ := Prod.mk.inj (List.mem_singleton.mp hk)
    refine jx_catch E h4 hT [(0, 11, 14, 19)] 0 11 18 13 [] rfl (List.forall_mem_cons.mpr ⟨⟨by decide, exA, in_exA, cl_19, by decide⟩, (fun _ h9 => absurd h9 List.not_mem_nil)⟩) in_exU rfl (by decide) cl_13 (fun q9 => ?_)
    dsimp only [List.cons_append, List.nil_append]
    have e1 : nI (sTime v na S).1 = 2 := by rw [hj]; decide
    refine j_astore E 20 dL_time_18 (Nat.le_of_ble_eq_true rfl) rfl rfl ?_
    dsimp only [List.set]
    refine j_iconst E (2) 21 dL_time_20 (by decide) rfl ?_
    exact j_iret E B rfl dc ds dL_time_21 (by repeat (first | with_reducible exact pick_0 | with_reducible apply pick_s | exact sel_0 | apply sel_s)) ⟨P', Q', f, congrArg (fun q => some (Value.int q)) e1.symm, Nat.le_trans (Nat.le_of_eq hj) (by decide), fun q => absurd (hj.symm.trans q) (by decide), rfl, hb1, hb2, hb3, hb4⟩ (by omega) (by omega) (by omega) (by omega)
set_option maxHeartbeats 4000000 in
theorem c_L_group {g : GT} {z : Nat → Nat} (hA : GA g z) (h4 : GLB4 g) (d M N x ob P Q : Nat) (f : Nat → Int64) (v1 : Int32) (S : AS) (hd : 101 ≤ d) (hM : 9100000 + 800 * S.1.length ≤ 320 * M + P) (hN : 1700000 + 21 * S.1.length ≤ N + Q) : CtrH g mL_group hL_group d M N [.ref x, .int v1, .ref ob] [PGA g z x S P Q, pt ob (aJ g 1 f)] (wpo g z x ob P Q S.1.length M N ((sGroup v1 S).1, (sGroup v1 S).2.2) ((sGroup v1 S).2.1.toInt64)) noX := by
  refine ctrH_intro hA.1 (by decide +kernel) (Nat.le_of_ble_eq_true rfl) ?_
  rintro X F rfl E B hT
  replace E : JE X RL cL_group 4 d M N := E
  show J X _ [PGA X.1 z x S P Q, pt ob (aJ X.1 1 f), F] 0 0 0 [some (.ref x), some (.int v1), some (.ref ob), none] []
  refine j_aload_n E 1 dL_group_0 2 rfl rfl rfl ?_
  refine j_iconst E (0) 2 dL_group_1 (by decide) rfl ?_
  refine j_aload_n E 3 dL_group_2 0 rfl rfl rfl ?_
  refine j_iload_n E 4 dL_group_3 1 rfl rfl rfl ?_
  refine j_callVX E (c_pg_group hA (d-1) M N x P Q v1 S (by omega) hM hN) 7 dL_group_4 _ _ _ iv_L_61 rfl rfl rfl (by repeat (first | with_reducible exact pick_0 | with_reducible apply pick_s | exact sel_0 | apply sel_s)) (by omega) (by omega) (by omega) (Nat.le_of_ble_eq_true rfl) rfl ?_ ?_
  · rintro o dc ds ws' ⟨P', Q', hk, rfl, rfl, hb1, hb2, hb3, hb4⟩
    dsimp only [List.cons_append, List.nil_append, Option.toList]
    have e0 : nI (sGroup v1 S).1 = 0 := by rw [hk]; decide
    refine j_i2l E 8 dL_group_7 rfl ?_
    refine j_last E 9 dL_group_8 (by repeat (first | with_reducible exact pick_0 | with_reducible apply pick_s)) vp_in01 rfl ?_
    refine j_goto E 18 dL_group_9 (by decide) ?_
    refine j_iconst E (0) 19 dL_group_18 (by decide) rfl ?_
    exact j_iret E B rfl dc ds dL_group_19 (by repeat (first | with_reducible exact pick_0 | with_reducible apply pick_s | exact sel_0 | apply sel_s)) ⟨P', Q', vp_updL f (Int32.toNatClampNeg 0) (sGroup v1 S).2.1.toInt64, congrArg (fun q => some (Value.int q)) e0.symm, Nat.le_trans (Nat.le_of_eq hk) (by decide), fun _ => out_at _ _, rfl, hb1, hb2, hb3, hb4⟩ (by omega) (by omega) (by omega) (by omega)
  · rintro En dc ds ws' ⟨P', Q', hk, rfl, hb1, hb2, hb3, hb4⟩
    rcases List.mem_cons.mp hk with hk | hk
    · obtain ⟨rfl, hj⟩ := Prod.mk.inj hk
      refine jx_catch E h4 hT [] 0 9 12 19 [(0, 9, 15, 13)] rfl (fun _ h9 => absurd h9 List.not_mem_nil) in_exA rfl (by decide) cl_19 (fun q9 => ?_)
      dsimp only [List.cons_append, List.nil_append]
      have e1 : nI (sGroup v1 S).1 = 1 := by rw [hj]; decide
      refine j_astore_n E 13 dL_group_12 3 rfl (Nat.le_of_ble_eq_true rfl) rfl rfl ?_
      dsimp only [List.set]
      refine j_iconst E (1) 14 dL_group_13 (by decide) rfl ?_
      exact j_iret E B rfl dc ds dL_group_14 (by repeat (first | with_reducible exact pick_0 | with_reducible apply pick_s | exact sel_0 | apply sel_s)) ⟨P', Q', f, congrArg (fun q => some (Value.int q)) e1.symm, Nat.le_trans (Nat.le_of_eq hj) (by decide), fun q => absurd (hj.symm.trans q) (by decide), rfl, hb1, hb2, hb3, hb4⟩ (by omega) (by omega) (by omega) (by omega)
    obtain ⟨rfl, hj⟩ := Prod.mk.inj (List.mem_singleton.mp hk)
    refine jx_catch E h4 hT [(0, 9, 12, 19)] 0 9 15 13 [] rfl (List.forall_mem_cons.mpr ⟨⟨by decide, exA, in_exA, cl_19, by decide⟩, (fun _ h9 => absurd h9 List.not_mem_nil)⟩) in_exU rfl (by decide) cl_13 (fun q9 => ?_)
    dsimp only [List.cons_append, List.nil_append]
    have e1 : nI (sGroup v1 S).1 = 2 := by rw [hj]; decide
    refine j_astore_n E 16 dL_group_15 3 rfl (Nat.le_of_ble_eq_true rfl) rfl rfl ?_
    dsimp only [List.set]
    refine j_iconst E (2) 17 dL_group_16 (by decide) rfl ?_
    exact j_iret E B rfl dc ds dL_group_17 (by repeat (first | with_reducible exact pick_0 | with_reducible apply pick_s | exact sel_0 | apply sel_s)) ⟨P', Q', f, congrArg (fun q => some (Value.int q)) e1.symm, Nat.le_trans (Nat.le_of_eq hj) (by decide), fun q => absurd (hj.symm.trans q) (by decide), rfl, hb1, hb2, hb3, hb4⟩ (by omega) (by omega) (by omega) (by omega)
set_option maxHeartbeats 4000000 in
theorem c_L_add {g : GT} {z : Nat → Nat} (hA : GA g z) (h4 : GLB4 g) (d M N x ob P Q : Nat) (f : Nat → Int64) (v1 : Int32) (v2 : Int32) (S : AS) (hd : 101 ≤ d) (hM : 9100000 + 800 * S.1.length ≤ 320 * M + P) (hN : 1700000 + 21 * S.1.length ≤ N + Q) : CtrH g mL_add hL_add d M N [.ref x, .int v1, .int v2, .ref ob] [PGA g z x S P Q, pt ob (aJ g 1 f)] (wpo g z x ob P Q S.1.length M N ((sAdd v1 v2 S).1, (sAdd v1 v2 S).2.2) ((sAdd v1 v2 S).2.1.toInt64)) noX := by
  refine ctrH_intro hA.1 (by decide +kernel) (Nat.le_of_ble_eq_true rfl) ?_
  rintro X F rfl E B hT
  replace E : JE X RL cL_add 5 d M N := E
  show J X _ [PGA X.1 z x S P Q, pt ob (aJ X.1 1 f), F] 0 0 0 [some (.ref x), some (.int v1), some (.int v2), some (.ref ob), none] []
  refine j_aload_n E 1 dL_add_0 3 rfl rfl rfl ?_
  refine j_iconst E (0) 2 dL_add_1 (by decide) rfl ?_
  refine j_aload_n E 3 dL_add_2 0 rfl rfl rfl ?_
  refine j_iload_n E 4 dL_add_3 1 rfl rfl rfl ?_
  refine j_iload_n E 5 dL_add_4 2 rfl rfl rfl ?_
  refine j_callVX E (c_pg_add hA (d-1) M N x P Q v1 v2 S (by omega) hM hN) 8 dL_add_5 _ _ _ iv_L_64 rfl rfl rfl (by repeat (first | with_reducible exact pick_0 | with_reducible apply pick_s | exact sel_0 | apply sel_s)) (by omega) (by omega) (by omega) (Nat.le_of_ble_eq_true rfl) rfl ?_ ?_
  · rintro o dc ds ws' ⟨P', Q', hk, rfl, rfl, hb1, hb2, hb3, hb4⟩
    dsimp only [List.cons_append, List.nil_append, Option.toList]
    have e0 : nI (sAdd v1 v2 S).1 = 0 := by rw [hk]; decide
    refine j_i2l E 9 dL_add_8 rfl ?_
    refine j_last E 10 dL_add_9 (by repeat (first | with_reducible exact pick_0 | with_reducible apply pick_s)) vp_in01 rfl ?_
    refine j_goto E 25 dL_add_10 (by decide) ?_
    refine j_iconst E (0) 26 dL_add_25 (by decide) rfl ?_
    exact j_iret E B rfl dc ds dL_add_26 (by repeat (first | with_reducible exact pick_0 | with_reducible apply pick_s | exact sel_0 | apply sel_s)) ⟨P', Q', vp_updL f (Int32.toNatClampNeg 0) (sAdd v1 v2 S).2.1.toInt64, congrArg (fun q => some (Value.int q)) e0.symm, Nat.le_trans (Nat.le_of_eq hk) (by decide), fun _ => out_at _ _, rfl, hb1, hb2, hb3, hb4⟩ (by omega) (by omega) (by omega) (by omega)
  · rintro En dc ds ws' ⟨P', Q', hk, rfl, hb1, hb2, hb3, hb4⟩
    rcases List.mem_cons.mp hk with hk | hk
    · obtain ⟨rfl, hj⟩ := Prod.mk.inj hk
      refine jx_catch E h4 hT [] 0 10 13 25 [(0, 10, 17, 19), (0, 10, 21, 13)] rfl (fun _ h9 => absurd h9 List.not_mem_nil) in_exI rfl (by decide) cl_25 (fun q9 => ?_)
      dsimp only [List.cons_append, List.nil_append]
      have e1 : nI (sAdd v1 v2 S).1 = 1 := by rw [hj]; decide
      refine j_astore E 15 dL_add_13 (Nat.le_of_ble_eq_true rfl) rfl rfl ?_
      dsimp only [List.set]
      refine j_iconst E (1) 16 dL_add_15 (by decide) rfl ?_
      exact j_iret E B rfl dc ds dL_add_16 (by repeat (first | with_reducible exact pick_0 | with_reducible apply pick_s | exact sel_0 | apply sel_s)) ⟨P', Q', f, congrArg (fun q => some (Value.int q)) e1.symm, Nat.le_trans (Nat.le_of_eq hj) (by decide), fun q => absurd (hj.symm.trans q) (by decide), rfl, hb1, hb2, hb3, hb4⟩ (by omega) (by omega) (by omega) (by omega)
    rcases List.mem_cons.mp hk with hk | hk
    · obtain ⟨rfl, hj⟩ := Prod.mk.inj hk
      refine jx_catch E h4 hT [(0, 10, 13, 25)] 0 10 17 19 [(0, 10, 21, 13)] rfl (List.forall_mem_cons.mpr ⟨⟨by decide, exI, in_exI, cl_25, by decide⟩, (fun _ h9 => absurd h9 List.not_mem_nil)⟩) in_exA rfl (by decide) cl_19 (fun q9 => ?_)
      dsimp only [List.cons_append, List.nil_append]
      have e1 : nI (sAdd v1 v2 S).1 = 2 := by rw [hj]; decide
      refine j_astore E 19 dL_add_17 (Nat.le_of_ble_eq_true rfl) rfl rfl ?_
      dsimp only [List.set]
      refine j_iconst E (2) 20 dL_add_19 (by decide) rfl ?_
      exact j_iret E B rfl dc ds dL_add_20 (by repeat (first | with_reducible exact pick_0 | with_reducible apply pick_s | exact sel_0 | apply sel_s)) ⟨P', Q', f, congrArg (fun q => some (Value.int q)) e1.symm, Nat.le_trans (Nat.le_of_eq hj) (by decide), fun q => absurd (hj.symm.trans q) (by decide), rfl, hb1, hb2, hb3, hb4⟩ (by omega) (by omega) (by omega) (by omega)
    obtain ⟨rfl, hj⟩ := Prod.mk.inj (List.mem_singleton.mp hk)
    refine jx_catch E h4 hT [(0, 10, 13, 25), (0, 10, 17, 19)] 0 10 21 13 [] rfl (List.forall_mem_cons.mpr ⟨⟨by decide, exI, in_exI, cl_25, by decide⟩, (List.forall_mem_cons.mpr ⟨⟨by decide, exA, in_exA, cl_19, by decide⟩, (fun _ h9 => absurd h9 List.not_mem_nil)⟩)⟩) in_exU rfl (by decide) cl_13 (fun q9 => ?_)
    dsimp only [List.cons_append, List.nil_append]
    have e1 : nI (sAdd v1 v2 S).1 = 3 := by rw [hj]; decide
    refine j_astore E 23 dL_add_21 (Nat.le_of_ble_eq_true rfl) rfl rfl ?_
    dsimp only [List.set]
    refine j_iconst E (3) 24 dL_add_23 (by decide) rfl ?_
    exact j_iret E B rfl dc ds dL_add_24 (by repeat (first | with_reducible exact pick_0 | with_reducible apply pick_s | exact sel_0 | apply sel_s)) ⟨P', Q', f, congrArg (fun q => some (Value.int q)) e1.symm, Nat.le_trans (Nat.le_of_eq hj) (by decide), fun q => absurd (hj.symm.trans q) (by decide), rfl, hb1, hb2, hb3, hb4⟩ (by omega) (by omega) (by omega) (by omega)
set_option maxHeartbeats 4000000 in
theorem c_L_put {g : GT} {z : Nat → Nat} (hA : GA g z) (h4 : GLB4 g) (d M N x ob P Q : Nat) (f : Nat → Int64) (v1 : Int32) (v2 : Int32) (v3 : Int32) (S : AS) (hd : 101 ≤ d) (hM : 9100000 + 800 * S.1.length ≤ 320 * M + P) (hN : 1700000 + 21 * S.1.length ≤ N + Q) : CtrH g mL_put hL_put d M N [.ref x, .int v1, .int v2, .int v3, .ref ob] [PGA g z x S P Q, pt ob (aJ g 1 f)] (wpo g z x ob P Q S.1.length M N ((sPut v1 v2 v3 S).1, (sPut v1 v2 v3 S).2.2) ((sPut v1 v2 v3 S).2.1.toInt64)) noX := by
  refine ctrH_intro hA.1 (by decide +kernel) (Nat.le_of_ble_eq_true rfl) ?_
  rintro X F rfl E B hT
  replace E : JE X RL cL_put 6 d M N := E
  show J X _ [PGA X.1 z x S P Q, pt ob (aJ X.1 1 f), F] 0 0 0 [some (.ref x), some (.int v1), some (.int v2), some (.int v3), some (.ref ob), none] []
  refine j_aload E 2 dL_put_0 rfl rfl ?_
  refine j_iconst E (0) 3 dL_put_2 (by decide) rfl ?_
  refine j_aload_n E 4 dL_put_3 0 rfl rfl rfl ?_
  refine j_iload_n E 5 dL_put_4 1 rfl rfl rfl ?_
  refine j_iload_n E 6 dL_put_5 2 rfl rfl rfl ?_
  refine j_iload_n E 7 dL_put_6 3 rfl rfl rfl ?_
  refine j_callVX E (c_pg_put hA (d-1) M N x P Q v1 v2 v3 S (by omega) hM hN) 10 dL_put_7 _ _ _ iv_L_68 rfl rfl rfl (by repeat (first | with_reducible exact pick_0 | with_reducible apply pick_s | exact sel_0 | apply sel_s)) (by omega) (by omega) (by omega) (Nat.le_of_ble_eq_true rfl) rfl ?_ ?_
  · rintro o dc ds ws' ⟨P', Q', hk, rfl, rfl, hb1, hb2, hb3, hb4⟩
    dsimp only [List.cons_append, List.nil_append, Option.toList]
    have e0 : nI (sPut v1 v2 v3 S).1 = 0 := by rw [hk]; decide
    refine j_i2l E 11 dL_put_10 rfl ?_
    refine j_last E 12 dL_put_11 (by repeat (first | with_reducible exact pick_0 | with_reducible apply pick_s)) vp_in01 rfl ?_
    refine j_goto E 27 dL_put_12 (by decide) ?_
    refine j_iconst E (0) 28 dL_put_27 (by decide) rfl ?_
    exact j_iret E B rfl dc ds dL_put_28 (by repeat (first | with_reducible exact pick_0 | with_reducible apply pick_s | exact sel_0 | apply sel_s)) ⟨P', Q', vp_updL f (Int32.toNatClampNeg 0) (sPut v1 v2 v3 S).2.1.toInt64, congrArg (fun q => some (Value.int q)) e0.symm, Nat.le_trans (Nat.le_of_eq hk) (by decide), fun _ => out_at _ _, rfl, hb1, hb2, hb3, hb4⟩ (by omega) (by omega) (by omega) (by omega)
  · rintro En dc ds ws' ⟨P', Q', hk, rfl, hb1, hb2, hb3, hb4⟩
    rcases List.mem_cons.mp hk with hk | hk
    · obtain ⟨rfl, hj⟩ := Prod.mk.inj hk
      refine jx_catch E h4 hT [] 0 12 15 25 [(0, 12, 19, 19), (0, 12, 23, 13)] rfl (fun _ h9 => absurd h9 List.not_mem_nil) in_exI rfl (by decide) cl_25 (fun q9 => ?_)
      dsimp only [List.cons_append, List.nil_append]
      have e1 : nI (sPut v1 v2 v3 S).1 = 1 := by rw [hj]; decide
      refine j_astore E 17 dL_put_15 (Nat.le_of_ble_eq_true rfl) rfl rfl ?_
      dsimp only [List.set]
      refine j_iconst E (1) 18 dL_put_17 (by decide) rfl ?_
      exact j_iret E B rfl dc ds dL_put_18 (by repeat (first | with_reducible exact pick_0 | with_reducible apply pick_s | exact sel_0 | apply sel_s)) ⟨P', Q', f, congrArg (fun q => some (Value.int q)) e1.symm, Nat.le_trans (Nat.le_of_eq hj) (by decide), fun q => absurd (hj.symm.trans q) (by decide), rfl, hb1, hb2, hb3, hb4⟩ (by omega) (by omega) (by omega) (by omega)
    rcases List.mem_cons.mp hk with hk | hk
    · obtain ⟨rfl, hj⟩ := Prod.mk.inj hk
      refine jx_catch E h4 hT [(0, 12, 15, 25)] 0 12 19 19 [(0, 12, 23, 13)] rfl (List.forall_mem_cons.mpr ⟨⟨by decide, exI, in_exI, cl_25, by decide⟩, (fun _ h9 => absurd h9 List.not_mem_nil)⟩) in_exA rfl (by decide) cl_19 (fun q9 => ?_)
      dsimp only [List.cons_append, List.nil_append]
      have e1 : nI (sPut v1 v2 v3 S).1 = 2 := by rw [hj]; decide
      refine j_astore E 21 dL_put_19 (Nat.le_of_ble_eq_true rfl) rfl rfl ?_
      dsimp only [List.set]
      refine j_iconst E (2) 22 dL_put_21 (by decide) rfl ?_
      exact j_iret E B rfl dc ds dL_put_22 (by repeat (first | with_reducible exact pick_0 | with_reducible apply pick_s | exact sel_0 | apply sel_s)) ⟨P', Q', f, congrArg (fun q => some (Value.int q)) e1.symm, Nat.le_trans (Nat.le_of_eq hj) (by decide), fun q => absurd (hj.symm.trans q) (by decide), rfl, hb1, hb2, hb3, hb4⟩ (by omega) (by omega) (by omega) (by omega)
    obtain ⟨rfl, hj⟩ := Prod.mk.inj (List.mem_singleton.mp hk)
    refine jx_catch E h4 hT [(0, 12, 15, 25), (0, 12, 19, 19)] 0 12 23 13 [] rfl (List.forall_mem_cons.mpr ⟨⟨by decide, exI, in_exI, cl_25, by decide⟩, (List.forall_mem_cons.mpr ⟨⟨by decide, exA, in_exA, cl_19, by decide⟩, (fun _ h9 => absurd h9 List.not_mem_nil)⟩)⟩) in_exU rfl (by decide) cl_13 (fun q9 => ?_)
    dsimp only [List.cons_append, List.nil_append]
    have e1 : nI (sPut v1 v2 v3 S).1 = 3 := by rw [hj]; decide
    refine j_astore E 25 dL_put_23 (Nat.le_of_ble_eq_true rfl) rfl rfl ?_
    dsimp only [List.set]
    refine j_iconst E (3) 26 dL_put_25 (by decide) rfl ?_
    exact j_iret E B rfl dc ds dL_put_26 (by repeat (first | with_reducible exact pick_0 | with_reducible apply pick_s | exact sel_0 | apply sel_s)) ⟨P', Q', f, congrArg (fun q => some (Value.int q)) e1.symm, Nat.le_trans (Nat.le_of_eq hj) (by decide), fun q => absurd (hj.symm.trans q) (by decide), rfl, hb1, hb2, hb3, hb4⟩ (by omega) (by omega) (by omega) (by omega)
set_option maxHeartbeats 4000000 in
theorem c_L_about {g : GT} {z : Nat → Nat} (hA : GA g z) (h4 : GLB4 g) (d M N x ob P Q : Nat) (f : Nat → Int64) (v1 : Int32) (v2 : Int32) (S : AS) (hd : 101 ≤ d) (hM : 9100000 + 800 * S.1.length ≤ 320 * M + P) (hN : 1700000 + 21 * S.1.length ≤ N + Q) : CtrH g mL_about hL_about d M N [.ref x, .int v1, .int v2, .ref ob] [PGA g z x S P Q, pt ob (aJ g 1 f)] (wpo g z x ob P Q S.1.length M N ((sAbout v1 v2 S).1, (sAbout v1 v2 S).2.2) ((sAbout v1 v2 S).2.1.toInt64)) noX := by
  refine ctrH_intro hA.1 (by decide +kernel) (Nat.le_of_ble_eq_true rfl) ?_
  rintro X F rfl E B hT
  replace E : JE X RL cL_about 5 d M N := E
  show J X _ [PGA X.1 z x S P Q, pt ob (aJ X.1 1 f), F] 0 0 0 [some (.ref x), some (.int v1), some (.int v2), some (.ref ob), none] []
  refine j_aload_n E 1 dL_about_0 3 rfl rfl rfl ?_
  refine j_iconst E (0) 2 dL_about_1 (by decide) rfl ?_
  refine j_aload_n E 3 dL_about_2 0 rfl rfl rfl ?_
  refine j_iload_n E 4 dL_about_3 1 rfl rfl rfl ?_
  refine j_iload_n E 5 dL_about_4 2 rfl rfl rfl ?_
  refine j_callVX E (c_pg_about hA (d-1) M N x P Q v1 v2 S (by omega) hM hN) 8 dL_about_5 _ _ _ iv_L_72 rfl rfl rfl (by repeat (first | with_reducible exact pick_0 | with_reducible apply pick_s | exact sel_0 | apply sel_s)) (by omega) (by omega) (by omega) (Nat.le_of_ble_eq_true rfl) rfl ?_ ?_
  · rintro o dc ds ws' ⟨P', Q', hk, rfl, rfl, hb1, hb2, hb3, hb4⟩
    dsimp only [List.cons_append, List.nil_append, Option.toList]
    have e0 : nI (sAbout v1 v2 S).1 = 0 := by rw [hk]; decide
    refine j_i2l E 9 dL_about_8 rfl ?_
    refine j_last E 10 dL_about_9 (by repeat (first | with_reducible exact pick_0 | with_reducible apply pick_s)) vp_in01 rfl ?_
    refine j_goto E 21 dL_about_10 (by decide) ?_
    refine j_iconst E (0) 22 dL_about_21 (by decide) rfl ?_
    exact j_iret E B rfl dc ds dL_about_22 (by repeat (first | with_reducible exact pick_0 | with_reducible apply pick_s | exact sel_0 | apply sel_s)) ⟨P', Q', vp_updL f (Int32.toNatClampNeg 0) (sAbout v1 v2 S).2.1.toInt64, congrArg (fun q => some (Value.int q)) e0.symm, Nat.le_trans (Nat.le_of_eq hk) (by decide), fun _ => out_at _ _, rfl, hb1, hb2, hb3, hb4⟩ (by omega) (by omega) (by omega) (by omega)
  · rintro En dc ds ws' ⟨P', Q', hk, rfl, hb1, hb2, hb3, hb4⟩
    rcases List.mem_cons.mp hk with hk | hk
    · obtain ⟨rfl, hj⟩ := Prod.mk.inj hk
      refine jx_catch E h4 hT [] 0 10 13 25 [(0, 10, 17, 19)] rfl (fun _ h9 => absurd h9 List.not_mem_nil) in_exI rfl (by decide) cl_25 (fun q9 => ?_)
      dsimp only [List.cons_append, List.nil_append]
      have e1 : nI (sAbout v1 v2 S).1 = 1 := by rw [hj]; decide
      refine j_astore E 15 dL_about_13 (Nat.le_of_ble_eq_true rfl) rfl rfl ?_
      dsimp only [List.set]
      refine j_iconst E (1) 16 dL_about_15 (by decide) rfl ?_
      exact j_iret E B rfl dc ds dL_about_16 (by repeat (first | with_reducible exact pick_0 | with_reducible apply pick_s | exact sel_0 | apply sel_s)) ⟨P', Q', f, congrArg (fun q => some (Value.int q)) e1.symm, Nat.le_trans (Nat.le_of_eq hj) (by decide), fun q => absurd (hj.symm.trans q) (by decide), rfl, hb1, hb2, hb3, hb4⟩ (by omega) (by omega) (by omega) (by omega)
    obtain ⟨rfl, hj⟩ := Prod.mk.inj (List.mem_singleton.mp hk)
    refine jx_catch E h4 hT [(0, 10, 13, 25)] 0 10 17 19 [] rfl (List.forall_mem_cons.mpr ⟨⟨by decide, exI, in_exI, cl_25, by decide⟩, (fun _ h9 => absurd h9 List.not_mem_nil)⟩) in_exA rfl (by decide) cl_19 (fun q9 => ?_)
    dsimp only [List.cons_append, List.nil_append]
    have e1 : nI (sAbout v1 v2 S).1 = 2 := by rw [hj]; decide
    refine j_astore E 19 dL_about_17 (Nat.le_of_ble_eq_true rfl) rfl rfl ?_
    dsimp only [List.set]
    refine j_iconst E (2) 20 dL_about_19 (by decide) rfl ?_
    exact j_iret E B rfl dc ds dL_about_20 (by repeat (first | with_reducible exact pick_0 | with_reducible apply pick_s | exact sel_0 | apply sel_s)) ⟨P', Q', f, congrArg (fun q => some (Value.int q)) e1.symm, Nat.le_trans (Nat.le_of_eq hj) (by decide), fun q => absurd (hj.symm.trans q) (by decide), rfl, hb1, hb2, hb3, hb4⟩ (by omega) (by omega) (by omega) (by omega)
set_option maxHeartbeats 4000000 in
theorem c_L_number {g : GT} {z : Nat → Nat} (hA : GA g z) (h4 : GLB4 g) (d M N x ob P Q : Nat) (f : Nat → Int64) (v1 : Int32) (S : AS) (hd : 101 ≤ d) (hM : 9100000 + 800 * S.1.length ≤ 320 * M + P) (hN : 1700000 + 21 * S.1.length ≤ N + Q) : CtrH g mL_number hL_number d M N [.ref x, .int v1, .ref ob] [PGA g z x S P Q, pt ob (aJ g 1 f)] (wpo g z x ob P Q S.1.length M N ((sNumber v1 S).1, (sNumber v1 S).2.2) ((sNumber v1 S).2.1)) noX := by
  refine ctrH_intro hA.1 (by decide +kernel) (Nat.le_of_ble_eq_true rfl) ?_
  rintro X F rfl E B hT
  replace E : JE X RL cL_number 4 d M N := E
  show J X _ [PGA X.1 z x S P Q, pt ob (aJ X.1 1 f), F] 0 0 0 [some (.ref x), some (.int v1), some (.ref ob), none] []
  refine j_aload_n E 1 dL_number_0 2 rfl rfl rfl ?_
  refine j_iconst E (0) 2 dL_number_1 (by decide) rfl ?_
  refine j_aload_n E 3 dL_number_2 0 rfl rfl rfl ?_
  refine j_iload_n E 4 dL_number_3 1 rfl rfl rfl ?_
  refine j_callVX E (c_pg_number hA (d-1) M N x P Q v1 S (by omega) hM hN) 7 dL_number_4 _ _ _ iv_L_75 rfl rfl rfl (by repeat (first | with_reducible exact pick_0 | with_reducible apply pick_s | exact sel_0 | apply sel_s)) (by omega) (by omega) (by omega) (Nat.le_of_ble_eq_true rfl) rfl ?_ ?_
  · rintro o dc ds ws' ⟨P', Q', hk, rfl, rfl, hb1, hb2, hb3, hb4⟩
    dsimp only [List.cons_append, List.nil_append, Option.toList]
    have e0 : nI (sNumber v1 S).1 = 0 := by rw [hk]; decide
    refine j_last E 8 dL_number_7 (by repeat (first | with_reducible exact pick_0 | with_reducible apply pick_s)) vp_in01 rfl ?_
    refine j_goto E 20 dL_number_8 (by decide) ?_
    refine j_iconst E (0) 21 dL_number_20 (by decide) rfl ?_
    exact j_iret E B rfl dc ds dL_number_21 (by repeat (first | with_reducible exact pick_0 | with_reducible apply pick_s | exact sel_0 | apply sel_s)) ⟨P', Q', vp_updL f (Int32.toNatClampNeg 0) (sNumber v1 S).2.1, congrArg (fun q => some (Value.int q)) e0.symm, Nat.le_trans (Nat.le_of_eq hk) (by decide), fun _ => out_at _ _, rfl, hb1, hb2, hb3, hb4⟩ (by omega) (by omega) (by omega) (by omega)
  · rintro En dc ds ws' ⟨P', Q', hk, rfl, hb1, hb2, hb3, hb4⟩
    rcases List.mem_cons.mp hk with hk | hk
    · obtain ⟨rfl, hj⟩ := Prod.mk.inj hk
      refine jx_catch E h4 hT [] 0 8 11 25 [(0, 8, 14, 19), (0, 8, 17, 79)] rfl (fun _ h9 => absurd h9 List.not_mem_nil) in_exI rfl (by decide) cl_25 (fun q9 => ?_)
      dsimp only [List.cons_append, List.nil_append]
      have e1 : nI (sNumber v1 S).1 = 1 := by rw [hj]; decide
      refine j_astore_n E 12 dL_number_11 3 rfl (Nat.le_of_ble_eq_true rfl) rfl rfl ?_
      dsimp only [List.set]
      refine j_iconst E (1) 13 dL_number_12 (by decide) rfl ?_
      exact j_iret E B rfl dc ds dL_number_13 (by repeat (first | with_reducible exact pick_0 | with_reducible apply pick_s | exact sel_0 | apply sel_s)) ⟨P', Q', f, congrArg (fun q => some (Value.int q)) e1.symm, Nat.le_trans (Nat.le_of_eq hj) (by decide), fun q => absurd (hj.symm.trans q) (by decide), rfl, hb1, hb2, hb3, hb4⟩ (by omega) (by omega) (by omega) (by omega)
    rcases List.mem_cons.mp hk with hk | hk
    · obtain ⟨rfl, hj⟩ := Prod.mk.inj hk
      refine jx_catch E h4 hT [(0, 8, 11, 25)] 0 8 14 19 [(0, 8, 17, 79)] rfl (List.forall_mem_cons.mpr ⟨⟨by decide, exI, in_exI, cl_25, by decide⟩, (fun _ h9 => absurd h9 List.not_mem_nil)⟩) in_exA rfl (by decide) cl_19 (fun q9 => ?_)
      dsimp only [List.cons_append, List.nil_append]
      have e1 : nI (sNumber v1 S).1 = 2 := by rw [hj]; decide
      refine j_astore_n E 15 dL_number_14 3 rfl (Nat.le_of_ble_eq_true rfl) rfl rfl ?_
      dsimp only [List.set]
      refine j_iconst E (2) 16 dL_number_15 (by decide) rfl ?_
      exact j_iret E B rfl dc ds dL_number_16 (by repeat (first | with_reducible exact pick_0 | with_reducible apply pick_s | exact sel_0 | apply sel_s)) ⟨P', Q', f, congrArg (fun q => some (Value.int q)) e1.symm, Nat.le_trans (Nat.le_of_eq hj) (by decide), fun q => absurd (hj.symm.trans q) (by decide), rfl, hb1, hb2, hb3, hb4⟩ (by omega) (by omega) (by omega) (by omega)
    obtain ⟨rfl, hj⟩ := Prod.mk.inj (List.mem_singleton.mp hk)
    refine jx_catch E h4 hT [(0, 8, 11, 25), (0, 8, 14, 19)] 0 8 17 79 [] rfl (List.forall_mem_cons.mpr ⟨⟨by decide, exI, in_exI, cl_25, by decide⟩, (List.forall_mem_cons.mpr ⟨⟨by decide, exA, in_exA, cl_19, by decide⟩, (fun _ h9 => absurd h9 List.not_mem_nil)⟩)⟩) in_exM rfl (by decide) cl_79 (fun q9 => ?_)
    dsimp only [List.cons_append, List.nil_append]
    have e1 : nI (sNumber v1 S).1 = 3 := by rw [hj]; decide
    refine j_astore_n E 18 dL_number_17 3 rfl (Nat.le_of_ble_eq_true rfl) rfl rfl ?_
    dsimp only [List.set]
    refine j_iconst E (3) 19 dL_number_18 (by decide) rfl ?_
    exact j_iret E B rfl dc ds dL_number_19 (by repeat (first | with_reducible exact pick_0 | with_reducible apply pick_s | exact sel_0 | apply sel_s)) ⟨P', Q', f, congrArg (fun q => some (Value.int q)) e1.symm, Nat.le_trans (Nat.le_of_eq hj) (by decide), fun q => absurd (hj.symm.trans q) (by decide), rfl, hb1, hb2, hb3, hb4⟩ (by omega) (by omega) (by omega) (by omega)
set_option maxHeartbeats 4000000 in
theorem c_L_part {g : GT} {z : Nat → Nat} (hA : GA g z) (h4 : GLB4 g) (d M N x ob P Q : Nat) (f : Nat → Int64) (v1 : Int32) (v2 : Int32) (S : AS) (hd : 101 ≤ d) (hM : 9100000 + 800 * S.1.length ≤ 320 * M + P) (hN : 1700000 + 21 * S.1.length ≤ N + Q) : CtrH g mL_part hL_part d M N [.ref x, .int v1, .int v2, .ref ob] [PGA g z x S P Q, pt ob (aJ g 1 f)] (wpo g z x ob P Q S.1.length M N ((sPart v1 v2 S).1, (sPart v1 v2 S).2.2) ((sPart v1 v2 S).2.1.toInt64)) noX := by
  refine ctrH_intro hA.1 (by decide +kernel) (Nat.le_of_ble_eq_true rfl) ?_
  rintro X F rfl E B hT
  replace E : JE X RL cL_part 5 d M N := E
  show J X _ [PGA X.1 z x S P Q, pt ob (aJ X.1 1 f), F] 0 0 0 [some (.ref x), some (.int v1), some (.int v2), some (.ref ob), none] []
  refine j_aload_n E 1 dL_part_0 3 rfl rfl rfl ?_
  refine j_iconst E (0) 2 dL_part_1 (by decide) rfl ?_
  refine j_aload_n E 3 dL_part_2 0 rfl rfl rfl ?_
  refine j_iload_n E 4 dL_part_3 1 rfl rfl rfl ?_
  refine j_iload_n E 5 dL_part_4 2 rfl rfl rfl ?_
  refine j_callVX E (c_pg_part hA (d-1) M N x P Q v1 v2 S (by omega) hM hN) 8 dL_part_5 _ _ _ iv_L_81 rfl rfl rfl (by repeat (first | with_reducible exact pick_0 | with_reducible apply pick_s | exact sel_0 | apply sel_s)) (by omega) (by omega) (by omega) (Nat.le_of_ble_eq_true rfl) rfl ?_ ?_
  · rintro o dc ds ws' ⟨P', Q', hk, rfl, rfl, hb1, hb2, hb3, hb4⟩
    dsimp only [List.cons_append, List.nil_append, Option.toList]
    have e0 : nI (sPart v1 v2 S).1 = 0 := by rw [hk]; decide
    refine j_i2l E 9 dL_part_8 rfl ?_
    refine j_last E 10 dL_part_9 (by repeat (first | with_reducible exact pick_0 | with_reducible apply pick_s)) vp_in01 rfl ?_
    refine j_goto E 17 dL_part_10 (by decide) ?_
    refine j_iconst E (0) 18 dL_part_17 (by decide) rfl ?_
    exact j_iret E B rfl dc ds dL_part_18 (by repeat (first | with_reducible exact pick_0 | with_reducible apply pick_s | exact sel_0 | apply sel_s)) ⟨P', Q', vp_updL f (Int32.toNatClampNeg 0) (sPart v1 v2 S).2.1.toInt64, congrArg (fun q => some (Value.int q)) e0.symm, Nat.le_trans (Nat.le_of_eq hk) (by decide), fun _ => out_at _ _, rfl, hb1, hb2, hb3, hb4⟩ (by omega) (by omega) (by omega) (by omega)
  · rintro En dc ds ws' ⟨P', Q', hk, rfl, hb1, hb2, hb3, hb4⟩
    obtain ⟨rfl, hj⟩ := Prod.mk.inj (List.mem_singleton.mp hk)
    refine jx_catch E h4 hT [] 0 10 13 25 [] rfl (fun _ h9 => absurd h9 List.not_mem_nil) in_exI rfl (by decide) cl_25 (fun q9 => ?_)
    dsimp only [List.cons_append, List.nil_append]
    have e1 : nI (sPart v1 v2 S).1 = 1 := by rw [hj]; decide
    refine j_astore E 15 dL_part_13 (Nat.le_of_ble_eq_true rfl) rfl rfl ?_
    dsimp only [List.set]
    refine j_iconst E (1) 16 dL_part_15 (by decide) rfl ?_
    exact j_iret E B rfl dc ds dL_part_16 (by repeat (first | with_reducible exact pick_0 | with_reducible apply pick_s | exact sel_0 | apply sel_s)) ⟨P', Q', f, congrArg (fun q => some (Value.int q)) e1.symm, Nat.le_trans (Nat.le_of_eq hj) (by decide), fun q => absurd (hj.symm.trans q) (by decide), rfl, hb1, hb2, hb3, hb4⟩ (by omega) (by omega) (by omega) (by omega)
set_option maxHeartbeats 4000000 in
theorem c_L_same {g : GT} {z : Nat → Nat} (hA : GA g z) (h4 : GLB4 g) (d M N x ob P Q : Nat) (f : Nat → Int64) (v1 : Int32) (v2 : Int32) (S : AS) (hd : 101 ≤ d) (hM : 9100000 + 800 * S.1.length ≤ 320 * M + P) (hN : 1700000 + 21 * S.1.length ≤ N + Q) : CtrH g mL_same hL_same d M N [.ref x, .int v1, .int v2, .ref ob] [PGA g z x S P Q, pt ob (aJ g 1 f)] (wpo g z x ob P Q S.1.length M N ((sSame v1 v2 S).1, (sSame v1 v2 S).2.2) ((if (sSame v1 v2 S).2.1 = 0 then (0 : Int64) else 1))) noX := by
  refine ctrH_intro hA.1 (by decide +kernel) (Nat.le_of_ble_eq_true rfl) ?_
  rintro X F rfl E B hT
  replace E : JE X RL cL_same 5 d M N := E
  show J X _ [PGA X.1 z x S P Q, pt ob (aJ X.1 1 f), F] 0 0 0 [some (.ref x), some (.int v1), some (.int v2), some (.ref ob), none] []
  refine j_aload_n E 1 dL_same_0 3 rfl rfl rfl ?_
  refine j_iconst E (0) 2 dL_same_1 (by decide) rfl ?_
  refine j_aload_n E 3 dL_same_2 0 rfl rfl rfl ?_
  refine j_iload_n E 4 dL_same_3 1 rfl rfl rfl ?_
  refine j_iload_n E 5 dL_same_4 2 rfl rfl rfl ?_
  refine j_callVX E (c_pg_same hA (d-1) M N x P Q v1 v2 S (by omega) hM hN) 8 dL_same_5 _ _ _ iv_L_84 rfl rfl rfl (by repeat (first | with_reducible exact pick_0 | with_reducible apply pick_s | exact sel_0 | apply sel_s)) (by omega) (by omega) (by omega) (Nat.le_of_ble_eq_true rfl) rfl ?_ ?_
  · rintro o dc ds ws' ⟨P', Q', hk, rfl, rfl, hb1, hb2, hb3, hb4⟩
    dsimp only [List.cons_append, List.nil_append, Option.toList]
    have e0 : nI (sSame v1 v2 S).1 = 0 := by rw [hk]; decide
    refine j_if_eq E 15 11 dL_same_8 (by decide) rfl (fun h8 => ?_) (fun h8 => ?_)
    · refine j_lconst E 0 16 dL_same_15 rfl rfl ?_
      refine j_last E 17 dL_same_16 (by repeat (first | with_reducible exact pick_0 | with_reducible apply pick_s)) vp_in01 rfl ?_
      refine j_goto E 28 dL_same_17 (by decide) ?_
      refine j_iconst E (0) 29 dL_same_28 (by decide) rfl ?_
      exact j_iret E B rfl dc ds dL_same_29 (by repeat (first | with_reducible exact pick_0 | with_reducible apply pick_s | exact sel_0 | apply sel_s)) ⟨P', Q', vp_updL f (Int32.toNatClampNeg 0) 0, congrArg (fun q => some (Value.int q)) e0.symm, Nat.le_trans (Nat.le_of_eq hk) (by decide), fun _ => (out_at _ _).trans (if_pos h8).symm, rfl, hb1, hb2, hb3, hb4⟩ (by omega) (by omega) (by omega) (by omega)
    · refine j_lconst E 1 12 dL_same_11 rfl rfl ?_
      refine j_goto E 16 dL_same_12 (by decide) ?_
      refine j_last E 17 dL_same_16 (by repeat (first | with_reducible exact pick_0 | with_reducible apply pick_s)) vp_in01 rfl ?_
      refine j_goto E 28 dL_same_17 (by decide) ?_
      refine j_iconst E (0) 29 dL_same_28 (by decide) rfl ?_
      exact j_iret E B rfl dc ds dL_same_29 (by repeat (first | with_reducible exact pick_0 | with_reducible apply pick_s | exact sel_0 | apply sel_s)) ⟨P', Q', vp_updL f (Int32.toNatClampNeg 0) 1, congrArg (fun q => some (Value.int q)) e0.symm, Nat.le_trans (Nat.le_of_eq hk) (by decide), fun _ => (out_at _ _).trans (if_neg h8).symm, rfl, hb1, hb2, hb3, hb4⟩ (by omega) (by omega) (by omega) (by omega)
  · rintro En dc ds ws' ⟨P', Q', hk, rfl, hb1, hb2, hb3, hb4⟩
    rcases List.mem_cons.mp hk with hk | hk
    · obtain ⟨rfl, hj⟩ := Prod.mk.inj hk
      refine jx_catch E h4 hT [] 0 17 20 25 [(0, 17, 24, 13)] rfl (fun _ h9 => absurd h9 List.not_mem_nil) in_exI rfl (by decide) cl_25 (fun q9 => ?_)
      dsimp only [List.cons_append, List.nil_append]
      have e1 : nI (sSame v1 v2 S).1 = 1 := by rw [hj]; decide
      refine j_astore E 22 dL_same_20 (Nat.le_of_ble_eq_true rfl) rfl rfl ?_
      dsimp only [List.set]
      refine j_iconst E (1) 23 dL_same_22 (by decide) rfl ?_
      exact j_iret E B rfl dc ds dL_same_23 (by repeat (first | with_reducible exact pick_0 | with_reducible apply pick_s | exact sel_0 | apply sel_s)) ⟨P', Q', f, congrArg (fun q => some (Value.int q)) e1.symm, Nat.le_trans (Nat.le_of_eq hj) (by decide), fun q => absurd (hj.symm.trans q) (by decide), rfl, hb1, hb2, hb3, hb4⟩ (by omega) (by omega) (by omega) (by omega)
    obtain ⟨rfl, hj⟩ := Prod.mk.inj (List.mem_singleton.mp hk)
    refine jx_catch E h4 hT [(0, 17, 20, 25)] 0 17 24 13 [] rfl (List.forall_mem_cons.mpr ⟨⟨by decide, exI, in_exI, cl_25, by decide⟩, (fun _ h9 => absurd h9 List.not_mem_nil)⟩) in_exU rfl (by decide) cl_13 (fun q9 => ?_)
    dsimp only [List.cons_append, List.nil_append]
    have e1 : nI (sSame v1 v2 S).1 = 2 := by rw [hj]; decide
    refine j_astore E 26 dL_same_24 (Nat.le_of_ble_eq_true rfl) rfl rfl ?_
    dsimp only [List.set]
    refine j_iconst E (2) 27 dL_same_26 (by decide) rfl ?_
    exact j_iret E B rfl dc ds dL_same_27 (by repeat (first | with_reducible exact pick_0 | with_reducible apply pick_s | exact sel_0 | apply sel_s)) ⟨P', Q', f, congrArg (fun q => some (Value.int q)) e1.symm, Nat.le_trans (Nat.le_of_eq hj) (by decide), fun q => absurd (hj.symm.trans q) (by decide), rfl, hb1, hb2, hb3, hb4⟩ (by omega) (by omega) (by omega) (by omega)
set_option maxHeartbeats 4000000 in
theorem c_L_find {g : GT} {z : Nat → Nat} (hA : GA g z) (h4 : GLB4 g) (d M N x ob P Q : Nat) (f : Nat → Int64) (v1 : Int32) (v2 : Int32) (S : AS) (hd : 101 ≤ d) (hM : 9100000 + 800 * S.1.length ≤ 320 * M + P) (hN : 1700000 + 21 * S.1.length ≤ N + Q) : CtrH g mL_find hL_find d M N [.ref x, .int v1, .int v2, .ref ob] [PGA g z x S P Q, pt ob (aJ g 1 f)] (wpo g z x ob P Q S.1.length M N ((sFind v1 v2 S).1, (sFind v1 v2 S).2.2) ((sFind v1 v2 S).2.1.toInt64)) noX := by
  refine ctrH_intro hA.1 (by decide +kernel) (Nat.le_of_ble_eq_true rfl) ?_
  rintro X F rfl E B hT
  replace E : JE X RL cL_find 5 d M N := E
  show J X _ [PGA X.1 z x S P Q, pt ob (aJ X.1 1 f), F] 0 0 0 [some (.ref x), some (.int v1), some (.int v2), some (.ref ob), none] []
  refine j_aload_n E 1 dL_find_0 3 rfl rfl rfl ?_
  refine j_iconst E (0) 2 dL_find_1 (by decide) rfl ?_
  refine j_aload_n E 3 dL_find_2 0 rfl rfl rfl ?_
  refine j_iload_n E 4 dL_find_3 1 rfl rfl rfl ?_
  refine j_iload_n E 5 dL_find_4 2 rfl rfl rfl ?_
  refine j_callVX E (c_pg_find hA (d-1) M N x P Q v1 v2 S (by omega) hM hN) 8 dL_find_5 _ _ _ iv_L_88 rfl rfl rfl (by repeat (first | with_reducible exact pick_0 | with_reducible apply pick_s | exact sel_0 | apply sel_s)) (by omega) (by omega) (by omega) (Nat.le_of_ble_eq_true rfl) rfl ?_ ?_
  · rintro o dc ds ws' ⟨P', Q', hk, rfl, rfl, hb1, hb2, hb3, hb4⟩
    dsimp only [List.cons_append, List.nil_append, Option.toList]
    have e0 : nI (sFind v1 v2 S).1 = 0 := by rw [hk]; decide
    refine j_i2l E 9 dL_find_8 rfl ?_
    refine j_last E 10 dL_find_9 (by repeat (first | with_reducible exact pick_0 | with_reducible apply pick_s)) vp_in01 rfl ?_
    refine j_goto E 25 dL_find_10 (by decide) ?_
    refine j_iconst E (0) 26 dL_find_25 (by decide) rfl ?_
    exact j_iret E B rfl dc ds dL_find_26 (by repeat (first | with_reducible exact pick_0 | with_reducible apply pick_s | exact sel_0 | apply sel_s)) ⟨P', Q', vp_updL f (Int32.toNatClampNeg 0) (sFind v1 v2 S).2.1.toInt64, congrArg (fun q => some (Value.int q)) e0.symm, Nat.le_trans (Nat.le_of_eq hk) (by decide), fun _ => out_at _ _, rfl, hb1, hb2, hb3, hb4⟩ (by omega) (by omega) (by omega) (by omega)
  · rintro En dc ds ws' ⟨P', Q', hk, rfl, hb1, hb2, hb3, hb4⟩
    rcases List.mem_cons.mp hk with hk | hk
    · obtain ⟨rfl, hj⟩ := Prod.mk.inj hk
      refine jx_catch E h4 hT [] 0 10 13 25 [(0, 10, 17, 19), (0, 10, 21, 13)] rfl (fun _ h9 => absurd h9 List.not_mem_nil) in_exI rfl (by decide) cl_25 (fun q9 => ?_)
      dsimp only [List.cons_append, List.nil_append]
      have e1 : nI (sFind v1 v2 S).1 = 1 := by rw [hj]; decide
      refine j_astore E 15 dL_find_13 (Nat.le_of_ble_eq_true rfl) rfl rfl ?_
      dsimp only [List.set]
      refine j_iconst E (1) 16 dL_find_15 (by decide) rfl ?_
      exact j_iret E B rfl dc ds dL_find_16 (by repeat (first | with_reducible exact pick_0 | with_reducible apply pick_s | exact sel_0 | apply sel_s)) ⟨P', Q', f, congrArg (fun q => some (Value.int q)) e1.symm, Nat.le_trans (Nat.le_of_eq hj) (by decide), fun q => absurd (hj.symm.trans q) (by decide), rfl, hb1, hb2, hb3, hb4⟩ (by omega) (by omega) (by omega) (by omega)
    rcases List.mem_cons.mp hk with hk | hk
    · obtain ⟨rfl, hj⟩ := Prod.mk.inj hk
      refine jx_catch E h4 hT [(0, 10, 13, 25)] 0 10 17 19 [(0, 10, 21, 13)] rfl (List.forall_mem_cons.mpr ⟨⟨by decide, exI, in_exI, cl_25, by decide⟩, (fun _ h9 => absurd h9 List.not_mem_nil)⟩) in_exA rfl (by decide) cl_19 (fun q9 => ?_)
      dsimp only [List.cons_append, List.nil_append]
      have e1 : nI (sFind v1 v2 S).1 = 2 := by rw [hj]; decide
      refine j_astore E 19 dL_find_17 (Nat.le_of_ble_eq_true rfl) rfl rfl ?_
      dsimp only [List.set]
      refine j_iconst E (2) 20 dL_find_19 (by decide) rfl ?_
      exact j_iret E B rfl dc ds dL_find_20 (by repeat (first | with_reducible exact pick_0 | with_reducible apply pick_s | exact sel_0 | apply sel_s)) ⟨P', Q', f, congrArg (fun q => some (Value.int q)) e1.symm, Nat.le_trans (Nat.le_of_eq hj) (by decide), fun q => absurd (hj.symm.trans q) (by decide), rfl, hb1, hb2, hb3, hb4⟩ (by omega) (by omega) (by omega) (by omega)
    obtain ⟨rfl, hj⟩ := Prod.mk.inj (List.mem_singleton.mp hk)
    refine jx_catch E h4 hT [(0, 10, 13, 25), (0, 10, 17, 19)] 0 10 21 13 [] rfl (List.forall_mem_cons.mpr ⟨⟨by decide, exI, in_exI, cl_25, by decide⟩, (List.forall_mem_cons.mpr ⟨⟨by decide, exA, in_exA, cl_19, by decide⟩, (fun _ h9 => absurd h9 List.not_mem_nil)⟩)⟩) in_exU rfl (by decide) cl_13 (fun q9 => ?_)
    dsimp only [List.cons_append, List.nil_append]
    have e1 : nI (sFind v1 v2 S).1 = 3 := by rw [hj]; decide
    refine j_astore E 23 dL_find_21 (Nat.le_of_ble_eq_true rfl) rfl rfl ?_
    dsimp only [List.set]
    refine j_iconst E (3) 24 dL_find_23 (by decide) rfl ?_
    exact j_iret E B rfl dc ds dL_find_24 (by repeat (first | with_reducible exact pick_0 | with_reducible apply pick_s | exact sel_0 | apply sel_s)) ⟨P', Q', f, congrArg (fun q => some (Value.int q)) e1.symm, Nat.le_trans (Nat.le_of_eq hj) (by decide), fun q => absurd (hj.symm.trans q) (by decide), rfl, hb1, hb2, hb3, hb4⟩ (by omega) (by omega) (by omega) (by omega)
set_option maxHeartbeats 4000000 in
theorem c_L_count {g : GT} {z : Nat → Nat} (hA : GA g z) (h4 : GLB4 g) (d M N x ob P Q : Nat) (f : Nat → Int64) (v1 : Int32) (S : AS) (hd : 101 ≤ d) (hM : 9100000 + 800 * S.1.length ≤ 320 * M + P) (hN : 1700000 + 21 * S.1.length ≤ N + Q) : CtrH g mL_count hL_count d M N [.ref x, .int v1, .ref ob] [PGA g z x S P Q, pt ob (aJ g 1 f)] (wpo g z x ob P Q S.1.length M N ((sCount v1 S).1, (sCount v1 S).2.2) ((sCount v1 S).2.1.toInt64)) noX := by
  refine ctrH_intro hA.1 (by decide +kernel) (Nat.le_of_ble_eq_true rfl) ?_
  rintro X F rfl E B hT
  replace E : JE X RL cL_count 4 d M N := E
  show J X _ [PGA X.1 z x S P Q, pt ob (aJ X.1 1 f), F] 0 0 0 [some (.ref x), some (.int v1), some (.ref ob), none] []
  refine j_aload_n E 1 dL_count_0 2 rfl rfl rfl ?_
  refine j_iconst E (0) 2 dL_count_1 (by decide) rfl ?_
  refine j_aload_n E 3 dL_count_2 0 rfl rfl rfl ?_
  refine j_iload_n E 4 dL_count_3 1 rfl rfl rfl ?_
  refine j_callVX E (c_pg_count hA (d-1) M N x P Q v1 S (by omega) hM hN) 7 dL_count_4 _ _ _ iv_L_91 rfl rfl rfl (by repeat (first | with_reducible exact pick_0 | with_reducible apply pick_s | exact sel_0 | apply sel_s)) (by omega) (by omega) (by omega) (Nat.le_of_ble_eq_true rfl) rfl ?_ ?_
  · rintro o dc ds ws' ⟨P', Q', hk, rfl, rfl, hb1, hb2, hb3, hb4⟩
    dsimp only [List.cons_append, List.nil_append, Option.toList]
    have e0 : nI (sCount v1 S).1 = 0 := by rw [hk]; decide
    refine j_i2l E 8 dL_count_7 rfl ?_
    refine j_last E 9 dL_count_8 (by repeat (first | with_reducible exact pick_0 | with_reducible apply pick_s)) vp_in01 rfl ?_
    refine j_goto E 15 dL_count_9 (by decide) ?_
    refine j_iconst E (0) 16 dL_count_15 (by decide) rfl ?_
    exact j_iret E B rfl dc ds dL_count_16 (by repeat (first | with_reducible exact pick_0 | with_reducible apply pick_s | exact sel_0 | apply sel_s)) ⟨P', Q', vp_updL f (Int32.toNatClampNeg 0) (sCount v1 S).2.1.toInt64, congrArg (fun q => some (Value.int q)) e0.symm, Nat.le_trans (Nat.le_of_eq hk) (by decide), fun _ => out_at _ _, rfl, hb1, hb2, hb3, hb4⟩ (by omega) (by omega) (by omega) (by omega)
  · rintro En dc ds ws' ⟨P', Q', hk, rfl, hb1, hb2, hb3, hb4⟩
    obtain ⟨rfl, hj⟩ := Prod.mk.inj (List.mem_singleton.mp hk)
    refine jx_catch E h4 hT [] 0 9 12 19 [] rfl (fun _ h9 => absurd h9 List.not_mem_nil) in_exA rfl (by decide) cl_19 (fun q9 => ?_)
    dsimp only [List.cons_append, List.nil_append]
    have e1 : nI (sCount v1 S).1 = 1 := by rw [hj]; decide
    refine j_astore_n E 13 dL_count_12 3 rfl (Nat.le_of_ble_eq_true rfl) rfl rfl ?_
    dsimp only [List.set]
    refine j_iconst E (1) 14 dL_count_13 (by decide) rfl ?_
    exact j_iret E B rfl dc ds dL_count_14 (by repeat (first | with_reducible exact pick_0 | with_reducible apply pick_s | exact sel_0 | apply sel_s)) ⟨P', Q', f, congrArg (fun q => some (Value.int q)) e1.symm, Nat.le_trans (Nat.le_of_eq hj) (by decide), fun q => absurd (hj.symm.trans q) (by decide), rfl, hb1, hb2, hb3, hb4⟩ (by omega) (by omega) (by omega) (by omega)

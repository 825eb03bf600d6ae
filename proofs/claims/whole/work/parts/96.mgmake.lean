/-! the model: values are made, counts, faults -/
theorem gd_push {us : List VT} {zs : List Nat} {R : LK} {v : VT} {z : Nat} (h : GD us zs R) (hz : zs.length = us.length) (hR : OWN R us.length) (hv : z = vlen v) (hp : v.1 = 7 ∨ v.1 = 8 → v.2.2.2.2 = []) : GD (us ++ [v]) (zs ++ [z]) R := fun i hi => by
  rw [List.length_append, List.length_singleton] at hi
  rcases Nat.lt_or_ge i us.length with q | q
  · rw [vat_old _ q, zat_old _ (by omega)]
    exact h i q
  · have e : i = us.length := by omega
    subst e
    rw [vat_new, zat_new _ hz.symm, lkP_big hR (Nat.le_refl _)]
    exact ⟨hv, fun g => (hp g).symm⟩
theorem mkS_le {mk : Nat → Nat} {pg n : Nat} (h : ∀ j, mk j ≤ pg) : ∀ j, mkS mk n 0 j ≤ pg := fun j => by
  by_cases q : j = n
  · rw [q, mkS_s]
    exact Nat.zero_le _
  · rw [mkS_n mk q]
    exact h j
theorem len_1 (us : List VT) (v : VT) : nI (us.length + 1) = nI (us ++ [v]).length := by
  rw [List.length_append]
  rfl
set_option maxHeartbeats 8000000 in
theorem c_mg_nil {g : GT} (hG : GLB g) (d m : Nat) (th : Int32) (tape : List UInt8) (us : List VT) (np nb : Nat) (out : List UInt8) (cd pl pm : Nat)  (hd : 2 ≤ d) : CtrV g mX8_nil 7 d 0 0 m [] [MGA g m th (tape, us, np, nb, out, cd, pl) pm] (mgo g m pm (sKeep 0 0 0 1 (tape, us, np, nb, out, cd, pl))) noX := by
  refine ⟨mga_rcv, ?_⟩
  refine ctr_intro hG (by decide +kernel) (Nat.le_of_ble_eq_true rfl) ?_
  rintro X F rfl E B hI T
  replace E : JE X RX8 cX8_nil 1 d 0 0 := E
  show J X _ [MGA X.1 m th (tape, us, np, nb, out, cd, pl) pm, F] 0 0 0 [some (.ref m)] []
  refine mga_open (by repeat (first | with_reducible exact pick_0 | with_reducible apply pick_s)) ?_
  intro r pkd cm fu op at_ bgc got pr pg zs R mk gs hS
  dsimp only [MGL, List.cons_append, List.nil_append]
  obtain ⟨hgd, hRl, hmk, hpg⟩ := hS
  dsimp only at hgd hRl
  refine j_know (pick_know (P := TB X.1 r us zs R nb mk) (by repeat (first | with_reducible exact pick_0 | with_reducible apply pick_s)) tb_know) (fun hk9 => ?_)
  refine j_know (pick_know (P := BA X.1 (r 1) tape) (by repeat (first | with_reducible exact pick_0 | with_reducible apply pick_s)) ba_know) (fun hbl => ?_)
  refine j_know (pick_know (P := BA X.1 (r 3) out) (by repeat (first | with_reducible exact pick_0 | with_reducible apply pick_s)) ba_know) (fun hbo => ?_)
  unfold mgo at B
  refine j_aload_n E 1 dX8_nil_0 0 rfl rfl rfl ?_
  refine j_aload_n E 2 dX8_nil_1 0 rfl rfl rfl ?_
  refine j_getf E 5 dX8_nil_2 fl_X8_107 (by repeat (first | with_reducible exact pick_0 | with_reducible apply pick_s)) (by rfl) rfl ?_
  refine j_sipush E (3000) 8 dX8_nil_5 (by decide) rfl ?_
  refine j_icmp_ne E 15 11 dX8_nil_8 (by decide) rfl (fun h8 => ?_) (fun h8 => ?_)
  · have q : ¬ us.length = 3000 := fun q => h8 (by rw [q]; rfl)
    rw [show sKeep 0 0 0 1 (tape, us, np, nb, out, cd, pl) = (0, nI us.length, (tape, us ++ [(0, 0, 0, [], [])], np, nb, out, cd, pl)) from if_pos (show us.length < 3000 by omega)] at B
    dsimp only at B
    refine j_iconst E (0) 16 dX8_nil_15 (by decide) rfl ?_
    refine j_putf E 19 dX8_nil_16 fl_X8_71 (by repeat (first | with_reducible exact pick_0 | with_reducible apply pick_s)) rfl rfl (Nat.le_of_ble_eq_true rfl) rfl ?_
    dsimp only [List.set]
    refine j_aload_n E 20 dX8_nil_19 0 rfl rfl rfl ?_
    refine j_getf E 23 dX8_nil_20 fl_X8_71 (by repeat (first | with_reducible exact pick_0 | with_reducible apply pick_s)) (by rfl) rfl ?_
    refine j_if_le E 30 26 dX8_nil_23 (by decide) rfl (fun h23 => ?_) (fun h23 => ?_)
    · refine j_aload_n E 31 dX8_nil_30 0 rfl rfl rfl ?_
      refine j_iconst E (0) 32 dX8_nil_31 (by decide) rfl ?_
      refine j_lconst E 0 33 dX8_nil_32 rfl rfl ?_
      refine j_callV E (c_m_make hG (d-1) m r 0 0 us zs R nb mk (by omega)) 36 dX8_nil_33 _ _ _ iv_X8_110 rfl rfl rfl (by repeat (first | with_reducible exact pick_0 | with_reducible apply pick_s | exact sel_0 | apply sel_s)) (by omega) (by omega) (by omega) (Nat.le_of_ble_eq_true rfl) rfl ?_
      rintro _ _ _ _ ⟨rfl, rfl, rfl, rfl⟩
      dsimp only [List.cons_append, List.nil_append, Option.toList]
      refine mga_close r 0 np cd pl pg (pm + 3001) (by repeat (first | with_reducible exact pick_0 | with_reducible apply pick_s | exact sel_0 | apply sel_s)) ?_ ?_ ?_
      · exact ⟨rfl, rfl, rfl, len_1 _ _, rfl, rfl, rfl, rfl, rfl⟩
      · exact ⟨gd_push hgd hk9.1 hk9.2.1 rfl (fun _ => rfl), hRl, mkS_le hmk, by omega⟩
      · exact j_iret E B rfl 0 0 dX8_nil_36 (by repeat (first | with_reducible exact pick_0 | with_reducible apply pick_s | exact sel_0 | apply sel_s)) ⟨rfl, rfl, rfl, rfl⟩ (by omega) (by omega) (by omega) (by omega)
    · exact absurd (by decide) h23
  · have q : us.length = 3000 := (nI_eq (b := 3000) (by omega) (by decide)).mp h8
    rw [show sKeep 0 0 0 1 (tape, us, np, nb, out, cd, pl) = (1, 0, (tape, us, np, nb, out, cd, pl)) from if_neg (show ¬ us.length < 3000 by omega)] at B
    dsimp only at B
    refine j_iconst E (1) 12 dX8_nil_11 (by decide) rfl ?_
    refine j_goto E 16 dX8_nil_12 (by decide) ?_
    refine j_putf E 19 dX8_nil_16 fl_X8_71 (by repeat (first | with_reducible exact pick_0 | with_reducible apply pick_s)) rfl rfl (Nat.le_of_ble_eq_true rfl) rfl ?_
    dsimp only [List.set]
    refine j_aload_n E 20 dX8_nil_19 0 rfl rfl rfl ?_
    refine j_getf E 23 dX8_nil_20 fl_X8_71 (by repeat (first | with_reducible exact pick_0 | with_reducible apply pick_s)) (by rfl) rfl ?_
    refine j_if_le E 30 26 dX8_nil_23 (by decide) rfl (fun h23 => ?_) (fun h23 => ?_)
    · exact absurd h23 (by decide)
    · refine j_iconst E (0) 27 dX8_nil_26 (by decide) rfl ?_
      refine j_goto E 36 dX8_nil_27 (by decide) ?_
      refine mga_close r 1 np cd pl pg (pm + 3001) (by repeat (first | with_reducible exact pick_0 | with_reducible apply pick_s | exact sel_0 | apply sel_s)) ?_ ⟨hgd, hRl, hmk, by omega⟩ ?_
      · exact ⟨rfl, rfl, rfl, rfl, rfl, rfl, rfl, rfl, rfl⟩
      · exact j_iret E B rfl 0 0 dX8_nil_36 (by repeat (first | with_reducible exact pick_0 | with_reducible apply pick_s | exact sel_0 | apply sel_s)) ⟨rfl, rfl, rfl, rfl⟩ (by omega) (by omega) (by omega) (by omega)
set_option maxHeartbeats 8000000 in
theorem c_mg_truth {g : GT} (hG : GLB g) (d m : Nat) (th : Int32) (tape : List UInt8) (us : List VT) (np nb : Nat) (out : List UInt8) (cd pl pm : Nat) (b : Bool) (hd : 2 ≤ d) : CtrV g mX8_truth 7 d 0 0 m [.int (bI b)] [MGA g m th (tape, us, np, nb, out, cd, pl) pm] (mgo g m pm (sKeep 1 0 (bI b) 1 (tape, us, np, nb, out, cd, pl))) noX := by
  refine ⟨mga_rcv, ?_⟩
  refine ctr_intro hG (by decide +kernel) (Nat.le_of_ble_eq_true rfl) ?_
  rintro X F rfl E B hI T
  replace E : JE X RX8 cX8_truth 3 d 0 0 := E
  show J X _ [MGA X.1 m th (tape, us, np, nb, out, cd, pl) pm, F] 0 0 0 [some (.ref m), some (.int (bI b)), none] []
  refine mga_open (by repeat (first | with_reducible exact pick_0 | with_reducible apply pick_s)) ?_
  intro r pkd cm fu op at_ bgc got pr pg zs R mk gs hS
  dsimp only [MGL, List.cons_append, List.nil_append]
  obtain ⟨hgd, hRl, hmk, hpg⟩ := hS
  dsimp only at hgd hRl
  refine j_know (pick_know (P := TB X.1 r us zs R nb mk) (by repeat (first | with_reducible exact pick_0 | with_reducible apply pick_s)) tb_know) (fun hk9 => ?_)
  refine j_know (pick_know (P := BA X.1 (r 1) tape) (by repeat (first | with_reducible exact pick_0 | with_reducible apply pick_s)) ba_know) (fun hbl => ?_)
  refine j_know (pick_know (P := BA X.1 (r 3) out) (by repeat (first | with_reducible exact pick_0 | with_reducible apply pick_s)) ba_know) (fun hbo => ?_)
  unfold mgo at B
  refine j_aload_n E 1 dX8_truth_0 0 rfl rfl rfl ?_
  refine j_aload_n E 2 dX8_truth_1 0 rfl rfl rfl ?_
  refine j_getf E 5 dX8_truth_2 fl_X8_107 (by repeat (first | with_reducible exact pick_0 | with_reducible apply pick_s)) (by rfl) rfl ?_
  refine j_sipush E (3000) 8 dX8_truth_5 (by decide) rfl ?_
  refine j_icmp_ne E 15 11 dX8_truth_8 (by decide) rfl (fun h8 => ?_) (fun h8 => ?_)
  · have q : ¬ us.length = 3000 := fun q => h8 (by rw [q]; rfl)
    rw [show sKeep 1 0 (bI b) 1 (tape, us, np, nb, out, cd, pl) = (0, nI us.length, (tape, us ++ [(1, 0, bI b, [], [])], np, nb, out, cd, pl)) from if_pos (show us.length < 3000 by omega)] at B
    dsimp only at B
    refine j_iconst E (0) 16 dX8_truth_15 (by decide) rfl ?_
    refine j_putf E 19 dX8_truth_16 fl_X8_71 (by repeat (first | with_reducible exact pick_0 | with_reducible apply pick_s)) rfl rfl (Nat.le_of_ble_eq_true rfl) rfl ?_
    dsimp only [List.set]
    refine j_aload_n E 20 dX8_truth_19 0 rfl rfl rfl ?_
    refine j_getf E 23 dX8_truth_20 fl_X8_71 (by repeat (first | with_reducible exact pick_0 | with_reducible apply pick_s)) (by rfl) rfl ?_
    refine j_if_le E 28 26 dX8_truth_23 (by decide) rfl (fun h23 => ?_) (fun h23 => ?_)
    · refine j_aload_n E 29 dX8_truth_28 0 rfl rfl rfl ?_
      refine j_iconst E (1) 30 dX8_truth_29 (by decide) rfl ?_
      refine j_lconst E 0 31 dX8_truth_30 rfl rfl ?_
      refine j_callV E (c_m_make hG (d-1) m r 1 0 us zs R nb mk (by omega)) 34 dX8_truth_31 _ _ _ iv_X8_110 rfl rfl rfl (by repeat (first | with_reducible exact pick_0 | with_reducible apply pick_s | exact sel_0 | apply sel_s)) (by omega) (by omega) (by omega) (Nat.le_of_ble_eq_true rfl) rfl ?_
      rintro _ _ _ _ ⟨rfl, rfl, rfl, rfl⟩
      dsimp only [List.cons_append, List.nil_append, Option.toList]
      refine j_istore_n E 35 dX8_truth_34 2 rfl (Nat.le_of_ble_eq_true rfl) rfl rfl ?_
      dsimp only [List.set]
      refine j_aload_n E 36 dX8_truth_35 0 rfl rfl rfl ?_
      refine j_getf E 39 dX8_truth_36 fl_X8_29 (by repeat (first | with_reducible exact pick_0 | with_reducible apply pick_s)) (by rfl) rfl ?_
      refine j_iload_n E 40 dX8_truth_39 2 rfl rfl rfl ?_
      refine j_iload_n E 41 dX8_truth_40 1 rfl rfl rfl ?_
      refine j_if_eq E 48 44 dX8_truth_41 (by decide) rfl (fun h41 => ?_) (fun h41 => ?_)
      · have hb0 := bI_0.mp h41
        refine j_iconst E (0) 49 dX8_truth_48 (by decide) rfl ?_
        refine j_tbEs E 50 dX8_truth_49 (by repeat (first | with_reducible exact pick_0 | with_reducible apply pick_s)) (fun _ => rfl) rfl ?_
        dsimp only
        rw [if_neg (show ¬ 1 = 2 by decide)]
        rw [hb0, show bI false = 0 from rfl] at B
        refine j_iload_n E 51 dX8_truth_50 2 rfl rfl rfl ?_
        refine mga_close r 0 np cd pl pg (pm + 3001) (by repeat (first | with_reducible exact pick_0 | with_reducible apply pick_s | exact sel_0 | apply sel_s)) ?_ ?_ ?_
        · exact ⟨rfl, rfl, rfl, len_1 _ _, rfl, rfl, rfl, rfl, rfl⟩
        · exact ⟨gd_push hgd hk9.1 hk9.2.1 rfl (fun _ => rfl), hRl, mkS_le hmk, by omega⟩
        · exact j_iret E B rfl 0 0 dX8_truth_51 (by repeat (first | with_reducible exact pick_0 | with_reducible apply pick_s | exact sel_0 | apply sel_s)) ⟨rfl, rfl, rfl, rfl⟩ (by omega) (by omega) (by omega) (by omega)
      · have hb1 : b = true := by
          cases b
          · exact absurd rfl h41
          · rfl
        refine j_iconst E (1) 45 dX8_truth_44 (by decide) rfl ?_
        refine j_goto E 49 dX8_truth_45 (by decide) ?_
        refine j_tbEs E 50 dX8_truth_49 (by repeat (first | with_reducible exact pick_0 | with_reducible apply pick_s)) (fun q => by dsimp only at q; omega) rfl ?_
        dsimp only
        rw [if_neg (show ¬ 1 = 2 by decide)]
        rw [hb1, show bI true = 1 from rfl] at B
        refine j_iload_n E 51 dX8_truth_50 2 rfl rfl rfl ?_
        refine mga_close r 0 np cd pl pg (pm + 3001) (by repeat (first | with_reducible exact pick_0 | with_reducible apply pick_s | exact sel_0 | apply sel_s)) ?_ ?_ ?_
        · exact ⟨rfl, rfl, rfl, len_1 _ _, rfl, rfl, rfl, rfl, rfl⟩
        · exact ⟨gd_push hgd hk9.1 hk9.2.1 rfl (fun _ => rfl), hRl, mkS_le hmk, by omega⟩
        · exact j_iret E B rfl 0 0 dX8_truth_51 (by repeat (first | with_reducible exact pick_0 | with_reducible apply pick_s | exact sel_0 | apply sel_s)) ⟨rfl, rfl, rfl, rfl⟩ (by omega) (by omega) (by omega) (by omega)
    · exact absurd (by decide) h23
  · have q : us.length = 3000 := (nI_eq (b := 3000) (by omega) (by decide)).mp h8
    rw [show sKeep 1 0 (bI b) 1 (tape, us, np, nb, out, cd, pl) = (1, 0, (tape, us, np, nb, out, cd, pl)) from if_neg (show ¬ us.length < 3000 by omega)] at B
    dsimp only at B
    refine j_iconst E (1) 12 dX8_truth_11 (by decide) rfl ?_
    refine j_goto E 16 dX8_truth_12 (by decide) ?_
    refine j_putf E 19 dX8_truth_16 fl_X8_71 (by repeat (first | with_reducible exact pick_0 | with_reducible apply pick_s)) rfl rfl (Nat.le_of_ble_eq_true rfl) rfl ?_
    dsimp only [List.set]
    refine j_aload_n E 20 dX8_truth_19 0 rfl rfl rfl ?_
    refine j_getf E 23 dX8_truth_20 fl_X8_71 (by repeat (first | with_reducible exact pick_0 | with_reducible apply pick_s)) (by rfl) rfl ?_
    refine j_if_le E 28 26 dX8_truth_23 (by decide) rfl (fun h23 => ?_) (fun h23 => ?_)
    · exact absurd h23 (by decide)
    · refine j_iconst E (0) 27 dX8_truth_26 (by decide) rfl ?_
      refine mga_close r 1 np cd pl pg (pm + 3001) (by repeat (first | with_reducible exact pick_0 | with_reducible apply pick_s | exact sel_0 | apply sel_s)) ?_ ⟨hgd, hRl, hmk, by omega⟩ ?_
      · exact ⟨rfl, rfl, rfl, rfl, rfl, rfl, rfl, rfl, rfl⟩
      · exact j_iret E B rfl 0 0 dX8_truth_27 (by repeat (first | with_reducible exact pick_0 | with_reducible apply pick_s | exact sel_0 | apply sel_s)) ⟨rfl, rfl, rfl, rfl⟩ (by omega) (by omega) (by omega) (by omega)
set_option maxHeartbeats 8000000 in
theorem c_mg_integer {g : GT} (hG : GLB g) (d m : Nat) (th : Int32) (tape : List UInt8) (us : List VT) (np nb : Nat) (out : List UInt8) (cd pl pm : Nat) (v : Int64) (hb : Bool) (hd : 2 ≤ d) : CtrV g mX8_integer 7 d 0 0 m [.long v, .int (bI hb)] [MGA g m th (tape, us, np, nb, out, cd, pl) pm] (mgo g m pm (sKeep 2 v (if hb = true ∧ v < 0 then 1 else 0) 1 (tape, us, np, nb, out, cd, pl))) noX := by
  refine ⟨mga_rcv, ?_⟩
  refine ctr_intro hG (by decide +kernel) (Nat.le_of_ble_eq_true rfl) ?_
  rintro X F rfl E B hI T
  replace E : JE X RX8 cX8_integer 5 d 0 0 := E
  show J X _ [MGA X.1 m th (tape, us, np, nb, out, cd, pl) pm, F] 0 0 0 [some (.ref m), some (.long v), none, some (.int (bI hb)), none] []
  refine mga_open (by repeat (first | with_reducible exact pick_0 | with_reducible apply pick_s)) ?_
  intro r pkd cm fu op at_ bgc got pr pg zs R mk gs hS
  dsimp only [MGL, List.cons_append, List.nil_append]
  obtain ⟨hgd, hRl, hmk, hpg⟩ := hS
  dsimp only at hgd hRl
  refine j_know (pick_know (P := TB X.1 r us zs R nb mk) (by repeat (first | with_reducible exact pick_0 | with_reducible apply pick_s)) tb_know) (fun hk9 => ?_)
  refine j_know (pick_know (P := BA X.1 (r 1) tape) (by repeat (first | with_reducible exact pick_0 | with_reducible apply pick_s)) ba_know) (fun hbl => ?_)
  refine j_know (pick_know (P := BA X.1 (r 3) out) (by repeat (first | with_reducible exact pick_0 | with_reducible apply pick_s)) ba_know) (fun hbo => ?_)
  unfold mgo at B
  refine j_aload_n E 1 dX8_integer_0 0 rfl rfl rfl ?_
  refine j_aload_n E 2 dX8_integer_1 0 rfl rfl rfl ?_
  refine j_getf E 5 dX8_integer_2 fl_X8_107 (by repeat (first | with_reducible exact pick_0 | with_reducible apply pick_s)) (by rfl) rfl ?_
  refine j_sipush E (3000) 8 dX8_integer_5 (by decide) rfl ?_
  refine j_icmp_ne E 15 11 dX8_integer_8 (by decide) rfl (fun h8 => ?_) (fun h8 => ?_)
  · have q : ¬ us.length = 3000 := fun q => h8 (by rw [q]; rfl)
    rw [show sKeep 2 v (if hb = true ∧ v < 0 then 1 else 0) 1 (tape, us, np, nb, out, cd, pl) = (0, nI us.length, (tape, us ++ [(2, v, (if hb = true ∧ v < 0 then 1 else 0), [], [])], np, nb, out, cd, pl)) from if_pos (show us.length < 3000 by omega)] at B
    dsimp only at B
    refine j_iconst E (0) 16 dX8_integer_15 (by decide) rfl ?_
    refine j_putf E 19 dX8_integer_16 fl_X8_71 (by repeat (first | with_reducible exact pick_0 | with_reducible apply pick_s)) rfl rfl (Nat.le_of_ble_eq_true rfl) rfl ?_
    dsimp only [List.set]
    refine j_aload_n E 20 dX8_integer_19 0 rfl rfl rfl ?_
    refine j_getf E 23 dX8_integer_20 fl_X8_71 (by repeat (first | with_reducible exact pick_0 | with_reducible apply pick_s)) (by rfl) rfl ?_
    refine j_if_le E 28 26 dX8_integer_23 (by decide) rfl (fun h23 => ?_) (fun h23 => ?_)
    · refine j_aload_n E 29 dX8_integer_28 0 rfl rfl rfl ?_
      refine j_iconst E (2) 30 dX8_integer_29 (by decide) rfl ?_
      refine j_lload_n E 31 dX8_integer_30 1 rfl rfl rfl ?_
      refine j_callV E (c_m_make hG (d-1) m r 2 v us zs R nb mk (by omega)) 34 dX8_integer_31 _ _ _ iv_X8_110 rfl rfl rfl (by repeat (first | with_reducible exact pick_0 | with_reducible apply pick_s | exact sel_0 | apply sel_s)) (by omega) (by omega) (by omega) (Nat.le_of_ble_eq_true rfl) rfl ?_
      rintro _ _ _ _ ⟨rfl, rfl, rfl, rfl⟩
      dsimp only [List.cons_append, List.nil_append, Option.toList]
      refine j_istore E 36 dX8_integer_34 (Nat.le_of_ble_eq_true rfl) rfl rfl ?_
      dsimp only [List.set]
      refine j_aload_n E 37 dX8_integer_36 0 rfl rfl rfl ?_
      refine j_getf E 40 dX8_integer_37 fl_X8_25 (by repeat (first | with_reducible exact pick_0 | with_reducible apply pick_s)) (by rfl) rfl ?_
      refine j_iload E 42 dX8_integer_40 rfl rfl ?_
      refine j_iload_n E 43 dX8_integer_42 3 rfl rfl rfl ?_
      refine j_if_eq E 56 46 dX8_integer_43 (by decide) rfl (fun h43 => ?_) (fun h43 => ?_)
      · have hb0 := bI_0.mp h43
        rw [if_neg (fun y => by rw [hb0] at y; exact absurd y.1 (by decide))] at B
        refine j_iconst E (0) 57 dX8_integer_56 (by decide) rfl ?_
        refine j_tbHs E 58 dX8_integer_57 (by repeat (first | with_reducible exact pick_0 | with_reducible apply pick_s)) (Or.inl rfl) rfl ?_
        dsimp only
        rw [if_pos rfl]
        refine j_iload E 60 dX8_integer_58 rfl rfl ?_
        refine mga_close r 0 np cd pl pg (pm + 3001) (by repeat (first | with_reducible exact pick_0 | with_reducible apply pick_s | exact sel_0 | apply sel_s)) ?_ ?_ ?_
        · exact ⟨rfl, rfl, rfl, len_1 _ _, rfl, rfl, rfl, rfl, rfl⟩
        · exact ⟨gd_push hgd hk9.1 hk9.2.1 rfl (fun _ => rfl), hRl, mkS_le hmk, by omega⟩
        · exact j_iret E B rfl 0 0 dX8_integer_60 (by repeat (first | with_reducible exact pick_0 | with_reducible apply pick_s | exact sel_0 | apply sel_s)) ⟨rfl, rfl, rfl, rfl⟩ (by omega) (by omega) (by omega) (by omega)
      · have hb1 : hb = true := by
          cases hb
          · exact absurd rfl h43
          · rfl
        refine j_lload_n E 47 dX8_integer_46 1 rfl rfl rfl ?_
        refine j_lconst E 0 48 dX8_integer_47 rfl rfl ?_
        refine j_lcmp E 49 dX8_integer_48 rfl ?_
        refine j_if_ge E 56 52 dX8_integer_49 (by decide) rfl (fun h49 => ?_) (fun h49 => ?_)
        · rw [if_neg (fun y => absurd y.2 (fun z => by
            have z1 := (fa_lt64 _ _).mp z
            have z2 := (fa_le64 _ _).mp ((lg_cmp_ge _ _).mp h49)
            omega))] at B
          refine j_iconst E (0) 57 dX8_integer_56 (by decide) rfl ?_
          refine j_tbHs E 58 dX8_integer_57 (by repeat (first | with_reducible exact pick_0 | with_reducible apply pick_s)) (Or.inl rfl) rfl ?_
          dsimp only
          rw [if_pos rfl]
          refine j_iload E 60 dX8_integer_58 rfl rfl ?_
          refine mga_close r 0 np cd pl pg (pm + 3001) (by repeat (first | with_reducible exact pick_0 | with_reducible apply pick_s | exact sel_0 | apply sel_s)) ?_ ?_ ?_
          · exact ⟨rfl, rfl, rfl, len_1 _ _, rfl, rfl, rfl, rfl, rfl⟩
          · exact ⟨gd_push hgd hk9.1 hk9.2.1 rfl (fun _ => rfl), hRl, mkS_le hmk, by omega⟩
          · exact j_iret E B rfl 0 0 dX8_integer_60 (by repeat (first | with_reducible exact pick_0 | with_reducible apply pick_s | exact sel_0 | apply sel_s)) ⟨rfl, rfl, rfl, rfl⟩ (by omega) (by omega) (by omega) (by omega)
        · rw [if_pos ⟨hb1, by
            have z2 : ¬ (0 : Int64) ≤ v := fun y => h49 ((lg_cmp_ge _ _).mpr y)
            rw [fa_le64] at z2
            rw [fa_lt64]
            omega⟩] at B
          refine j_iconst E (1) 53 dX8_integer_52 (by decide) rfl ?_
          refine j_goto E 57 dX8_integer_53 (by decide) ?_
          refine j_tbHs E 58 dX8_integer_57 (by repeat (first | with_reducible exact pick_0 | with_reducible apply pick_s)) (Or.inr ⟨rfl, rfl⟩) rfl ?_
          dsimp only
          rw [if_pos rfl]
          refine j_iload E 60 dX8_integer_58 rfl rfl ?_
          refine mga_close r 0 np cd pl pg (pm + 3001) (by repeat (first | with_reducible exact pick_0 | with_reducible apply pick_s | exact sel_0 | apply sel_s)) ?_ ?_ ?_
          · exact ⟨rfl, rfl, rfl, len_1 _ _, rfl, rfl, rfl, rfl, rfl⟩
          · exact ⟨gd_push hgd hk9.1 hk9.2.1 rfl (fun _ => rfl), hRl, mkS_le hmk, by omega⟩
          · exact j_iret E B rfl 0 0 dX8_integer_60 (by repeat (first | with_reducible exact pick_0 | with_reducible apply pick_s | exact sel_0 | apply sel_s)) ⟨rfl, rfl, rfl, rfl⟩ (by omega) (by omega) (by omega) (by omega)
    · exact absurd (by decide) h23
  · have q : us.length = 3000 := (nI_eq (b := 3000) (by omega) (by decide)).mp h8
    rw [show sKeep 2 v (if hb = true ∧ v < 0 then 1 else 0) 1 (tape, us, np, nb, out, cd, pl) = (1, 0, (tape, us, np, nb, out, cd, pl)) from if_neg (show ¬ us.length < 3000 by omega)] at B
    dsimp only at B
    refine j_iconst E (1) 12 dX8_integer_11 (by decide) rfl ?_
    refine j_goto E 16 dX8_integer_12 (by decide) ?_
    refine j_putf E 19 dX8_integer_16 fl_X8_71 (by repeat (first | with_reducible exact pick_0 | with_reducible apply pick_s)) rfl rfl (Nat.le_of_ble_eq_true rfl) rfl ?_
    dsimp only [List.set]
    refine j_aload_n E 20 dX8_integer_19 0 rfl rfl rfl ?_
    refine j_getf E 23 dX8_integer_20 fl_X8_71 (by repeat (first | with_reducible exact pick_0 | with_reducible apply pick_s)) (by rfl) rfl ?_
    refine j_if_le E 28 26 dX8_integer_23 (by decide) rfl (fun h23 => ?_) (fun h23 => ?_)
    · exact absurd h23 (by decide)
    · refine j_iconst E (0) 27 dX8_integer_26 (by decide) rfl ?_
      refine mga_close r 1 np cd pl pg (pm + 3001) (by repeat (first | with_reducible exact pick_0 | with_reducible apply pick_s | exact sel_0 | apply sel_s)) ?_ ⟨hgd, hRl, hmk, by omega⟩ ?_
      · exact ⟨rfl, rfl, rfl, rfl, rfl, rfl, rfl, rfl, rfl⟩
      · exact j_iret E B rfl 0 0 dX8_integer_27 (by repeat (first | with_reducible exact pick_0 | with_reducible apply pick_s | exact sel_0 | apply sel_s)) ⟨rfl, rfl, rfl, rfl⟩ (by omega) (by omega) (by omega) (by omega)
set_option maxHeartbeats 8000000 in
theorem c_mg_real {g : GT} (hG : GLB g) (d m : Nat) (th : Int32) (tape : List UInt8) (us : List VT) (np nb : Nat) (out : List UInt8) (cd pl pm : Nat) (v : Int64) (hb : Bool) (hd : 2 ≤ d) : CtrV g mX8_real 7 d 0 0 m [.long v, .int (bI hb)] [MGA g m th (tape, us, np, nb, out, cd, pl) pm] (mgo g m pm (if hb = true then sKeep 4 v 0 1 (tape, us, np, nb, out, cd, pl) else sKeep 3 (v &&& 4294967295) 0 1 (tape, us, np, nb, out, cd, pl))) noX := by
  refine ⟨mga_rcv, ?_⟩
  refine ctr_intro hG (by decide +kernel) (Nat.le_of_ble_eq_true rfl) ?_
  rintro X F rfl E B hI T
  replace E : JE X RX8 cX8_real 4 d 0 0 := E
  show J X _ [MGA X.1 m th (tape, us, np, nb, out, cd, pl) pm, F] 0 0 0 [some (.ref m), some (.long v), none, some (.int (bI hb))] []
  refine mga_open (by repeat (first | with_reducible exact pick_0 | with_reducible apply pick_s)) ?_
  intro r pkd cm fu op at_ bgc got pr pg zs R mk gs hS
  dsimp only [MGL, List.cons_append, List.nil_append]
  obtain ⟨hgd, hRl, hmk, hpg⟩ := hS
  dsimp only at hgd hRl
  refine j_know (pick_know (P := TB X.1 r us zs R nb mk) (by repeat (first | with_reducible exact pick_0 | with_reducible apply pick_s)) tb_know) (fun hk9 => ?_)
  refine j_know (pick_know (P := BA X.1 (r 1) tape) (by repeat (first | with_reducible exact pick_0 | with_reducible apply pick_s)) ba_know) (fun hbl => ?_)
  refine j_know (pick_know (P := BA X.1 (r 3) out) (by repeat (first | with_reducible exact pick_0 | with_reducible apply pick_s)) ba_know) (fun hbo => ?_)
  unfold mgo at B
  refine j_aload_n E 1 dX8_real_0 0 rfl rfl rfl ?_
  refine j_aload_n E 2 dX8_real_1 0 rfl rfl rfl ?_
  refine j_getf E 5 dX8_real_2 fl_X8_107 (by repeat (first | with_reducible exact pick_0 | with_reducible apply pick_s)) (by rfl) rfl ?_
  refine j_sipush E (3000) 8 dX8_real_5 (by decide) rfl ?_
  refine j_icmp_ne E 15 11 dX8_real_8 (by decide) rfl (fun h8 => ?_) (fun h8 => ?_)
  · have q : ¬ us.length = 3000 := fun q => h8 (by rw [q]; rfl)
    refine j_iconst E (0) 16 dX8_real_15 (by decide) rfl ?_
    refine j_putf E 19 dX8_real_16 fl_X8_71 (by repeat (first | with_reducible exact pick_0 | with_reducible apply pick_s)) rfl rfl (Nat.le_of_ble_eq_true rfl) rfl ?_
    dsimp only [List.set]
    refine j_aload_n E 20 dX8_real_19 0 rfl rfl rfl ?_
    refine j_getf E 23 dX8_real_20 fl_X8_71 (by repeat (first | with_reducible exact pick_0 | with_reducible apply pick_s)) (by rfl) rfl ?_
    refine j_if_le E 30 26 dX8_real_23 (by decide) rfl (fun h23 => ?_) (fun h23 => ?_)
    · rcases hb with _ | _
      · rw [if_neg (show ¬ false = true by decide), show sKeep 3 (v &&& 4294967295) 0 1 (tape, us, np, nb, out, cd, pl) = (0, nI us.length, (tape, us ++ [(3, v &&& 4294967295, 0, [], [])], np, nb, out, cd, pl)) from if_pos (show us.length < 3000 by omega)] at B
        dsimp only at B
        refine j_aload_n E 31 dX8_real_30 0 rfl rfl rfl ?_
        refine j_iload_n E 32 dX8_real_31 3 rfl rfl rfl ?_
        refine j_if_eq E 39 35 dX8_real_32 (by decide) rfl (fun h32 => ?_) (fun h32 => ?_)
        · refine j_iconst E (3) 40 dX8_real_39 (by decide) rfl ?_
          refine j_iload_n E 41 dX8_real_40 3 rfl rfl rfl ?_
          refine j_if_eq E 48 44 dX8_real_41 (by decide) rfl (fun h41 => ?_) (fun h41 => ?_)
          · refine j_lload_n E 49 dX8_real_48 1 rfl rfl rfl ?_
            refine j_ldcL E _ 52 dX8_real_49 kc_X8_120 rfl ?_
            refine j_land E 53 dX8_real_52 rfl ?_
            refine j_callV E (c_m_make hG (d-1) m r 3 (v &&& 4294967295) us zs R nb mk (by omega)) 56 dX8_real_53 _ _ _ iv_X8_110 rfl rfl rfl (by repeat (first | with_reducible exact pick_0 | with_reducible apply pick_s | exact sel_0 | apply sel_s)) (by omega) (by omega) (by omega) (Nat.le_of_ble_eq_true rfl) rfl ?_
            rintro _ _ _ _ ⟨rfl, rfl, rfl, rfl⟩
            dsimp only [List.cons_append, List.nil_append, Option.toList]
            refine mga_close r 0 np cd pl pg (pm + 3001) (by repeat (first | with_reducible exact pick_0 | with_reducible apply pick_s | exact sel_0 | apply sel_s)) ?_ ?_ ?_
            · exact ⟨rfl, rfl, rfl, len_1 _ _, rfl, rfl, rfl, rfl, rfl⟩
            · exact ⟨gd_push hgd hk9.1 hk9.2.1 rfl (fun _ => rfl), hRl, mkS_le hmk, by omega⟩
            · exact j_iret E B rfl 0 0 dX8_real_56 (by repeat (first | with_reducible exact pick_0 | with_reducible apply pick_s | exact sel_0 | apply sel_s)) ⟨rfl, rfl, rfl, rfl⟩ (by omega) (by omega) (by omega) (by omega)
          · exact absurd rfl h41
        · exact absurd rfl h32
      · rw [if_pos rfl, show sKeep 4 v 0 1 (tape, us, np, nb, out, cd, pl) = (0, nI us.length, (tape, us ++ [(4, v, 0, [], [])], np, nb, out, cd, pl)) from if_pos (show us.length < 3000 by omega)] at B
        dsimp only at B
        refine j_aload_n E 31 dX8_real_30 0 rfl rfl rfl ?_
        refine j_iload_n E 32 dX8_real_31 3 rfl rfl rfl ?_
        refine j_if_eq E 39 35 dX8_real_32 (by decide) rfl (fun h32 => ?_) (fun h32 => ?_)
        · exact absurd h32 (by decide)
        · refine j_iconst E (4) 36 dX8_real_35 (by decide) rfl ?_
          refine j_goto E 40 dX8_real_36 (by decide) ?_
          refine j_iload_n E 41 dX8_real_40 3 rfl rfl rfl ?_
          refine j_if_eq E 48 44 dX8_real_41 (by decide) rfl (fun h41 => ?_) (fun h41 => ?_)
          · exact absurd h41 (by decide)
          · refine j_lload_n E 45 dX8_real_44 1 rfl rfl rfl ?_
            refine j_goto E 53 dX8_real_45 (by decide) ?_
            refine j_callV E (c_m_make hG (d-1) m r 4 v us zs R nb mk (by omega)) 56 dX8_real_53 _ _ _ iv_X8_110 rfl rfl rfl (by repeat (first | with_reducible exact pick_0 | with_reducible apply pick_s | exact sel_0 | apply sel_s)) (by omega) (by omega) (by omega) (Nat.le_of_ble_eq_true rfl) rfl ?_
            rintro _ _ _ _ ⟨rfl, rfl, rfl, rfl⟩
            dsimp only [List.cons_append, List.nil_append, Option.toList]
            refine mga_close r 0 np cd pl pg (pm + 3001) (by repeat (first | with_reducible exact pick_0 | with_reducible apply pick_s | exact sel_0 | apply sel_s)) ?_ ?_ ?_
            · exact ⟨rfl, rfl, rfl, len_1 _ _, rfl, rfl, rfl, rfl, rfl⟩
            · exact ⟨gd_push hgd hk9.1 hk9.2.1 rfl (fun _ => rfl), hRl, mkS_le hmk, by omega⟩
            · exact j_iret E B rfl 0 0 dX8_real_56 (by repeat (first | with_reducible exact pick_0 | with_reducible apply pick_s | exact sel_0 | apply sel_s)) ⟨rfl, rfl, rfl, rfl⟩ (by omega) (by omega) (by omega) (by omega)
    · exact absurd (by decide) h23
  · have q : us.length = 3000 := (nI_eq (b := 3000) (by omega) (by decide)).mp h8
    have e : (if hb = true then sKeep 4 v 0 1 (tape, us, np, nb, out, cd, pl) else sKeep 3 (v &&& 4294967295) 0 1 (tape, us, np, nb, out, cd, pl)) = (1, 0, (tape, us, np, nb, out, cd, pl)) := by
      rcases hb with _ | _
      · rw [if_neg (show ¬ false = true by decide)]
        exact if_neg (show ¬ us.length < 3000 by omega)
      · rw [if_pos rfl]
        exact if_neg (show ¬ us.length < 3000 by omega)
    rw [e] at B
    dsimp only at B
    refine j_iconst E (1) 12 dX8_real_11 (by decide) rfl ?_
    refine j_goto E 16 dX8_real_12 (by decide) ?_
    refine j_putf E 19 dX8_real_16 fl_X8_71 (by repeat (first | with_reducible exact pick_0 | with_reducible apply pick_s)) rfl rfl (Nat.le_of_ble_eq_true rfl) rfl ?_
    dsimp only [List.set]
    refine j_aload_n E 20 dX8_real_19 0 rfl rfl rfl ?_
    refine j_getf E 23 dX8_real_20 fl_X8_71 (by repeat (first | with_reducible exact pick_0 | with_reducible apply pick_s)) (by rfl) rfl ?_
    refine j_if_le E 30 26 dX8_real_23 (by decide) rfl (fun h23 => ?_) (fun h23 => ?_)
    · exact absurd h23 (by decide)
    · refine j_iconst E (0) 27 dX8_real_26 (by decide) rfl ?_
      refine j_goto E 56 dX8_real_27 (by decide) ?_
      refine mga_close r 1 np cd pl pg (pm + 3001) (by repeat (first | with_reducible exact pick_0 | with_reducible apply pick_s | exact sel_0 | apply sel_s)) ?_ ⟨hgd, hRl, hmk, by omega⟩ ?_
      · exact ⟨rfl, rfl, rfl, rfl, rfl, rfl, rfl, rfl, rfl⟩
      · exact j_iret E B rfl 0 0 dX8_real_56 (by repeat (first | with_reducible exact pick_0 | with_reducible apply pick_s | exact sel_0 | apply sel_s)) ⟨rfl, rfl, rfl, rfl⟩ (by omega) (by omega) (by omega) (by omega)
set_option maxHeartbeats 8000000 in
theorem c_mg_time {g : GT} (hG : GLB g) (d m : Nat) (th : Int32) (tape : List UInt8) (us : List VT) (np nb : Nat) (out : List UInt8) (cd pl pm : Nat) (sec : Int64) (na : Int32) (hd : 2 ≤ d) : CtrV g mX8_time 7 d 0 0 m [.long sec, .int na] [MGA g m th (tape, us, np, nb, out, cd, pl) pm] (mgo g m pm (sTime sec na (tape, us, np, nb, out, cd, pl))) noX := by
  refine ⟨mga_rcv, ?_⟩
  refine ctr_intro hG (by decide +kernel) (Nat.le_of_ble_eq_true rfl) ?_
  rintro X F rfl E B hI T
  replace E : JE X RX8 cX8_time 5 d 0 0 := E
  show J X _ [MGA X.1 m th (tape, us, np, nb, out, cd, pl) pm, F] 0 0 0 [some (.ref m), some (.long sec), none, some (.int na), none] []
  refine mga_open (by repeat (first | with_reducible exact pick_0 | with_reducible apply pick_s)) ?_
  intro r pkd cm fu op at_ bgc got pr pg zs R mk gs hS
  dsimp only [MGL, List.cons_append, List.nil_append]
  obtain ⟨hgd, hRl, hmk, hpg⟩ := hS
  dsimp only at hgd hRl
  refine j_know (pick_know (P := TB X.1 r us zs R nb mk) (by repeat (first | with_reducible exact pick_0 | with_reducible apply pick_s)) tb_know) (fun hk9 => ?_)
  refine j_know (pick_know (P := BA X.1 (r 1) tape) (by repeat (first | with_reducible exact pick_0 | with_reducible apply pick_s)) ba_know) (fun hbl => ?_)
  refine j_know (pick_know (P := BA X.1 (r 3) out) (by repeat (first | with_reducible exact pick_0 | with_reducible apply pick_s)) ba_know) (fun hbo => ?_)
  unfold mgo at B
  have bad : sTime sec na (tape, us, np, nb, out, cd, pl) = (1, 0, (tape, us, np, nb, out, cd, pl)) → J X 5 [MF m r th (nI tape.length) (nI out.length) (nI us.length) (nI R.length) (nI nb) pkd (nI pg) cm fu op (nI cd) (nI pl) at_ bgc got pr, BA X.1 (r 1) tape, BA X.1 (r 3) out, BA X.1 (r 18) [], BA X.1 (r 19) [], TB X.1 r us zs R nb mk, GS X.1 r gs, OD X.1 r [], PL X.1 r [], F] 0 0 30 [some (.ref m), some (.long sec), none, some (.int na), none] [.int 1, .ref m] := by
    intro e
    rw [e] at B
    dsimp only at B
    refine j_putf E 33 dX8_time_30 fl_X8_71 (by repeat (first | with_reducible exact pick_0 | with_reducible apply pick_s)) rfl rfl (Nat.le_of_ble_eq_true rfl) rfl ?_
    dsimp only [List.set]
    refine j_aload_n E 34 dX8_time_33 0 rfl rfl rfl ?_
    refine j_getf E 37 dX8_time_34 fl_X8_71 (by repeat (first | with_reducible exact pick_0 | with_reducible apply pick_s)) (by rfl) rfl ?_
    refine j_if_le E 42 40 dX8_time_37 (by decide) rfl (fun h37 => ?_) (fun h37 => ?_)
    · exact absurd h37 (by decide)
    · refine j_iconst E (0) 41 dX8_time_40 (by decide) rfl ?_
      refine mga_close r 1 np cd pl pg (pm + 3001) (by repeat (first | with_reducible exact pick_0 | with_reducible apply pick_s | exact sel_0 | apply sel_s)) ?_ ⟨hgd, hRl, hmk, by omega⟩ ?_
      · exact ⟨rfl, rfl, rfl, rfl, rfl, rfl, rfl, rfl, rfl⟩
      · exact j_iret E B rfl 0 0 dX8_time_41 (by repeat (first | with_reducible exact pick_0 | with_reducible apply pick_s | exact sel_0 | apply sel_s)) ⟨rfl, rfl, rfl, rfl⟩ (by omega) (by omega) (by omega) (by omega)
  refine j_aload_n E 1 dX8_time_0 0 rfl rfl rfl ?_
  refine j_iload_n E 2 dX8_time_1 3 rfl rfl rfl ?_
  refine j_if_lt E 11 5 dX8_time_2 (by decide) rfl (fun h2 => ?_) (fun h2 => ?_)
  · refine j_iconst E (1) 12 dX8_time_11 (by decide) rfl ?_
    refine j_goto E 30 dX8_time_12 (by decide) ?_
    exact bad (if_pos (Or.inl h2))
  · refine j_iload_n E 6 dX8_time_5 3 rfl rfl rfl ?_
    refine j_ldcI E _ 8 dX8_time_6 kc_X8_130 rfl ?_
    refine j_icmp_le E 15 11 dX8_time_8 (by decide) rfl (fun h8 => ?_) (fun h8 => ?_)
    · have hno : ¬ (na < 0 ∨ 999999999 < na) := fun y => y.elim h2 (fun z => by
        rw [fa_lt] at z
        rw [fa_le] at h8
        omega)
      have e1 : sTime sec na (tape, us, np, nb, out, cd, pl) = sKeep 10 sec na 2 (tape, us, np, nb, out, cd, pl) := if_neg hno
      rw [e1] at B
      refine j_aload_n E 16 dX8_time_15 0 rfl rfl rfl ?_
      refine j_getf E 19 dX8_time_16 fl_X8_107 (by repeat (first | with_reducible exact pick_0 | with_reducible apply pick_s)) (by rfl) rfl ?_
      refine j_sipush E (3000) 22 dX8_time_19 (by decide) rfl ?_
      refine j_icmp_ne E 29 25 dX8_time_22 (by decide) rfl (fun h22 => ?_) (fun h22 => ?_)
      · have q : ¬ us.length = 3000 := fun q => h22 (by rw [q]; rfl)
        rw [show sKeep 10 sec na 2 (tape, us, np, nb, out, cd, pl) = (0, nI us.length, (tape, us ++ [(10, sec, na, [], [])], np, nb, out, cd, pl)) from if_pos (show us.length < 3000 by omega)] at B
        dsimp only at B
        refine j_iconst E (0) 30 dX8_time_29 (by decide) rfl ?_
        refine j_putf E 33 dX8_time_30 fl_X8_71 (by repeat (first | with_reducible exact pick_0 | with_reducible apply pick_s)) rfl rfl (Nat.le_of_ble_eq_true rfl) rfl ?_
        dsimp only [List.set]
        refine j_aload_n E 34 dX8_time_33 0 rfl rfl rfl ?_
        refine j_getf E 37 dX8_time_34 fl_X8_71 (by repeat (first | with_reducible exact pick_0 | with_reducible apply pick_s)) (by rfl) rfl ?_
        refine j_if_le E 42 40 dX8_time_37 (by decide) rfl (fun h37 => ?_) (fun h37 => ?_)
        · refine j_aload_n E 43 dX8_time_42 0 rfl rfl rfl ?_
          refine j_bipush E (10) 45 dX8_time_43 (by decide) rfl ?_
          refine j_lload_n E 46 dX8_time_45 1 rfl rfl rfl ?_
          refine j_callV E (c_m_make hG (d-1) m r 10 sec us zs R nb mk (by omega)) 49 dX8_time_46 _ _ _ iv_X8_110 rfl rfl rfl (by repeat (first | with_reducible exact pick_0 | with_reducible apply pick_s | exact sel_0 | apply sel_s)) (by omega) (by omega) (by omega) (Nat.le_of_ble_eq_true rfl) rfl ?_
          rintro _ _ _ _ ⟨rfl, rfl, rfl, rfl⟩
          dsimp only [List.cons_append, List.nil_append, Option.toList]
          refine j_istore E 51 dX8_time_49 (Nat.le_of_ble_eq_true rfl) rfl rfl ?_
          dsimp only [List.set]
          refine j_aload_n E 52 dX8_time_51 0 rfl rfl rfl ?_
          refine j_getf E 55 dX8_time_52 fl_X8_29 (by repeat (first | with_reducible exact pick_0 | with_reducible apply pick_s)) (by rfl) rfl ?_
          refine j_iload E 57 dX8_time_55 rfl rfl ?_
          refine j_iload_n E 58 dX8_time_57 3 rfl rfl rfl ?_
          refine j_tbEs E 59 dX8_time_58 (by repeat (first | with_reducible exact pick_0 | with_reducible apply pick_s)) (fun q => by dsimp only at q; omega) rfl ?_
          dsimp only
          rw [if_neg (show ¬ 10 = 2 by decide)]
          refine j_iload E 61 dX8_time_59 rfl rfl ?_
          refine mga_close r 0 np cd pl pg (pm + 3001) (by repeat (first | with_reducible exact pick_0 | with_reducible apply pick_s | exact sel_0 | apply sel_s)) ?_ ?_ ?_
          · exact ⟨rfl, rfl, rfl, len_1 _ _, rfl, rfl, rfl, rfl, rfl⟩
          · exact ⟨gd_push hgd hk9.1 hk9.2.1 rfl (fun _ => rfl), hRl, mkS_le hmk, by omega⟩
          · exact j_iret E B rfl 0 0 dX8_time_61 (by repeat (first | with_reducible exact pick_0 | with_reducible apply pick_s | exact sel_0 | apply sel_s)) ⟨rfl, rfl, rfl, rfl⟩ (by omega) (by omega) (by omega) (by omega)
        · exact absurd (by decide) h37
      · have q : us.length = 3000 := (nI_eq (b := 3000) (by omega) (by decide)).mp h22
        rw [show sKeep 10 sec na 2 (tape, us, np, nb, out, cd, pl) = (2, 0, (tape, us, np, nb, out, cd, pl)) from if_neg (show ¬ us.length < 3000 by omega)] at B
        dsimp only at B
        refine j_iconst E (2) 26 dX8_time_25 (by decide) rfl ?_
        refine j_goto E 30 dX8_time_26 (by decide) ?_
        refine j_putf E 33 dX8_time_30 fl_X8_71 (by repeat (first | with_reducible exact pick_0 | with_reducible apply pick_s)) rfl rfl (Nat.le_of_ble_eq_true rfl) rfl ?_
        dsimp only [List.set]
        refine j_aload_n E 34 dX8_time_33 0 rfl rfl rfl ?_
        refine j_getf E 37 dX8_time_34 fl_X8_71 (by repeat (first | with_reducible exact pick_0 | with_reducible apply pick_s)) (by rfl) rfl ?_
        refine j_if_le E 42 40 dX8_time_37 (by decide) rfl (fun h37 => ?_) (fun h37 => ?_)
        · exact absurd h37 (by decide)
        · refine j_iconst E (0) 41 dX8_time_40 (by decide) rfl ?_
          refine mga_close r 2 np cd pl pg (pm + 3001) (by repeat (first | with_reducible exact pick_0 | with_reducible apply pick_s | exact sel_0 | apply sel_s)) ?_ ⟨hgd, hRl, hmk, by omega⟩ ?_
          · exact ⟨rfl, rfl, rfl, rfl, rfl, rfl, rfl, rfl, rfl⟩
          · exact j_iret E B rfl 0 0 dX8_time_41 (by repeat (first | with_reducible exact pick_0 | with_reducible apply pick_s | exact sel_0 | apply sel_s)) ⟨rfl, rfl, rfl, rfl⟩ (by omega) (by omega) (by omega) (by omega)
    · refine j_iconst E (1) 12 dX8_time_11 (by decide) rfl ?_
      refine j_goto E 30 dX8_time_12 (by decide) ?_
      exact bad (if_pos (Or.inr (by
        rw [fa_lt]
        rw [fa_le] at h8
        omega)))
set_option maxHeartbeats 8000000 in
theorem c_mg_clear {g : GT} (hG : GLB g) (d m : Nat) (th : Int32) (tape : List UInt8) (us : List VT) (np nb : Nat) (out : List UInt8) (cd pl pm : Nat)  (hd : 2 ≤ d) : CtrV g mX8_clear 7 d 0 0 m [] [MGA g m th (tape, us, np, nb, out, cd, pl) pm] (mgo g m pm (sClear (tape, us, np, nb, out, cd, pl))) noX := by
  refine ⟨mga_rcv, ?_⟩
  refine ctr_intro hG (by decide +kernel) (Nat.le_of_ble_eq_true rfl) ?_
  rintro X F rfl E B hI T
  replace E : JE X RX8 cX8_clear 2 d 0 0 := E
  show J X _ [MGA X.1 m th (tape, us, np, nb, out, cd, pl) pm, F] 0 0 0 [some (.ref m), none] []
  refine mga_open (by repeat (first | with_reducible exact pick_0 | with_reducible apply pick_s)) ?_
  intro r pkd cm fu op at_ bgc got pr pg zs R mk gs hS
  dsimp only [MGL, List.cons_append, List.nil_append]
  obtain ⟨hgd, hRl, hmk, hpg⟩ := hS
  dsimp only at hgd hRl
  refine j_know (pick_know (P := TB X.1 r us zs R nb mk) (by repeat (first | with_reducible exact pick_0 | with_reducible apply pick_s)) tb_know) (fun hk9 => ?_)
  refine j_know (pick_know (P := BA X.1 (r 1) tape) (by repeat (first | with_reducible exact pick_0 | with_reducible apply pick_s)) ba_know) (fun hbl => ?_)
  refine j_know (pick_know (P := BA X.1 (r 3) out) (by repeat (first | with_reducible exact pick_0 | with_reducible apply pick_s)) ba_know) (fun hbo => ?_)
  unfold mgo at B
  rw [show sClear (tape, us, np, nb, out, cd, pl) = (0, nI us.length, (tape, [], 0, 0, out, cd, pl)) from rfl] at B
  dsimp only at B
  refine j_tbback (us := []) (zs := []) (e := us) (ze := zs) (f := R) (R := []) (nb := 0) (nb' := nb) (mk := mk) (by
    simp only [List.nil_append, List.append_nil]
    exact (by repeat (first | with_reducible exact pick_0 | with_reducible apply pick_s))) rfl (fun x hx => absurd hx List.not_mem_nil) (fun x _ => Nat.zero_le _) (bse_0 _).symm (Nat.zero_le _) ?_
  refine j_aload_n E 1 dX8_clear_0 0 rfl rfl rfl ?_
  refine j_iconst E (0) 2 dX8_clear_1 (by decide) rfl ?_
  refine j_putf E 5 dX8_clear_2 fl_X8_71 (by repeat (first | with_reducible exact pick_0 | with_reducible apply pick_s)) rfl rfl (Nat.le_of_ble_eq_true rfl) rfl ?_
  dsimp only [List.set]
  refine j_aload_n E 6 dX8_clear_5 0 rfl rfl rfl ?_
  refine j_getf E 9 dX8_clear_6 fl_X8_107 (by repeat (first | with_reducible exact pick_0 | with_reducible apply pick_s)) (by rfl) rfl ?_
  refine j_istore_n E 10 dX8_clear_9 1 rfl (Nat.le_of_ble_eq_true rfl) rfl rfl ?_
  dsimp only [List.set]
  refine j_aload_n E 11 dX8_clear_10 0 rfl rfl rfl ?_
  refine j_iconst E (0) 12 dX8_clear_11 (by decide) rfl ?_
  refine j_putf E 15 dX8_clear_12 fl_X8_107 (by repeat (first | with_reducible exact pick_0 | with_reducible apply pick_s)) rfl rfl (Nat.le_of_ble_eq_true rfl) rfl ?_
  dsimp only [List.set]
  refine j_aload_n E 16 dX8_clear_15 0 rfl rfl rfl ?_
  refine j_iconst E (0) 17 dX8_clear_16 (by decide) rfl ?_
  refine j_putf E 20 dX8_clear_17 fl_X8_117 (by repeat (first | with_reducible exact pick_0 | with_reducible apply pick_s)) rfl rfl (Nat.le_of_ble_eq_true rfl) rfl ?_
  dsimp only [List.set]
  refine j_aload_n E 21 dX8_clear_20 0 rfl rfl rfl ?_
  refine j_iconst E (0) 22 dX8_clear_21 (by decide) rfl ?_
  refine j_putf E 25 dX8_clear_22 fl_X8_114 (by repeat (first | with_reducible exact pick_0 | with_reducible apply pick_s)) rfl rfl (Nat.le_of_ble_eq_true rfl) rfl ?_
  dsimp only [List.set]
  refine j_iload_n E 26 dX8_clear_25 1 rfl rfl rfl ?_
  refine mga_close r 0 0 cd pl pg (pm + 3001) (by repeat (first | with_reducible exact pick_0 | with_reducible apply pick_s | exact sel_0 | apply sel_s)) ?_ ⟨fun i hi => absurd hi (Nat.not_lt_zero _), rfl, hmk, by omega⟩ ?_
  · exact ⟨rfl, rfl, rfl, rfl, rfl, rfl, rfl, rfl, rfl⟩
  · exact j_iret E B rfl 0 0 dX8_clear_26 (by repeat (first | with_reducible exact pick_0 | with_reducible apply pick_s | exact sel_0 | apply sel_s)) ⟨rfl, rfl, rfl, rfl⟩ (by omega) (by omega) (by omega) (by omega)
set_option maxHeartbeats 8000000 in
theorem c_mg_fault {g : GT} (hG : GLB g) (d m : Nat) (th : Int32) (tape : List UInt8) (us : List VT) (np nb : Nat) (out : List UInt8) (cd pl pm : Nat) (w : Int32) (hd : 2 ≤ d) : CtrV g mX8_fault 7 d 0 0 m [.int w] [MGA g m th (tape, us, np, nb, out, cd, pl) pm] (mgo g m pm (sFault w (tape, us, np, nb, out, cd, pl))) noX := by
  refine ⟨mga_rcv, ?_⟩
  refine ctr_intro hG (by decide +kernel) (Nat.le_of_ble_eq_true rfl) ?_
  rintro X F rfl E B hI T
  replace E : JE X RX8 cX8_fault 2 d 0 0 := E
  show J X _ [MGA X.1 m th (tape, us, np, nb, out, cd, pl) pm, F] 0 0 0 [some (.ref m), some (.int w)] []
  refine mga_open (by repeat (first | with_reducible exact pick_0 | with_reducible apply pick_s)) ?_
  intro r pkd cm fu op at_ bgc got pr pg zs R mk gs hS
  dsimp only [MGL, List.cons_append, List.nil_append]
  obtain ⟨hgd, hRl, hmk, hpg⟩ := hS
  dsimp only at hgd hRl
  refine j_know (pick_know (P := TB X.1 r us zs R nb mk) (by repeat (first | with_reducible exact pick_0 | with_reducible apply pick_s)) tb_know) (fun hk9 => ?_)
  refine j_know (pick_know (P := BA X.1 (r 1) tape) (by repeat (first | with_reducible exact pick_0 | with_reducible apply pick_s)) ba_know) (fun hbl => ?_)
  refine j_know (pick_know (P := BA X.1 (r 3) out) (by repeat (first | with_reducible exact pick_0 | with_reducible apply pick_s)) ba_know) (fun hbo => ?_)
  unfold mgo at B
  refine j_aload_n E 1 dX8_fault_0 0 rfl rfl rfl ?_
  refine j_iload_n E 2 dX8_fault_1 1 rfl rfl rfl ?_
  refine j_if_eq E 10 5 dX8_fault_2 (by decide) rfl (fun h2 => ?_) (fun h2 => ?_)
  · rw [show sFault w (tape, us, np, nb, out, cd, pl) = (0, nI cd, (tape, us, np, nb, out, cd, pl)) from if_pos h2] at B
    dsimp only at B
    refine j_iconst E (0) 11 dX8_fault_10 (by decide) rfl ?_
    refine j_goto E 15 dX8_fault_11 (by decide) ?_
    refine j_putf E 18 dX8_fault_15 fl_X8_71 (by repeat (first | with_reducible exact pick_0 | with_reducible apply pick_s)) rfl rfl (Nat.le_of_ble_eq_true rfl) rfl ?_
    dsimp only [List.set]
    refine j_aload_n E 19 dX8_fault_18 0 rfl rfl rfl ?_
    refine j_getf E 22 dX8_fault_19 fl_X8_71 (by repeat (first | with_reducible exact pick_0 | with_reducible apply pick_s)) (by rfl) rfl ?_
    refine j_if_le E 29 25 dX8_fault_22 (by decide) rfl (fun h22 => ?_) (fun h22 => ?_)
    · refine j_iload_n E 30 dX8_fault_29 1 rfl rfl rfl ?_
      refine j_if_ne E 40 33 dX8_fault_30 (by decide) rfl (fun h30 => ?_) (fun h30 => ?_)
      · exact absurd h2 h30
      · refine j_aload_n E 34 dX8_fault_33 0 rfl rfl rfl ?_
        refine j_getf E 37 dX8_fault_34 fl_X8_138 (by repeat (first | with_reducible exact pick_0 | with_reducible apply pick_s)) (by rfl) rfl ?_
        refine j_goto E 44 dX8_fault_37 (by decide) ?_
        refine mga_close r 0 np cd pl pg (pm + 3001) (by repeat (first | with_reducible exact pick_0 | with_reducible apply pick_s | exact sel_0 | apply sel_s)) ?_ ⟨hgd, hRl, hmk, by omega⟩ ?_
        · exact ⟨rfl, rfl, rfl, rfl, rfl, rfl, rfl, rfl, rfl⟩
        · exact j_iret E B rfl 0 0 dX8_fault_44 (by repeat (first | with_reducible exact pick_0 | with_reducible apply pick_s | exact sel_0 | apply sel_s)) ⟨rfl, rfl, rfl, rfl⟩ (by omega) (by omega) (by omega) (by omega)
    · exact absurd (by decide) h22
  · refine j_iload_n E 6 dX8_fault_5 1 rfl rfl rfl ?_
    refine j_iconst E (1) 7 dX8_fault_6 (by decide) rfl ?_
    refine j_icmp_ne E 14 10 dX8_fault_7 (by decide) rfl (fun h7 => ?_) (fun h7 => ?_)
    · rw [show sFault w (tape, us, np, nb, out, cd, pl) = (1, 0, (tape, us, np, nb, out, cd, pl)) from (if_neg h2).trans (if_neg h7)] at B
      dsimp only at B
      refine j_iconst E (1) 15 dX8_fault_14 (by decide) rfl ?_
      refine j_putf E 18 dX8_fault_15 fl_X8_71 (by repeat (first | with_reducible exact pick_0 | with_reducible apply pick_s)) rfl rfl (Nat.le_of_ble_eq_true rfl) rfl ?_
      dsimp only [List.set]
      refine j_aload_n E 19 dX8_fault_18 0 rfl rfl rfl ?_
      refine j_getf E 22 dX8_fault_19 fl_X8_71 (by repeat (first | with_reducible exact pick_0 | with_reducible apply pick_s)) (by rfl) rfl ?_
      refine j_if_le E 29 25 dX8_fault_22 (by decide) rfl (fun h22 => ?_) (fun h22 => ?_)
      · exact absurd h22 (by decide)
      · refine j_iconst E (0) 26 dX8_fault_25 (by decide) rfl ?_
        refine j_goto E 44 dX8_fault_26 (by decide) ?_
        refine mga_close r 1 np cd pl pg (pm + 3001) (by repeat (first | with_reducible exact pick_0 | with_reducible apply pick_s | exact sel_0 | apply sel_s)) ?_ ⟨hgd, hRl, hmk, by omega⟩ ?_
        · exact ⟨rfl, rfl, rfl, rfl, rfl, rfl, rfl, rfl, rfl⟩
        · exact j_iret E B rfl 0 0 dX8_fault_44 (by repeat (first | with_reducible exact pick_0 | with_reducible apply pick_s | exact sel_0 | apply sel_s)) ⟨rfl, rfl, rfl, rfl⟩ (by omega) (by omega) (by omega) (by omega)
    · rw [show sFault w (tape, us, np, nb, out, cd, pl) = (0, nI pl, (tape, us, np, nb, out, cd, pl)) from (if_neg h2).trans (if_pos h7)] at B
      dsimp only at B
      refine j_iconst E (0) 11 dX8_fault_10 (by decide) rfl ?_
      refine j_goto E 15 dX8_fault_11 (by decide) ?_
      refine j_putf E 18 dX8_fault_15 fl_X8_71 (by repeat (first | with_reducible exact pick_0 | with_reducible apply pick_s)) rfl rfl (Nat.le_of_ble_eq_true rfl) rfl ?_
      dsimp only [List.set]
      refine j_aload_n E 19 dX8_fault_18 0 rfl rfl rfl ?_
      refine j_getf E 22 dX8_fault_19 fl_X8_71 (by repeat (first | with_reducible exact pick_0 | with_reducible apply pick_s)) (by rfl) rfl ?_
      refine j_if_le E 29 25 dX8_fault_22 (by decide) rfl (fun h22 => ?_) (fun h22 => ?_)
      · refine j_iload_n E 30 dX8_fault_29 1 rfl rfl rfl ?_
        refine j_if_ne E 40 33 dX8_fault_30 (by decide) rfl (fun h30 => ?_) (fun h30 => ?_)
        · refine j_aload_n E 41 dX8_fault_40 0 rfl rfl rfl ?_
          refine j_getf E 44 dX8_fault_41 fl_X8_141 (by repeat (first | with_reducible exact pick_0 | with_reducible apply pick_s)) (by rfl) rfl ?_
          refine mga_close r 0 np cd pl pg (pm + 3001) (by repeat (first | with_reducible exact pick_0 | with_reducible apply pick_s | exact sel_0 | apply sel_s)) ?_ ⟨hgd, hRl, hmk, by omega⟩ ?_
          · exact ⟨rfl, rfl, rfl, rfl, rfl, rfl, rfl, rfl, rfl⟩
          · exact j_iret E B rfl 0 0 dX8_fault_44 (by repeat (first | with_reducible exact pick_0 | with_reducible apply pick_s | exact sel_0 | apply sel_s)) ⟨rfl, rfl, rfl, rfl⟩ (by omega) (by omega) (by omega) (by omega)
        · exact absurd h30 h2
      · exact absurd (by decide) h22

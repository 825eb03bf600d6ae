/-! the model: rows, groups, the tape -/
theorem cut_all (bs : List UInt8) : cutB bs 0 bs.length = bs := by
  rw [cutB, List.drop_zero, List.take_length]
theorem gp_all (bs : List UInt8) (h : bs.length ≤ 65536) : (gpN bs 0 bs.length = bs.length) ↔ chBad bs bs.length bs.length 0 = none := by
  rw [gpN, Nat.sub_zero]
  rcases hc : chBad bs bs.length bs.length 0 with _ | p
  · exact ⟨fun _ => rfl, fun _ => rfl⟩
  · have h1 := chBad_lt hc
    refine ⟨fun q => ?_, fun q => by cases q⟩
    dsimp only at q
    omega
theorem vlen_e (k : Nat) (nm : Int64) (dt : Int32) : 0 = vlen (k, nm, dt, [], []) := by
  unfold vlen
  split
  · exact (Nat.zero_div 2).symm
  · split
    · rfl
    · rfl
theorem vlen_row {k : Nat} {dt : Int32} {cs : List UInt8} (h : ¬ (k = 7 ∨ k = 8)) : cs.length = vlen (k, 0, dt, cs, []) := by
  rw [vlen, if_neg (by dsimp only; omega), if_neg (by dsimp only; omega)]
set_option maxHeartbeats 8000000 in
theorem c_mg_group {g : GT} (hG : GLB g) (d m : Nat) (th : Int32) (tape : List UInt8) (us : List VT) (np nb : Nat) (out : List UInt8) (cd pl pm : Nat) (kd : Int32) (hd : 3 ≤ d) : CtrV g mX8_group 7 d 0 0 m [.int kd] [MGA g m th (tape, us, np, nb, out, cd, pl) pm] (mgo g m pm (sGroup kd (tape, us, np, nb, out, cd, pl))) noX := by
  refine ⟨mga_rcv, ?_⟩
  refine ctr_intro hG (by decide +kernel) (Nat.le_of_ble_eq_true rfl) ?_
  rintro X F rfl E B hI T
  replace E : JE X RX8 cX8_group 2 d 0 0 := E
  show J X _ [MGA X.1 m th (tape, us, np, nb, out, cd, pl) pm, F] 0 0 0 [some (.ref m), some (.int kd)] []
  refine mga_open (by repeat (first | with_reducible exact pick_0 | with_reducible apply pick_s)) ?_
  intro r pkd cm fu op at_ bgc got pr pg zs R mk gs hS
  dsimp only [MGL, List.cons_append, List.nil_append]
  obtain ⟨hgd, hRl, hmk, hpg⟩ := hS
  dsimp only at hgd hRl
  refine j_know (pick_know (P := TB X.1 r us zs R nb mk) (by repeat (first | with_reducible exact pick_0 | with_reducible apply pick_s)) tb_know) (fun hk9 => ?_)
  refine j_know (pick_know (P := BA X.1 (r 1) tape) (by repeat (first | with_reducible exact pick_0 | with_reducible apply pick_s)) ba_know) (fun hbl => ?_)
  refine j_know (pick_know (P := BA X.1 (r 3) out) (by repeat (first | with_reducible exact pick_0 | with_reducible apply pick_s)) ba_know) (fun hbo => ?_)
  unfold mgo at B
  refine j_aload_n E 1 dX8_group_0 0 rfl rfl rfl ?_
  refine j_iload_n E 2 dX8_group_1 1 rfl rfl rfl ?_
  refine j_callS E (c_m_isGroup hG (d-1) kd) 5 dX8_group_2 iv_X8_100 rfl rfl (by repeat (first | with_reducible exact pick_0 | with_reducible apply pick_s | exact sel_0 | apply sel_s)) (by omega) (by omega) (by omega) (Nat.le_of_ble_eq_true rfl) rfl ?_
  rintro _ _ _ _ ⟨rfl, rfl, rfl, rfl⟩
  dsimp only [List.cons_append, List.nil_append, Option.toList]
  by_cases hg : kd = 7 ∨ kd = 8
  · rw [if_pos hg]
    obtain ⟨k, hk, hkd⟩ : ∃ k : Nat, (k = 7 ∨ k = 8) ∧ kd = nI k := by
      rcases hg with q | q
      · exact ⟨7, Or.inl rfl, q⟩
      · exact ⟨8, Or.inr rfl, q⟩
    have e1 : sGroup kd (tape, us, np, nb, out, cd, pl) = sKeep k 0 0 2 (tape, us, np, nb, out, cd, pl) := by
      rcases hk with q | q
      · rw [hkd, q]
        rfl
      · rw [hkd, q]
        rfl
    rw [e1] at B
    rw [hkd]
    refine j_if_ne E 12 8 dX8_group_5 (by decide) rfl (fun h5 => ?_) (fun h5 => ?_)
    · refine j_aload_n E 13 dX8_group_12 0 rfl rfl rfl ?_
      refine j_getf E 16 dX8_group_13 fl_X8_107 (by repeat (first | with_reducible exact pick_0 | with_reducible apply pick_s)) (by rfl) rfl ?_
      refine j_sipush E (3000) 19 dX8_group_16 (by decide) rfl ?_
      refine j_icmp_ne E 26 22 dX8_group_19 (by decide) rfl (fun h19 => ?_) (fun h19 => ?_)
      · have q : ¬ us.length = 3000 := fun q => h19 (by rw [q]; rfl)
        rw [show sKeep k 0 0 2 (tape, us, np, nb, out, cd, pl) = (0, nI us.length, (tape, us ++ [(k, 0, 0, [], [])], np, nb, out, cd, pl)) from if_pos (show us.length < 3000 by omega)] at B
        dsimp only at B
        refine j_iconst E (0) 27 dX8_group_26 (by decide) rfl ?_
        refine j_putf E 30 dX8_group_27 fl_X8_71 (by repeat (first | with_reducible exact pick_0 | with_reducible apply pick_s)) rfl rfl (Nat.le_of_ble_eq_true rfl) rfl ?_
        dsimp only [List.set]
        refine j_aload_n E 31 dX8_group_30 0 rfl rfl rfl ?_
        refine j_getf E 34 dX8_group_31 fl_X8_71 (by repeat (first | with_reducible exact pick_0 | with_reducible apply pick_s)) (by rfl) rfl ?_
        refine j_if_le E 41 37 dX8_group_34 (by decide) rfl (fun h34 => ?_) (fun h34 => ?_)
        · refine j_aload_n E 42 dX8_group_41 0 rfl rfl rfl ?_
          refine j_iload_n E 43 dX8_group_42 1 rfl rfl rfl ?_
          refine j_lconst E 0 44 dX8_group_43 rfl rfl ?_
          refine j_callV E (c_m_make hG (d-1) m r k 0 us zs R nb mk (by omega)) 47 dX8_group_44 _ _ _ iv_X8_110 rfl rfl rfl (by repeat (first | with_reducible exact pick_0 | with_reducible apply pick_s | exact sel_0 | apply sel_s)) (by omega) (by omega) (by omega) (Nat.le_of_ble_eq_true rfl) rfl ?_
          rintro _ _ _ _ ⟨rfl, rfl, rfl, rfl⟩
          dsimp only [List.cons_append, List.nil_append, Option.toList]
          refine mga_close r 0 np cd pl pg (pm + 3001) (by repeat (first | with_reducible exact pick_0 | with_reducible apply pick_s | exact sel_0 | apply sel_s)) ?_ ?_ ?_
          · exact ⟨rfl, rfl, rfl, len_1 _ _, rfl, rfl, rfl, rfl, rfl⟩
          · exact ⟨gd_push hgd hk9.1 hk9.2.1 (vlen_e _ _ _) (fun _ => rfl), hRl, mkS_le hmk, by omega⟩
          · exact j_iret E B rfl 0 0 dX8_group_47 (by repeat (first | with_reducible exact pick_0 | with_reducible apply pick_s | exact sel_0 | apply sel_s)) ⟨rfl, rfl, rfl, rfl⟩ (by omega) (by omega) (by omega) (by omega)
        · exact absurd (by decide) h34
      · have q : us.length = 3000 := (nI_eq (b := 3000) (by omega) (by decide)).mp h19
        rw [show sKeep k 0 0 2 (tape, us, np, nb, out, cd, pl) = (2, 0, (tape, us, np, nb, out, cd, pl)) from if_neg (show ¬ us.length < 3000 by omega)] at B
        dsimp only at B
        refine j_iconst E (2) 23 dX8_group_22 (by decide) rfl ?_
        refine j_goto E 27 dX8_group_23 (by decide) ?_
        refine j_putf E 30 dX8_group_27 fl_X8_71 (by repeat (first | with_reducible exact pick_0 | with_reducible apply pick_s)) rfl rfl (Nat.le_of_ble_eq_true rfl) rfl ?_
        dsimp only [List.set]
        refine j_aload_n E 31 dX8_group_30 0 rfl rfl rfl ?_
        refine j_getf E 34 dX8_group_31 fl_X8_71 (by repeat (first | with_reducible exact pick_0 | with_reducible apply pick_s)) (by rfl) rfl ?_
        refine j_if_le E 41 37 dX8_group_34 (by decide) rfl (fun h34 => ?_) (fun h34 => ?_)
        · exact absurd h34 (by decide)
        · refine j_iconst E (0) 38 dX8_group_37 (by decide) rfl ?_
          refine j_goto E 47 dX8_group_38 (by decide) ?_
          refine mga_close r 2 np cd pl pg (pm + 3001) (by repeat (first | with_reducible exact pick_0 | with_reducible apply pick_s | exact sel_0 | apply sel_s)) ?_ ⟨hgd, hRl, hmk, by omega⟩ ?_
          · exact ⟨rfl, rfl, rfl, rfl, rfl, rfl, rfl, rfl, rfl⟩
          · exact j_iret E B rfl 0 0 dX8_group_47 (by repeat (first | with_reducible exact pick_0 | with_reducible apply pick_s | exact sel_0 | apply sel_s)) ⟨rfl, rfl, rfl, rfl⟩ (by omega) (by omega) (by omega) (by omega)
    · exact absurd h5 (by decide)
  · rw [if_neg hg]
    rw [show sGroup kd (tape, us, np, nb, out, cd, pl) = (1, 0, (tape, us, np, nb, out, cd, pl)) from (if_neg (fun q => hg (Or.inl q))).trans (if_neg (fun q => hg (Or.inr q)))] at B
    dsimp only at B
    refine j_if_ne E 12 8 dX8_group_5 (by decide) rfl (fun h5 => ?_) (fun h5 => ?_)
    · exact absurd rfl h5
    · refine j_iconst E (1) 9 dX8_group_8 (by decide) rfl ?_
      refine j_goto E 27 dX8_group_9 (by decide) ?_
      refine j_putf E 30 dX8_group_27 fl_X8_71 (by repeat (first | with_reducible exact pick_0 | with_reducible apply pick_s)) rfl rfl (Nat.le_of_ble_eq_true rfl) rfl ?_
      dsimp only [List.set]
      refine j_aload_n E 31 dX8_group_30 0 rfl rfl rfl ?_
      refine j_getf E 34 dX8_group_31 fl_X8_71 (by repeat (first | with_reducible exact pick_0 | with_reducible apply pick_s)) (by rfl) rfl ?_
      refine j_if_le E 41 37 dX8_group_34 (by decide) rfl (fun h34 => ?_) (fun h34 => ?_)
      · exact absurd h34 (by decide)
      · refine j_iconst E (0) 38 dX8_group_37 (by decide) rfl ?_
        refine j_goto E 47 dX8_group_38 (by decide) ?_
        refine mga_close r 1 np cd pl pg (pm + 3001) (by repeat (first | with_reducible exact pick_0 | with_reducible apply pick_s | exact sel_0 | apply sel_s)) ?_ ⟨hgd, hRl, hmk, by omega⟩ ?_
        · exact ⟨rfl, rfl, rfl, rfl, rfl, rfl, rfl, rfl, rfl⟩
        · exact j_iret E B rfl 0 0 dX8_group_47 (by repeat (first | with_reducible exact pick_0 | with_reducible apply pick_s | exact sel_0 | apply sel_s)) ⟨rfl, rfl, rfl, rfl⟩ (by omega) (by omega) (by omega) (by omega)
set_option maxHeartbeats 8000000 in
theorem c_mg_row {g : GT} (hG : GLB g) (d m : Nat) (th : Int32) (tape : List UInt8) (us : List VT) (np nb : Nat) (out : List UInt8) (cd pl pm : Nat) (kd : Int32) (hd : 4 ≤ d) : CtrV g mX8_row 7 d 0 0 m [.int kd] [MGA g m th (tape, us, np, nb, out, cd, pl) pm] (mgo g m pm (sRow kd (tape, us, np, nb, out, cd, pl))) noX := by
  refine ⟨mga_rcv, ?_⟩
  refine ctr_intro hG (by decide +kernel) (Nat.le_of_ble_eq_true rfl) ?_
  rintro X F rfl E B hI T
  replace E : JE X RX8 cX8_row 4 d 0 0 := E
  show J X _ [MGA X.1 m th (tape, us, np, nb, out, cd, pl) pm, F] 0 0 0 [some (.ref m), some (.int kd), none, none] []
  refine mga_open (by repeat (first | with_reducible exact pick_0 | with_reducible apply pick_s)) ?_
  intro r pkd cm fu op at_ bgc got pr pg zs R mk gs hS
  dsimp only [MGL, List.cons_append, List.nil_append]
  obtain ⟨hgd, hRl, hmk, hpg⟩ := hS
  dsimp only at hgd hRl
  refine j_know (pick_know (P := TB X.1 r us zs R nb mk) (by repeat (first | with_reducible exact pick_0 | with_reducible apply pick_s)) tb_know) (fun hk9 => ?_)
  refine j_know (pick_know (P := BA X.1 (r 1) tape) (by repeat (first | with_reducible exact pick_0 | with_reducible apply pick_s)) ba_know) (fun hbl => ?_)
  refine j_know (pick_know (P := BA X.1 (r 3) out) (by repeat (first | with_reducible exact pick_0 | with_reducible apply pick_s)) ba_know) (fun hbo => ?_)
  unfold mgo at B
  have go : ∀ (k : Nat) , (k = 5 ∨ k = 6) → kd = nI k → sRow kd (tape, us, np, nb, out, cd, pl) = sTape k 0 (tape, us, np, nb, out, cd, pl) → J X 4 [MF m r th (nI tape.length) (nI out.length) (nI us.length) (nI R.length) (nI nb) pkd (nI pg) cm fu op (nI cd) (nI pl) at_ bgc got pr, BA X.1 (r 1) tape, BA X.1 (r 3) out, BA X.1 (r 18) [], BA X.1 (r 19) [], TB X.1 r us zs R nb mk, GS X.1 r gs, OD X.1 r [], PL X.1 r [], F] 0 0 36 [some (.ref m), some (.int kd), some (.int 1), none] [] := by
    intro k hk hkd e1
    rw [e1] at B
    rw [hkd]
    have bad : ¬ (us.length < 3000 ∧ nb + tape.length ≤ 65536) → J X 4 [MF m r th (nI tape.length) (nI out.length) (nI us.length) (nI R.length) (nI nb) pkd (nI pg) cm fu op (nI cd) (nI pl) at_ bgc got pr, BA X.1 (r 1) tape, BA X.1 (r 3) out, BA X.1 (r 18) [], BA X.1 (r 19) [], TB X.1 r us zs R nb mk, GS X.1 r gs, OD X.1 r [], PL X.1 r [], F] 0 0 69 [some (.ref m), some (.int (nI k)), some (.int 1), none] [.ref m] := by
      intro hn
      rw [show sTape k 0 (tape, us, np, nb, out, cd, pl) = (2, 0, (tape, us, np, nb, out, cd, pl)) from if_neg hn] at B
      dsimp only at B
      refine j_iconst E (2) 70 dX8_row_69 (by decide) rfl ?_
      refine j_goto E 74 dX8_row_70 (by decide) ?_
      refine j_putf E 77 dX8_row_74 fl_X8_71 (by repeat (first | with_reducible exact pick_0 | with_reducible apply pick_s)) rfl rfl (Nat.le_of_ble_eq_true rfl) rfl ?_
      dsimp only [List.set]
      refine j_aload_n E 78 dX8_row_77 0 rfl rfl rfl ?_
      refine j_getf E 81 dX8_row_78 fl_X8_71 (by repeat (first | with_reducible exact pick_0 | with_reducible apply pick_s)) (by rfl) rfl ?_
      refine j_if_le E 86 84 dX8_row_81 (by decide) rfl (fun h81 => ?_) (fun h81 => ?_)
      · exact absurd h81 (by decide)
      · refine j_iconst E (0) 85 dX8_row_84 (by decide) rfl ?_
        refine mga_close r 2 np cd pl pg (pm + 3001) (by repeat (first | with_reducible exact pick_0 | with_reducible apply pick_s | exact sel_0 | apply sel_s)) ?_ ⟨hgd, hRl, hmk, by omega⟩ ?_
        · exact ⟨rfl, rfl, rfl, rfl, rfl, rfl, rfl, rfl, rfl⟩
        · exact j_iret E B rfl 0 0 dX8_row_85 (by repeat (first | with_reducible exact pick_0 | with_reducible apply pick_s | exact sel_0 | apply sel_s)) ⟨rfl, rfl, rfl, rfl⟩ (by omega) (by omega) (by omega) (by omega)
    refine j_aload_n E 37 dX8_row_36 0 rfl rfl rfl ?_
    refine j_iload_n E 38 dX8_row_37 2 rfl rfl rfl ?_
    refine j_if_ne E 45 41 dX8_row_38 (by decide) rfl (fun h38 => ?_) (fun h38 => ?_)
    · refine j_aload_n E 46 dX8_row_45 0 rfl rfl rfl ?_
      refine j_getf E 49 dX8_row_46 fl_X8_107 (by repeat (first | with_reducible exact pick_0 | with_reducible apply pick_s)) (by rfl) rfl ?_
      refine j_sipush E (3000) 52 dX8_row_49 (by decide) rfl ?_
      refine j_icmp_eq E 69 55 dX8_row_52 (by decide) rfl (fun h52 => ?_) (fun h52 => ?_)
      · have q : us.length = 3000 := (nI_eq (b := 3000) (by omega) (by decide)).mp h52
        exact bad (fun y => by omega)
      · have q : ¬ us.length = 3000 := fun q => h52 (by rw [q]; rfl)
        refine j_aload_n E 56 dX8_row_55 0 rfl rfl rfl ?_
        refine j_getf E 59 dX8_row_56 fl_X8_114 (by repeat (first | with_reducible exact pick_0 | with_reducible apply pick_s)) (by rfl) rfl ?_
        refine j_aload_n E 60 dX8_row_59 0 rfl rfl rfl ?_
        refine j_getf E 63 dX8_row_60 fl_X8_88 (by repeat (first | with_reducible exact pick_0 | with_reducible apply pick_s)) (by rfl) rfl ?_
        refine j_iadd E 64 dX8_row_63 rfl ?_
        refine j_eqi (nI_add nb tape.length) ?_
        refine j_ldcI E _ 66 dX8_row_64 kc_X8_7 rfl ?_
        refine j_icmp_le E 73 69 dX8_row_66 (by decide) rfl (fun h66 => ?_) (fun h66 => ?_)
        · have q66 : nb + tape.length ≤ 65536 := (nI_leI (b := 65536) (by omega) (by decide)).mp h66
          rw [show sTape k 0 (tape, us, np, nb, out, cd, pl) = (0, nI us.length, ([], us ++ [(k, 0, 0, tape, [])], np, nb + tape.length, out, cd, pl)) from if_pos ⟨show us.length < 3000 by omega, q66⟩] at B
          dsimp only at B
          refine j_iconst E (0) 74 dX8_row_73 (by decide) rfl ?_
          refine j_putf E 77 dX8_row_74 fl_X8_71 (by repeat (first | with_reducible exact pick_0 | with_reducible apply pick_s)) rfl rfl (Nat.le_of_ble_eq_true rfl) rfl ?_
          dsimp only [List.set]
          refine j_aload_n E 78 dX8_row_77 0 rfl rfl rfl ?_
          refine j_getf E 81 dX8_row_78 fl_X8_71 (by repeat (first | with_reducible exact pick_0 | with_reducible apply pick_s)) (by rfl) rfl ?_
          refine j_if_le E 86 84 dX8_row_81 (by decide) rfl (fun h81 => ?_) (fun h81 => ?_)
          · refine j_aload_n E 87 dX8_row_86 0 rfl rfl rfl ?_
            refine j_iload_n E 88 dX8_row_87 1 rfl rfl rfl ?_
            refine j_iconst E (0) 89 dX8_row_88 (by decide) rfl ?_
            refine j_aload_n E 90 dX8_row_89 0 rfl rfl rfl ?_
            refine j_getf E 93 dX8_row_90 fl_X8_88 (by repeat (first | with_reducible exact pick_0 | with_reducible apply pick_s)) (by rfl) rfl ?_
            refine j_callV E (c_m_makeRow hG (d-1) m r k 0 tape.length tape us zs R nb mk (by omega) (by omega) (by omega) (by omega) q66) 96 dX8_row_93 _ _ _ iv_X8_126 rfl rfl rfl (by repeat (first | with_reducible exact pick_0 | with_reducible apply pick_s | exact sel_0 | apply sel_s)) (by omega) (by omega) (by omega) (Nat.le_of_ble_eq_true rfl) rfl ?_
            rintro _ _ _ _ ⟨rfl, rfl, rfl, rfl⟩
            dsimp only [List.cons_append, List.nil_append, Option.toList]
            refine j_istore_n E 97 dX8_row_96 3 rfl (Nat.le_of_ble_eq_true rfl) rfl rfl ?_
            dsimp only [List.set]
            refine j_aload_n E 98 dX8_row_97 0 rfl rfl rfl ?_
            refine j_iconst E (0) 99 dX8_row_98 (by decide) rfl ?_
            rw [cut_all]
            refine j_close (by repeat (first | with_reducible exact pick_0 | with_reducible apply pick_s | exact sel_0 | apply sel_s)) (P := BA X.1 (r 1) []) (qs := [BA X.1 (r 1) tape]) ba_0 ?_
            refine j_putf E 102 dX8_row_99 fl_X8_88 (by repeat (first | with_reducible exact pick_0 | with_reducible apply pick_s)) rfl rfl (Nat.le_of_ble_eq_true rfl) rfl ?_
            dsimp only [List.set]
            refine j_iload_n E 103 dX8_row_102 3 rfl rfl rfl ?_
            refine mga_close r 0 np cd pl pg (pm + 3001) (by repeat (first | with_reducible exact pick_0 | with_reducible apply pick_s | exact sel_0 | apply sel_s)) ?_ ?_ ?_
            · exact ⟨rfl, rfl, rfl, len_1 _ _, rfl, rfl, rfl, rfl, rfl⟩
            · exact ⟨gd_push hgd hk9.1 hk9.2.1 (vlen_row (by omega)) (fun _ => rfl), hRl, mkS_le hmk, by omega⟩
            · exact j_iret E B rfl 0 0 dX8_row_103 (by repeat (first | with_reducible exact pick_0 | with_reducible apply pick_s | exact sel_0 | apply sel_s)) ⟨rfl, rfl, rfl, rfl⟩ (by omega) (by omega) (by omega) (by omega)
          · exact absurd (by decide) h81
        · have q66 : ¬ nb + tape.length ≤ 65536 := fun y => h66 ((nI_leI (b := 65536) (by omega) (by decide)).mpr y)
          exact bad (fun y => q66 y.2)
    · exact absurd (show ¬ (1 : Int32) = 0 by decide) (fun y => by first | exact y h38 | exact h38 y)
  have no : sRow kd (tape, us, np, nb, out, cd, pl) = (1, 0, (tape, us, np, nb, out, cd, pl)) → J X 4 [MF m r th (nI tape.length) (nI out.length) (nI us.length) (nI R.length) (nI nb) pkd (nI pg) cm fu op (nI cd) (nI pl) at_ bgc got pr, BA X.1 (r 1) tape, BA X.1 (r 3) out, BA X.1 (r 18) [], BA X.1 (r 19) [], TB X.1 r us zs R nb mk, GS X.1 r gs, OD X.1 r [], PL X.1 r [], F] 0 0 36 [some (.ref m), some (.int kd), some (.int 0), none] [] := by
    intro e
    rw [e] at B
    dsimp only at B
    refine j_aload_n E 37 dX8_row_36 0 rfl rfl rfl ?_
    refine j_iload_n E 38 dX8_row_37 2 rfl rfl rfl ?_
    refine j_if_ne E 45 41 dX8_row_38 (by decide) rfl (fun h38 => ?_) (fun h38 => ?_)
    · exact absurd rfl h38
    · refine j_iconst E (1) 42 dX8_row_41 (by decide) rfl ?_
      refine j_goto E 74 dX8_row_42 (by decide) ?_
      refine j_putf E 77 dX8_row_74 fl_X8_71 (by repeat (first | with_reducible exact pick_0 | with_reducible apply pick_s)) rfl rfl (Nat.le_of_ble_eq_true rfl) rfl ?_
      dsimp only [List.set]
      refine j_aload_n E 78 dX8_row_77 0 rfl rfl rfl ?_
      refine j_getf E 81 dX8_row_78 fl_X8_71 (by repeat (first | with_reducible exact pick_0 | with_reducible apply pick_s)) (by rfl) rfl ?_
      refine j_if_le E 86 84 dX8_row_81 (by decide) rfl (fun h81 => ?_) (fun h81 => ?_)
      · exact absurd h81 (by decide)
      · refine j_iconst E (0) 85 dX8_row_84 (by decide) rfl ?_
        refine mga_close r 1 np cd pl pg (pm + 3001) (by repeat (first | with_reducible exact pick_0 | with_reducible apply pick_s | exact sel_0 | apply sel_s)) ?_ ⟨hgd, hRl, hmk, by omega⟩ ?_
        · exact ⟨rfl, rfl, rfl, rfl, rfl, rfl, rfl, rfl, rfl⟩
        · exact j_iret E B rfl 0 0 dX8_row_85 (by repeat (first | with_reducible exact pick_0 | with_reducible apply pick_s | exact sel_0 | apply sel_s)) ⟨rfl, rfl, rfl, rfl⟩ (by omega) (by omega) (by omega) (by omega)
  refine j_iload_n E 1 dX8_row_0 1 rfl rfl rfl ?_
  refine j_bipush E (6) 3 dX8_row_1 (by decide) rfl ?_
  refine j_icmp_eq E 30 6 dX8_row_3 (by decide) rfl (fun h3 => ?_) (fun h3 => ?_)
  · refine j_iconst E (1) 31 dX8_row_30 (by decide) rfl ?_
    refine j_goto E 35 dX8_row_31 (by decide) ?_
    refine j_istore_n E 36 dX8_row_35 2 rfl (Nat.le_of_ble_eq_true rfl) rfl rfl ?_
    dsimp only [List.set]
    exact go 6 (Or.inr rfl) h3 (if_pos h3)
  · refine j_iload_n E 7 dX8_row_6 1 rfl rfl rfl ?_
    refine j_iconst E (5) 8 dX8_row_7 (by decide) rfl ?_
    refine j_icmp_ne E 34 11 dX8_row_8 (by decide) rfl (fun h8 => ?_) (fun h8 => ?_)
    · refine j_iconst E (0) 35 dX8_row_34 (by decide) rfl ?_
      refine j_istore_n E 36 dX8_row_35 2 rfl (Nat.le_of_ble_eq_true rfl) rfl rfl ?_
      dsimp only [List.set]
      exact no ((if_neg h3).trans (if_neg (fun y => h8 y.1)))
    · refine j_aload_n E 12 dX8_row_11 0 rfl rfl rfl ?_
      refine j_getf E 15 dX8_row_12 fl_X8_8 (by repeat (first | with_reducible exact pick_0 | with_reducible apply pick_s)) (by rfl) rfl ?_
      refine j_iconst E (0) 16 dX8_row_15 (by decide) rfl ?_
      refine j_aload_n E 17 dX8_row_16 0 rfl rfl rfl ?_
      refine j_getf E 20 dX8_row_17 fl_X8_88 (by repeat (first | with_reducible exact pick_0 | with_reducible apply pick_s)) (by rfl) rfl ?_
      refine j_callS E (c_m_good hG (d-1) (r 1) 0 tape.length tape (Nat.zero_le _) (Nat.le_refl _)) 23 dX8_row_20 iv_X8_122 rfl rfl (by repeat (first | with_reducible exact pick_0 | with_reducible apply pick_s | exact sel_0 | apply sel_s)) (by omega) (by omega) (by omega) (Nat.le_of_ble_eq_true rfl) rfl ?_
      rintro _ _ _ _ ⟨rfl, rfl, rfl, rfl⟩
      dsimp only [List.cons_append, List.nil_append, Option.toList]
      refine j_aload_n E 24 dX8_row_23 0 rfl rfl rfl ?_
      refine j_getf E 27 dX8_row_24 fl_X8_88 (by repeat (first | with_reducible exact pick_0 | with_reducible apply pick_s)) (by rfl) rfl ?_
      have hgp : gpN tape 0 tape.length ≤ 65536 := by
        rw [gpN, Nat.sub_zero]
        rcases hc : chBad tape tape.length tape.length 0 with _ | p
        · exact hbl
        · have := chBad_lt hc
          dsimp only
          omega
      refine j_icmp_ne E 34 30 dX8_row_27 (by decide) rfl (fun h27 => ?_) (fun h27 => ?_)
      · have q : ¬ gpN tape 0 tape.length = tape.length := fun y => h27 (by rw [y])
        refine j_iconst E (0) 35 dX8_row_34 (by decide) rfl ?_
        refine j_istore_n E 36 dX8_row_35 2 rfl (Nat.le_of_ble_eq_true rfl) rfl rfl ?_
        dsimp only [List.set]
        exact j_sel (by repeat (first | with_reducible exact pick_0 | with_reducible apply pick_s | exact sel_0 | apply sel_s)) (no ((if_neg h3).trans (if_neg (fun y => q ((gp_all tape hbl).mpr y.2)))))
      · have q : gpN tape 0 tape.length = tape.length := (nI_eq (by omega) (by omega)).mp h27
        refine j_iconst E (1) 31 dX8_row_30 (by decide) rfl ?_
        refine j_goto E 35 dX8_row_31 (by decide) ?_
        refine j_istore_n E 36 dX8_row_35 2 rfl (Nat.le_of_ble_eq_true rfl) rfl rfl ?_
        dsimp only [List.set]
        exact j_sel (by repeat (first | with_reducible exact pick_0 | with_reducible apply pick_s | exact sel_0 | apply sel_s)) (go 5 (Or.inl rfl) h8 ((if_neg h3).trans (if_pos ⟨h8, (gp_all tape hbl).mp q⟩)))
set_option maxHeartbeats 8000000 in
theorem c_mg_extension {g : GT} (hG : GLB g) (d m : Nat) (th : Int32) (tape : List UInt8) (us : List VT) (np nb : Nat) (out : List UInt8) (cd pl pm : Nat) (ty : Int32) (hd : 4 ≤ d) : CtrV g mX8_extension 7 d 0 0 m [.int ty] [MGA g m th (tape, us, np, nb, out, cd, pl) pm] (mgo g m pm (sExt ty (tape, us, np, nb, out, cd, pl))) noX := by
  refine ⟨mga_rcv, ?_⟩
  refine ctr_intro hG (by decide +kernel) (Nat.le_of_ble_eq_true rfl) ?_
  rintro X F rfl E B hI T
  replace E : JE X RX8 cX8_extension 4 d 0 0 := E
  show J X _ [MGA X.1 m th (tape, us, np, nb, out, cd, pl) pm, F] 0 0 0 [some (.ref m), some (.int ty), none, none] []
  refine mga_open (by repeat (first | with_reducible exact pick_0 | with_reducible apply pick_s)) ?_
  intro r pkd cm fu op at_ bgc got pr pg zs R mk gs hS
  dsimp only [MGL, List.cons_append, List.nil_append]
  obtain ⟨hgd, hRl, hmk, hpg⟩ := hS
  dsimp only at hgd hRl
  refine j_know (pick_know (P := TB X.1 r us zs R nb mk) (by repeat (first | with_reducible exact pick_0 | with_reducible apply pick_s)) tb_know) (fun hk9 => ?_)
  refine j_know (pick_know (P := BA X.1 (r 1) tape) (by repeat (first | with_reducible exact pick_0 | with_reducible apply pick_s)) ba_know) (fun hbl => ?_)
  refine j_know (pick_know (P := BA X.1 (r 3) out) (by repeat (first | with_reducible exact pick_0 | with_reducible apply pick_s)) ba_know) (fun hbo => ?_)
  unfold mgo at B
  have no : (ty < -128 ∨ 127 < ty ∨ ty = -1 ∨ ty = 0) → J X 4 [MF m r th (nI tape.length) (nI out.length) (nI us.length) (nI R.length) (nI nb) pkd (nI pg) cm fu op (nI cd) (nI pl) at_ bgc got pr, BA X.1 (r 1) tape, BA X.1 (r 3) out, BA X.1 (r 18) [], BA X.1 (r 19) [], TB X.1 r us zs R nb mk, GS X.1 r gs, OD X.1 r [], PL X.1 r [], F] 0 0 25 [some (.ref m), some (.int ty), none, none] [] := by
    intro hn
    rw [show sExt ty (tape, us, np, nb, out, cd, pl) = (1, 0, (tape, us, np, nb, out, cd, pl)) from if_pos hn] at B
    dsimp only at B
    refine j_iconst E (0) 26 dX8_extension_25 (by decide) rfl ?_
    refine j_istore_n E 27 dX8_extension_26 2 rfl (Nat.le_of_ble_eq_true rfl) rfl rfl ?_
    dsimp only [List.set]
    refine j_aload_n E 28 dX8_extension_27 0 rfl rfl rfl ?_
    refine j_iload_n E 29 dX8_extension_28 2 rfl rfl rfl ?_
    refine j_if_ne E 36 32 dX8_extension_29 (by decide) rfl (fun h29 => ?_) (fun h29 => ?_)
    · exact absurd rfl h29
    · refine j_iconst E (1) 33 dX8_extension_32 (by decide) rfl ?_
      refine j_goto E 65 dX8_extension_33 (by decide) ?_
      refine j_putf E 68 dX8_extension_65 fl_X8_71 (by repeat (first | with_reducible exact pick_0 | with_reducible apply pick_s)) rfl rfl (Nat.le_of_ble_eq_true rfl) rfl ?_
      dsimp only [List.set]
      refine j_aload_n E 69 dX8_extension_68 0 rfl rfl rfl ?_
      refine j_getf E 72 dX8_extension_69 fl_X8_71 (by repeat (first | with_reducible exact pick_0 | with_reducible apply pick_s)) (by rfl) rfl ?_
      refine j_if_le E 77 75 dX8_extension_72 (by decide) rfl (fun h72 => ?_) (fun h72 => ?_)
      · exact absurd h72 (by decide)
      · refine j_iconst E (0) 76 dX8_extension_75 (by decide) rfl ?_
        refine mga_close r 1 np cd pl pg (pm + 3001) (by repeat (first | with_reducible exact pick_0 | with_reducible apply pick_s | exact sel_0 | apply sel_s)) ?_ ⟨hgd, hRl, hmk, by omega⟩ ?_
        · exact ⟨rfl, rfl, rfl, rfl, rfl, rfl, rfl, rfl, rfl⟩
        · exact j_iret E B rfl 0 0 dX8_extension_76 (by repeat (first | with_reducible exact pick_0 | with_reducible apply pick_s | exact sel_0 | apply sel_s)) ⟨rfl, rfl, rfl, rfl⟩ (by omega) (by omega) (by omega) (by omega)
  have go : ¬ (ty < -128 ∨ 127 < ty ∨ ty = -1 ∨ ty = 0) → J X 4 [MF m r th (nI tape.length) (nI out.length) (nI us.length) (nI R.length) (nI nb) pkd (nI pg) cm fu op (nI cd) (nI pl) at_ bgc got pr, BA X.1 (r 1) tape, BA X.1 (r 3) out, BA X.1 (r 18) [], BA X.1 (r 19) [], TB X.1 r us zs R nb mk, GS X.1 r gs, OD X.1 r [], PL X.1 r [], F] 0 0 21 [some (.ref m), some (.int ty), none, none] [] := by
    intro hn
    rw [show sExt ty (tape, us, np, nb, out, cd, pl) = sTape 9 ty (tape, us, np, nb, out, cd, pl) from if_neg hn] at B
    have bad : ¬ (us.length < 3000 ∧ nb + tape.length ≤ 65536) → J X 4 [MF m r th (nI tape.length) (nI out.length) (nI us.length) (nI R.length) (nI nb) pkd (nI pg) cm fu op (nI cd) (nI pl) at_ bgc got pr, BA X.1 (r 1) tape, BA X.1 (r 3) out, BA X.1 (r 18) [], BA X.1 (r 19) [], TB X.1 r us zs R nb mk, GS X.1 r gs, OD X.1 r [], PL X.1 r [], F] 0 0 60 [some (.ref m), some (.int ty), some (.int 1), none] [.ref m] := by
      intro hn
      rw [show sTape 9 ty (tape, us, np, nb, out, cd, pl) = (2, 0, (tape, us, np, nb, out, cd, pl)) from if_neg hn] at B
      dsimp only at B
      refine j_iconst E (2) 61 dX8_extension_60 (by decide) rfl ?_
      refine j_goto E 65 dX8_extension_61 (by decide) ?_
      refine j_putf E 68 dX8_extension_65 fl_X8_71 (by repeat (first | with_reducible exact pick_0 | with_reducible apply pick_s)) rfl rfl (Nat.le_of_ble_eq_true rfl) rfl ?_
      dsimp only [List.set]
      refine j_aload_n E 69 dX8_extension_68 0 rfl rfl rfl ?_
      refine j_getf E 72 dX8_extension_69 fl_X8_71 (by repeat (first | with_reducible exact pick_0 | with_reducible apply pick_s)) (by rfl) rfl ?_
      refine j_if_le E 77 75 dX8_extension_72 (by decide) rfl (fun h72 => ?_) (fun h72 => ?_)
      · exact absurd h72 (by decide)
      · refine j_iconst E (0) 76 dX8_extension_75 (by decide) rfl ?_
        refine mga_close r 2 np cd pl pg (pm + 3001) (by repeat (first | with_reducible exact pick_0 | with_reducible apply pick_s | exact sel_0 | apply sel_s)) ?_ ⟨hgd, hRl, hmk, by omega⟩ ?_
        · exact ⟨rfl, rfl, rfl, rfl, rfl, rfl, rfl, rfl, rfl⟩
        · exact j_iret E B rfl 0 0 dX8_extension_76 (by repeat (first | with_reducible exact pick_0 | with_reducible apply pick_s | exact sel_0 | apply sel_s)) ⟨rfl, rfl, rfl, rfl⟩ (by omega) (by omega) (by omega) (by omega)
    refine j_iconst E (1) 22 dX8_extension_21 (by decide) rfl ?_
    refine j_goto E 26 dX8_extension_22 (by decide) ?_
    refine j_istore_n E 27 dX8_extension_26 2 rfl (Nat.le_of_ble_eq_true rfl) rfl rfl ?_
    dsimp only [List.set]
    refine j_aload_n E 28 dX8_extension_27 0 rfl rfl rfl ?_
    refine j_iload_n E 29 dX8_extension_28 2 rfl rfl rfl ?_
    refine j_if_ne E 36 32 dX8_extension_29 (by decide) rfl (fun h29 => ?_) (fun h29 => ?_)
    · refine j_aload_n E 37 dX8_extension_36 0 rfl rfl rfl ?_
      refine j_getf E 40 dX8_extension_37 fl_X8_107 (by repeat (first | with_reducible exact pick_0 | with_reducible apply pick_s)) (by rfl) rfl ?_
      refine j_sipush E (3000) 43 dX8_extension_40 (by decide) rfl ?_
      refine j_icmp_eq E 60 46 dX8_extension_43 (by decide) rfl (fun h43 => ?_) (fun h43 => ?_)
      · have q : us.length = 3000 := (nI_eq (b := 3000) (by omega) (by decide)).mp h43
        exact bad (fun y => by omega)
      · have q : ¬ us.length = 3000 := fun q => h43 (by rw [q]; rfl)
        refine j_aload_n E 47 dX8_extension_46 0 rfl rfl rfl ?_
        refine j_getf E 50 dX8_extension_47 fl_X8_114 (by repeat (first | with_reducible exact pick_0 | with_reducible apply pick_s)) (by rfl) rfl ?_
        refine j_aload_n E 51 dX8_extension_50 0 rfl rfl rfl ?_
        refine j_getf E 54 dX8_extension_51 fl_X8_88 (by repeat (first | with_reducible exact pick_0 | with_reducible apply pick_s)) (by rfl) rfl ?_
        refine j_iadd E 55 dX8_extension_54 rfl ?_
        refine j_eqi (nI_add nb tape.length) ?_
        refine j_ldcI E _ 57 dX8_extension_55 kc_X8_7 rfl ?_
        refine j_icmp_le E 64 60 dX8_extension_57 (by decide) rfl (fun h57 => ?_) (fun h57 => ?_)
        · have q66 : nb + tape.length ≤ 65536 := (nI_leI (b := 65536) (by omega) (by decide)).mp h57
          rw [show sTape 9 ty (tape, us, np, nb, out, cd, pl) = (0, nI us.length, ([], us ++ [(9, 0, ty, tape, [])], np, nb + tape.length, out, cd, pl)) from if_pos ⟨show us.length < 3000 by omega, q66⟩] at B
          dsimp only at B
          refine j_iconst E (0) 65 dX8_extension_64 (by decide) rfl ?_
          refine j_putf E 68 dX8_extension_65 fl_X8_71 (by repeat (first | with_reducible exact pick_0 | with_reducible apply pick_s)) rfl rfl (Nat.le_of_ble_eq_true rfl) rfl ?_
          dsimp only [List.set]
          refine j_aload_n E 69 dX8_extension_68 0 rfl rfl rfl ?_
          refine j_getf E 72 dX8_extension_69 fl_X8_71 (by repeat (first | with_reducible exact pick_0 | with_reducible apply pick_s)) (by rfl) rfl ?_
          refine j_if_le E 77 75 dX8_extension_72 (by decide) rfl (fun h72 => ?_) (fun h72 => ?_)
          · refine j_aload_n E 78 dX8_extension_77 0 rfl rfl rfl ?_
            refine j_bipush E (9) 80 dX8_extension_78 (by decide) rfl ?_
            refine j_iconst E (0) 81 dX8_extension_80 (by decide) rfl ?_
            refine j_aload_n E 82 dX8_extension_81 0 rfl rfl rfl ?_
            refine j_getf E 85 dX8_extension_82 fl_X8_88 (by repeat (first | with_reducible exact pick_0 | with_reducible apply pick_s)) (by rfl) rfl ?_
            refine j_callV E (c_m_makeRow hG (d-1) m r 9 0 tape.length tape us zs R nb mk (by omega) (by omega) (by decide) (by omega) q66) 88 dX8_extension_85 _ _ _ iv_X8_126 rfl rfl rfl (by repeat (first | with_reducible exact pick_0 | with_reducible apply pick_s | exact sel_0 | apply sel_s)) (by omega) (by omega) (by omega) (Nat.le_of_ble_eq_true rfl) rfl ?_
            rintro _ _ _ _ ⟨rfl, rfl, rfl, rfl⟩
            dsimp only [List.cons_append, List.nil_append, Option.toList]
            refine j_istore_n E 89 dX8_extension_88 3 rfl (Nat.le_of_ble_eq_true rfl) rfl rfl ?_
            dsimp only [List.set]
            refine j_aload_n E 90 dX8_extension_89 0 rfl rfl rfl ?_
            refine j_getf E 93 dX8_extension_90 fl_X8_29 (by repeat (first | with_reducible exact pick_0 | with_reducible apply pick_s)) (by rfl) rfl ?_
            refine j_iload_n E 94 dX8_extension_93 3 rfl rfl rfl ?_
            refine j_iload_n E 95 dX8_extension_94 1 rfl rfl rfl ?_
            rw [cut_all]
            refine j_tbEs E 96 dX8_extension_95 (by repeat (first | with_reducible exact pick_0 | with_reducible apply pick_s)) (fun q => by dsimp only at q; omega) rfl ?_
            dsimp only
            rw [if_neg (show ¬ 9 = 2 by decide)]
            refine j_close (by repeat (first | with_reducible exact pick_0 | with_reducible apply pick_s | exact sel_0 | apply sel_s)) (P := BA X.1 (r 1) []) (qs := [BA X.1 (r 1) tape]) ba_0 ?_
            refine j_aload_n E 97 dX8_extension_96 0 rfl rfl rfl ?_
            refine j_iconst E (0) 98 dX8_extension_97 (by decide) rfl ?_
            refine j_putf E 101 dX8_extension_98 fl_X8_88 (by repeat (first | with_reducible exact pick_0 | with_reducible apply pick_s)) rfl rfl (Nat.le_of_ble_eq_true rfl) rfl ?_
            dsimp only [List.set]
            refine j_iload_n E 102 dX8_extension_101 3 rfl rfl rfl ?_
            refine mga_close r 0 np cd pl pg (pm + 3001) (by repeat (first | with_reducible exact pick_0 | with_reducible apply pick_s | exact sel_0 | apply sel_s)) ?_ ?_ ?_
            · exact ⟨rfl, rfl, rfl, len_1 _ _, rfl, rfl, rfl, rfl, rfl⟩
            · exact ⟨gd_push hgd hk9.1 hk9.2.1 (vlen_row (by decide)) (fun _ => rfl), hRl, mkS_le hmk, by omega⟩
            · exact j_iret E B rfl 0 0 dX8_extension_102 (by repeat (first | with_reducible exact pick_0 | with_reducible apply pick_s | exact sel_0 | apply sel_s)) ⟨rfl, rfl, rfl, rfl⟩ (by omega) (by omega) (by omega) (by omega)
          · exact absurd (by decide) h72
        · have q66 : ¬ nb + tape.length ≤ 65536 := fun y => h57 ((nI_leI (b := 65536) (by omega) (by decide)).mpr y)
          exact bad (fun y => q66 y.2)
    · exact absurd (show ¬ (1 : Int32) = 0 by decide) (fun y => by first | exact y h29 | exact h29 y)
  refine j_iload_n E 1 dX8_extension_0 1 rfl rfl rfl ?_
  refine j_bipush E (-128) 3 dX8_extension_1 (by decide) rfl ?_
  refine j_icmp_lt E 25 6 dX8_extension_3 (by decide) rfl (fun h3 => ?_) (fun h3 => ?_)
  · exact no (Or.inl h3)
  · refine j_iload_n E 7 dX8_extension_6 1 rfl rfl rfl ?_
    refine j_bipush E (127) 9 dX8_extension_7 (by decide) rfl ?_
    refine j_icmp_gt E 25 12 dX8_extension_9 (by decide) rfl (fun h9 => ?_) (fun h9 => ?_)
    · exact no (Or.inr (Or.inl h9))
    · refine j_iload_n E 13 dX8_extension_12 1 rfl rfl rfl ?_
      refine j_iconst E (-1) 14 dX8_extension_13 (by decide) rfl ?_
      refine j_icmp_eq E 25 17 dX8_extension_14 (by decide) rfl (fun h14 => ?_) (fun h14 => ?_)
      · exact no (Or.inr (Or.inr (Or.inl h14)))
      · refine j_iload_n E 18 dX8_extension_17 1 rfl rfl rfl ?_
        refine j_if_eq E 25 21 dX8_extension_18 (by decide) rfl (fun h18 => ?_) (fun h18 => ?_)
        · exact no (Or.inr (Or.inr (Or.inr h18)))
        · exact go (fun y => y.elim h3 (fun y => y.elim h9 (fun y => y.elim h14 h18)))

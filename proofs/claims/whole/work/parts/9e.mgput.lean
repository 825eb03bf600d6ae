/-! the model: put -/
set_option maxHeartbeats 8000000 in
theorem c_mg_put {g : GT} (hG : GLB g) (d m : Nat) (th : Int32) (tape : List UInt8) (us : List VT) (np nb : Nat) (out : List UInt8) (cd pl pm : Nat) (l c v : Int32) (hok : AOk (tape, us, np, nb, out, cd, pl)) (hd : 3 ≤ d) : CtrV g mX8_put 7 d 0 0 m [.int l, .int c, .int v] [MGA g m th (tape, us, np, nb, out, cd, pl) pm] (mgo g m pm (sPut l c v (tape, us, np, nb, out, cd, pl))) noX := by
  refine ⟨mga_rcv, ?_⟩
  refine ctr_intro hG (by decide +kernel) (Nat.le_of_ble_eq_true rfl) ?_
  rintro X F rfl E B hI T
  replace E : JE X RX8 cX8_put 4 d 0 0 := E
  show J X _ [MGA X.1 m th (tape, us, np, nb, out, cd, pl) pm, F] 0 0 0 [some (.ref m), some (.int l), some (.int c), some (.int v)] []
  refine mga_open (by repeat (first | with_reducible exact pick_0 | with_reducible apply pick_s)) ?_
  intro r pkd cm fu op at_ bgc got pr pg zs R mk gs hS
  dsimp only [MGL, List.cons_append, List.nil_append]
  obtain ⟨hgd, hRl, hmk, hpg⟩ := hS
  dsimp only at hgd hRl
  refine j_know (pick_know (P := TB X.1 r us zs R nb mk) (by repeat (first | with_reducible exact pick_0 | with_reducible apply pick_s)) tb_know) (fun hk9 => ?_)
  refine j_know (pick_know (P := BA X.1 (r 1) tape) (by repeat (first | with_reducible exact pick_0 | with_reducible apply pick_s)) ba_know) (fun hbl => ?_)
  refine j_know (pick_know (P := BA X.1 (r 3) out) (by repeat (first | with_reducible exact pick_0 | with_reducible apply pick_s)) ba_know) (fun hbo => ?_)
  unfold mgo at B
  have bad : (¬ inB l us.length = true ∨ ¬ inB c us.length = true ∨ ¬ inB v us.length = true) → J X 4 [MF m r th (nI tape.length) (nI out.length) (nI us.length) (nI R.length) (nI nb) pkd (nI pg) cm fu op (nI cd) (nI pl) at_ bgc got pr, BA X.1 (r 1) tape, BA X.1 (r 3) out, BA X.1 (r 18) [], BA X.1 (r 19) [], TB X.1 r us zs R nb mk, GS X.1 r gs, OD X.1 r [], PL X.1 r [], F] 0 0 25 [some (.ref m), some (.int l), some (.int c), some (.int v)] [.ref m] := by
    intro hn
    rw [show sPut l c v (tape, us, np, nb, out, cd, pl) = (1, 0, (tape, us, np, nb, out, cd, pl)) from if_pos hn] at B
    dsimp only at B
    refine j_iconst E (1) 26 dX8_put_25 (by decide) rfl ?_
    refine j_goto E 61 dX8_put_26 (by decide) ?_
    refine j_putf E 64 dX8_put_61 fl_X8_71 (by repeat (first | with_reducible exact pick_0 | with_reducible apply pick_s)) rfl rfl (Nat.le_of_ble_eq_true rfl) rfl ?_
    dsimp only [List.set]
    refine j_aload_n E 65 dX8_put_64 0 rfl rfl rfl ?_
    refine j_getf E 68 dX8_put_65 fl_X8_71 (by repeat (first | with_reducible exact pick_0 | with_reducible apply pick_s)) (by rfl) rfl ?_
    refine j_if_le E 73 71 dX8_put_68 (by decide) rfl (fun h68 => ?_) (fun h68 => ?_)
    · exact absurd h68 (by decide)
    · refine j_iconst E (0) 72 dX8_put_71 (by decide) rfl ?_
      refine mga_close r 1 np cd pl pg (pm + 3001) (by repeat (first | with_reducible exact pick_0 | with_reducible apply pick_s | exact sel_0 | apply sel_s)) ?_ ⟨hgd, hRl, hmk, by omega⟩ ?_
      · exact ⟨rfl, rfl, rfl, rfl, rfl, rfl, rfl, rfl, rfl⟩
      · exact j_iret E B rfl 0 0 dX8_put_72 (by repeat (first | with_reducible exact pick_0 | with_reducible apply pick_s | exact sel_0 | apply sel_s)) ⟨rfl, rfl, rfl, rfl⟩ (by omega) (by omega) (by omega) (by omega)
  refine j_aload_n E 1 dX8_put_0 0 rfl rfl rfl ?_
  refine j_aload_n E 2 dX8_put_1 0 rfl rfl rfl ?_
  refine j_iload_n E 3 dX8_put_2 1 rfl rfl rfl ?_
  refine j_callV E (c_m_isValue hG (d-1) m r l us.length hk9.2.2.1) 6 dX8_put_3 _ _ _ iv_X8_131 rfl rfl rfl (by repeat (first | with_reducible exact pick_0 | with_reducible apply pick_s | exact sel_0 | apply sel_s)) (by omega) (by omega) (by omega) (Nat.le_of_ble_eq_true rfl) rfl ?_
  rintro _ _ _ _ ⟨rfl, rfl, rfl, rfl⟩
  dsimp only [List.cons_append, List.nil_append, Option.toList]
  rcases hin : inB l us.length with _ | _
  · refine j_if_eq E 25 9 dX8_put_6 (by decide) rfl (fun h6 => ?_) (fun h6 => ?_)
    · exact bad (Or.inl (by rw [hin]; decide))
    · exact absurd rfl h6
  · refine j_if_eq E 25 9 dX8_put_6 (by decide) rfl (fun h6 => ?_) (fun h6 => ?_)
    · exact absurd h6 (by decide)
    · refine j_aload_n E 10 dX8_put_9 0 rfl rfl rfl ?_
      refine j_iload_n E 11 dX8_put_10 2 rfl rfl rfl ?_
      refine j_callV E (c_m_isValue hG (d-1) m r c us.length hk9.2.2.1) 14 dX8_put_11 _ _ _ iv_X8_131 rfl rfl rfl (by repeat (first | with_reducible exact pick_0 | with_reducible apply pick_s | exact sel_0 | apply sel_s)) (by omega) (by omega) (by omega) (Nat.le_of_ble_eq_true rfl) rfl ?_
      rintro _ _ _ _ ⟨rfl, rfl, rfl, rfl⟩
      dsimp only [List.cons_append, List.nil_append, Option.toList]
      rcases hin2 : inB c us.length with _ | _
      · refine j_if_eq E 25 17 dX8_put_14 (by decide) rfl (fun h14 => ?_) (fun h14 => ?_)
        · exact bad (Or.inr (Or.inl (by rw [hin2]; decide)))
        · exact absurd rfl h14
      · refine j_if_eq E 25 17 dX8_put_14 (by decide) rfl (fun h14 => ?_) (fun h14 => ?_)
        · exact absurd h14 (by decide)
        · refine j_aload_n E 18 dX8_put_17 0 rfl rfl rfl ?_
          refine j_iload_n E 19 dX8_put_18 3 rfl rfl rfl ?_
          refine j_callV E (c_m_isValue hG (d-1) m r v us.length hk9.2.2.1) 22 dX8_put_19 _ _ _ iv_X8_131 rfl rfl rfl (by repeat (first | with_reducible exact pick_0 | with_reducible apply pick_s | exact sel_0 | apply sel_s)) (by omega) (by omega) (by omega) (Nat.le_of_ble_eq_true rfl) rfl ?_
          rintro _ _ _ _ ⟨rfl, rfl, rfl, rfl⟩
          dsimp only [List.cons_append, List.nil_append, Option.toList]
          rcases hin3 : inB v us.length with _ | _
          · refine j_if_ne E 29 25 dX8_put_22 (by decide) rfl (fun h22 => ?_) (fun h22 => ?_)
            · exact absurd rfl h22
            · exact bad (Or.inr (Or.inr (by rw [hin3]; decide)))
          · refine j_if_ne E 29 25 dX8_put_22 (by decide) rfl (fun h22 => ?_) (fun h22 => ?_)
            · obtain ⟨j, hj, rfl⟩ := inB_t (by omega) hin
              obtain ⟨x, hx, rfl⟩ := inB_t (by omega) hin2
              obtain ⟨y, hy, rfl⟩ := inB_t (by omega) hin3
              have hcl : (nI j).toNatClampNeg = j := nI_clamp (by omega)
              have hcl1 : (nI x).toNatClampNeg = x := nI_clamp (by omega)
              have hcl2 : (nI y).toNatClampNeg = y := nI_clamp (by omega)
              obtain ⟨V, hV⟩ : ∃ V, V = vAt us j := ⟨_, rfl⟩
              have hvt := aok_at hok hj
              dsimp only at hvt
              rw [← hV] at hvt
              have hz := (hgd j hj).1
              have hpt := (hgd j hj).2
              rw [← hV] at hz hpt
              have e1 : sPut (nI j) (nI x) (nI y) (tape, us, np, nb, out, cd, pl) = (if ¬ V.1 = 8 then (2, 0, (tape, us, np, nb, out, cd, pl)) else if 6000 < np + 2 then (3, 0, (tape, us, np, nb, out, cd, pl)) else (0, nI ((V.2.2.2.2.length + 2) / 2), (tape, us.set j (vadd (vadd V x) y), np + 2, nb, out, cd, pl))) := by
                unfold sPut
                dsimp only
                rw [if_neg (by rw [hin, hin2, hin3]; decide), hcl, hcl1, hcl2, ← hV]
              rw [e1] at B
              have hk10 := hvt.1
              refine j_aload_n E 30 dX8_put_29 0 rfl rfl rfl ?_
              refine j_getf E 33 dX8_put_30 fl_X8_17 (by repeat (first | with_reducible exact pick_0 | with_reducible apply pick_s)) (by rfl) rfl ?_
              refine j_iload_n E 34 dX8_put_33 1 rfl rfl rfl ?_
              refine j_tbK E 35 dX8_put_34 (by repeat (first | with_reducible exact pick_0 | with_reducible apply pick_s)) hj rfl ?_
              rw [← hV]
              refine j_bipush E (8) 37 dX8_put_35 (by decide) rfl ?_
              refine j_icmp_eq E 44 40 dX8_put_37 (by decide) rfl (fun h37 => ?_) (fun h37 => ?_)
              · have q8 : V.1 = 8 := (nI_eq (b := 8) (by omega) (by decide)).mp h37
                rw [if_neg (by omega)] at B
                refine j_aload_n E 45 dX8_put_44 0 rfl rfl rfl ?_
                refine j_getf E 48 dX8_put_45 fl_X8_117 (by repeat (first | with_reducible exact pick_0 | with_reducible apply pick_s)) (by rfl) rfl ?_
                refine j_iconst E (2) 49 dX8_put_48 (by decide) rfl ?_
                refine j_iadd E 50 dX8_put_49 rfl ?_
                refine j_eqi (nI_add R.length 2) ?_
                refine j_sipush E (6000) 53 dX8_put_50 (by decide) rfl ?_
                refine j_icmp_le E 60 56 dX8_put_53 (by decide) rfl (fun h53 => ?_) (fun h53 => ?_)
                · have q6 : R.length + 2 ≤ 6000 := (nI_leI (b := 6000) (by omega) (by decide)).mp h53
                  rw [if_neg (by omega)] at B
                  dsimp only at B
                  refine j_iconst E (0) 61 dX8_put_60 (by decide) rfl ?_
                  refine j_putf E 64 dX8_put_61 fl_X8_71 (by repeat (first | with_reducible exact pick_0 | with_reducible apply pick_s)) rfl rfl (Nat.le_of_ble_eq_true rfl) rfl ?_
                  dsimp only [List.set]
                  refine j_aload_n E 65 dX8_put_64 0 rfl rfl rfl ?_
                  refine j_getf E 68 dX8_put_65 fl_X8_71 (by repeat (first | with_reducible exact pick_0 | with_reducible apply pick_s)) (by rfl) rfl ?_
                  refine j_if_le E 73 71 dX8_put_68 (by decide) rfl (fun h68 => ?_) (fun h68 => ?_)
                  · refine j_aload_n E 74 dX8_put_73 0 rfl rfl rfl ?_
                    refine j_iload_n E 75 dX8_put_74 1 rfl rfl rfl ?_
                    refine j_iload_n E 76 dX8_put_75 2 rfl rfl rfl ?_
                    refine j_callV E (c_m_link hG (d-1) m r j x us zs R nb mk hj (by rw [← hV]; exact Or.inr q8) (by rw [← hV]; exact hvt.2.2.2.2.1 (by omega)) (by omega)) 79 dX8_put_76 _ _ _ iv_X8_134 rfl rfl rfl (by repeat (first | with_reducible exact pick_0 | with_reducible apply pick_s | exact sel_0 | apply sel_s)) (by omega) (by omega) (by omega) (Nat.le_of_ble_eq_true rfl) rfl ?_
                    rintro _ _ _ _ ⟨rfl, rfl, rfl, rfl⟩
                    dsimp only [List.cons_append, List.nil_append, Option.toList]
                    rw [← show ((j, x) :: R).length = R.length + 1 from rfl]
                    refine j_aload_n E 80 dX8_put_79 0 rfl rfl rfl ?_
                    refine j_iload_n E 81 dX8_put_80 1 rfl rfl rfl ?_
                    refine j_iload_n E 82 dX8_put_81 3 rfl rfl rfl ?_
                    refine j_callV E (c_m_link hG (d-1) m r j y us zs ((j, x) :: R) nb mk hj (by rw [← hV]; exact Or.inr q8) (by rw [← hV]; exact hvt.2.2.2.2.1 (by omega)) (by rw [List.length_cons]; omega)) 85 dX8_put_82 _ _ _ iv_X8_134 rfl rfl rfl (by repeat (first | with_reducible exact pick_0 | with_reducible apply pick_s | exact sel_0 | apply sel_s)) (by omega) (by omega) (by omega) (Nat.le_of_ble_eq_true rfl) rfl ?_
                    rintro _ _ _ _ ⟨rfl, rfl, rfl, rfl⟩
                    dsimp only [List.cons_append, List.nil_append, Option.toList]
                    refine j_aload_n E 86 dX8_put_85 0 rfl rfl rfl ?_
                    refine j_getf E 89 dX8_put_86 fl_X8_38 (by repeat (first | with_reducible exact pick_0 | with_reducible apply pick_s)) (by rfl) rfl ?_
                    refine j_iload_n E 90 dX8_put_89 1 rfl rfl rfl ?_
                    refine j_dup2_11 E 91 dX8_put_90 rfl rfl rfl ?_
                    refine j_tbZ E 92 dX8_put_91 (by repeat (first | with_reducible exact pick_0 | with_reducible apply pick_s)) hj rfl ?_
                    rw [hz]
                    refine j_iconst E (1) 93 dX8_put_92 (by decide) rfl ?_
                    refine j_iadd E 94 dX8_put_93 rfl ?_
                    refine j_eqi (nI_1 (vlen V)) ?_
                    refine j_tbZs E 95 dX8_put_94 (by repeat (first | with_reducible exact pick_0 | with_reducible apply pick_s)) hj rfl ?_
                    refine j_aload_n E 96 dX8_put_95 0 rfl rfl rfl ?_
                    refine j_getf E 99 dX8_put_96 fl_X8_38 (by repeat (first | with_reducible exact pick_0 | with_reducible apply pick_s)) (by rfl) rfl ?_
                    refine j_iload_n E 100 dX8_put_99 1 rfl rfl rfl ?_
                    refine j_tbZ E 101 dX8_put_100 (by repeat (first | with_reducible exact pick_0 | with_reducible apply pick_s)) hj rfl ?_
                    rw [zs_set (by omega)]
                    have hvl : vlen V + 1 = (V.2.2.2.2.length + 2) / 2 := by
                      rw [vlen, if_pos q8]
                      omega
                    rw [hvl]
                    refine j_tbsame (us.set j (vadd (vadd V x) y)) (by repeat (first | with_reducible exact pick_0 | with_reducible apply pick_s)) (stp_set hj (by rw [← hV]; rfl)) ?_
                    refine mga_close r 0 (np + 2) cd pl pg (pm + 3001) (by repeat (first | with_reducible exact pick_0 | with_reducible apply pick_s | exact sel_0 | apply sel_s)) ?_ ?_ ?_
                    · exact ⟨rfl, rfl, rfl, by rw [List.length_set], rfl, rfl, rfl, rfl, rfl⟩
                    · refine ⟨gd_set hgd hk9.1 hj ?_ ?_ (fun i hi => by rw [lkP, if_neg (Ne.symm hi), lkP, if_neg (Ne.symm hi)]), by rw [List.length_cons, List.length_cons, hRl], hmk, by omega⟩
                      · rw [vlen, if_pos (show (vadd (vadd V x) y).1 = 8 from q8)]
                        show _ = (V.2.2.2.2 ++ [x] ++ [y]).length / 2
                        rw [List.length_append, List.length_append]
                        rfl
                      · rw [lkP, if_pos rfl, lkP, if_pos rfl, hpt (Or.inr q8)]
                        rfl
                    · exact j_iret E B rfl 0 0 dX8_put_101 (by repeat (first | with_reducible exact pick_0 | with_reducible apply pick_s | exact sel_0 | apply sel_s)) ⟨rfl, rfl, rfl, rfl⟩ (by omega) (by omega) (by omega) (by omega)
                  · exact absurd (by decide) h68
                · have q6 : ¬ R.length + 2 ≤ 6000 := fun q => h53 ((nI_leI (b := 6000) (by omega) (by decide)).mpr q)
                  rw [if_pos (by omega)] at B
                  dsimp only at B
                  refine j_iconst E (3) 57 dX8_put_56 (by decide) rfl ?_
                  refine j_goto E 61 dX8_put_57 (by decide) ?_
                  refine j_putf E 64 dX8_put_61 fl_X8_71 (by repeat (first | with_reducible exact pick_0 | with_reducible apply pick_s)) rfl rfl (Nat.le_of_ble_eq_true rfl) rfl ?_
                  dsimp only [List.set]
                  refine j_aload_n E 65 dX8_put_64 0 rfl rfl rfl ?_
                  refine j_getf E 68 dX8_put_65 fl_X8_71 (by repeat (first | with_reducible exact pick_0 | with_reducible apply pick_s)) (by rfl) rfl ?_
                  refine j_if_le E 73 71 dX8_put_68 (by decide) rfl (fun h68 => ?_) (fun h68 => ?_)
                  · exact absurd h68 (by decide)
                  · refine j_iconst E (0) 72 dX8_put_71 (by decide) rfl ?_
                    refine mga_close r 3 np cd pl pg (pm + 3001) (by repeat (first | with_reducible exact pick_0 | with_reducible apply pick_s | exact sel_0 | apply sel_s)) ?_ ⟨hgd, hRl, hmk, by omega⟩ ?_
                    · exact ⟨rfl, rfl, rfl, rfl, rfl, rfl, rfl, rfl, rfl⟩
                    · exact j_iret E B rfl 0 0 dX8_put_72 (by repeat (first | with_reducible exact pick_0 | with_reducible apply pick_s | exact sel_0 | apply sel_s)) ⟨rfl, rfl, rfl, rfl⟩ (by omega) (by omega) (by omega) (by omega)
              · have q8 : ¬ V.1 = 8 := fun q => h37 (by rw [q]; rfl)
                rw [if_pos q8] at B
                dsimp only at B
                refine j_iconst E (2) 41 dX8_put_40 (by decide) rfl ?_
                refine j_goto E 61 dX8_put_41 (by decide) ?_
                refine j_putf E 64 dX8_put_61 fl_X8_71 (by repeat (first | with_reducible exact pick_0 | with_reducible apply pick_s)) rfl rfl (Nat.le_of_ble_eq_true rfl) rfl ?_
                dsimp only [List.set]
                refine j_aload_n E 65 dX8_put_64 0 rfl rfl rfl ?_
                refine j_getf E 68 dX8_put_65 fl_X8_71 (by repeat (first | with_reducible exact pick_0 | with_reducible apply pick_s)) (by rfl) rfl ?_
                refine j_if_le E 73 71 dX8_put_68 (by decide) rfl (fun h68 => ?_) (fun h68 => ?_)
                · exact absurd h68 (by decide)
                · refine j_iconst E (0) 72 dX8_put_71 (by decide) rfl ?_
                  refine mga_close r 2 np cd pl pg (pm + 3001) (by repeat (first | with_reducible exact pick_0 | with_reducible apply pick_s | exact sel_0 | apply sel_s)) ?_ ⟨hgd, hRl, hmk, by omega⟩ ?_
                  · exact ⟨rfl, rfl, rfl, rfl, rfl, rfl, rfl, rfl, rfl⟩
                  · exact j_iret E B rfl 0 0 dX8_put_72 (by repeat (first | with_reducible exact pick_0 | with_reducible apply pick_s | exact sel_0 | apply sel_s)) ⟨rfl, rfl, rfl, rfl⟩ (by omega) (by omega) (by omega) (by omega)
            · exact absurd h22 (by decide)

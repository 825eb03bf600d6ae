/-! the model: add, put -/
theorem vat_set {us : List VT} {j : Nat} (V : VT) (hj : j < us.length) : vAt (us.set j V) j = V := by
  rw [vAt, List.getD_eq_getElem?_getD, List.getElem?_set_self hj]
  rfl
theorem vat_set_ne {us : List VT} {i j : Nat} (V : VT) (h : ¬ i = j) : vAt (us.set j V) i = vAt us i := by
  rw [vAt, vAt, List.getD_eq_getElem?_getD, List.getD_eq_getElem?_getD, List.getElem?_set_ne (Ne.symm h)]
theorem stp_set {us : List VT} {j : Nat} {V : VT} (hj : j < us.length) (h : stp V = stp (vAt us j)) : (us.set j V).map stp = us.map stp := by
  apply List.ext_getElem?
  intro i
  rw [List.getElem?_map, List.getElem?_map]
  by_cases q : i = j
  · subst q
    rw [List.getElem?_set_self hj, List.getElem?_eq_getElem hj]
    show some (stp V) = some (stp us[i])
    rw [h, vAt, List.getD_eq_getElem?_getD, List.getElem?_eq_getElem hj]
    rfl
  · rw [List.getElem?_set_ne (Ne.symm q)]
theorem gd_set {us : List VT} {zs : List Nat} {R R' : LK} {j z : Nat} {V : VT} (h : GD us zs R) (hzl : zs.length = us.length) (hj : j < us.length) (hz : z = vlen V) (hp : lkP R' j = V.2.2.2.2) (ho : ∀ i, ¬ i = j → lkP R' i = lkP R i) : GD (us.set j V) (zs.set j z) R' := fun i hi => by
  rw [List.length_set] at hi
  by_cases q : i = j
  · subst q
    rw [vat_set V hj, List.getD_eq_getElem?_getD, List.getElem?_set_self (by omega)]
    exact ⟨hz, fun _ => hp⟩
  · rw [vat_set_ne V q, List.getD_eq_getElem?_getD, List.getElem?_set_ne (Ne.symm q), ← List.getD_eq_getElem?_getD, ho i q]
    exact h i hi
theorem zs_set {zs : List Nat} {j z : Nat} (h : j < zs.length) : (zs.set j z).getD j 0 = z := by
  rw [List.getD_eq_getElem?_getD, List.getElem?_set_self h]
  rfl
set_option maxHeartbeats 8000000 in
theorem c_mg_add {g : GT} (hG : GLB g) (d m : Nat) (th : Int32) (tape : List UInt8) (us : List VT) (np nb : Nat) (out : List UInt8) (cd pl pm : Nat) (l v : Int32) (hok : AOk (tape, us, np, nb, out, cd, pl)) (hd : 3 ≤ d) : CtrV g mX8_add 7 d 0 0 m [.int l, .int v] [MGA g m th (tape, us, np, nb, out, cd, pl) pm] (mgo g m pm (sAdd l v (tape, us, np, nb, out, cd, pl))) noX := by
  refine ⟨mga_rcv, ?_⟩
  refine ctr_intro hG (by decide +kernel) (Nat.le_of_ble_eq_true rfl) ?_
  rintro X F rfl E B hI T
  replace E : JE X RX8 cX8_add 3 d 0 0 := E
  show J X _ [MGA X.1 m th (tape, us, np, nb, out, cd, pl) pm, F] 0 0 0 [some (.ref m), some (.int l), some (.int v)] []
  refine mga_open (by repeat (first | with_reducible exact pick_0 | with_reducible apply pick_s)) ?_
  intro r pkd cm fu op at_ bgc got pr pg zs R mk gs hS
  dsimp only [MGL, List.cons_append, List.nil_append]
  obtain ⟨hgd, hRl, hmk, hpg⟩ := hS
  dsimp only at hgd hRl
  refine j_know (pick_know (P := TB X.1 r us zs R nb mk) (by repeat (first | with_reducible exact pick_0 | with_reducible apply pick_s)) tb_know) (fun hk9 => ?_)
  refine j_know (pick_know (P := BA X.1 (r 1) tape) (by repeat (first | with_reducible exact pick_0 | with_reducible apply pick_s)) ba_know) (fun hbl => ?_)
  refine j_know (pick_know (P := BA X.1 (r 3) out) (by repeat (first | with_reducible exact pick_0 | with_reducible apply pick_s)) ba_know) (fun hbo => ?_)
  unfold mgo at B
  have bad : (¬ inB l us.length = true ∨ ¬ inB v us.length = true) → J X 3 [MF m r th (nI tape.length) (nI out.length) (nI us.length) (nI R.length) (nI nb) pkd (nI pg) cm fu op (nI cd) (nI pl) at_ bgc got pr, BA X.1 (r 1) tape, BA X.1 (r 3) out, BA X.1 (r 18) [], BA X.1 (r 19) [], TB X.1 r us zs R nb mk, GS X.1 r gs, OD X.1 r [], PL X.1 r [], F] 0 0 17 [some (.ref m), some (.int l), some (.int v)] [.ref m] := by
    intro hn
    rw [show sAdd l v (tape, us, np, nb, out, cd, pl) = (1, 0, (tape, us, np, nb, out, cd, pl)) from if_pos hn] at B
    dsimp only at B
    refine j_iconst E (1) 18 dX8_add_17 (by decide) rfl ?_
    refine j_goto E 51 dX8_add_18 (by decide) ?_
    refine j_putf E 54 dX8_add_51 fl_X8_71 (by repeat (first | with_reducible exact pick_0 | with_reducible apply pick_s)) rfl rfl (Nat.le_of_ble_eq_true rfl) rfl ?_
    dsimp only [List.set]
    refine j_aload_n E 55 dX8_add_54 0 rfl rfl rfl ?_
    refine j_getf E 58 dX8_add_55 fl_X8_71 (by repeat (first | with_reducible exact pick_0 | with_reducible apply pick_s)) (by rfl) rfl ?_
    refine j_if_le E 63 61 dX8_add_58 (by decide) rfl (fun h58 => ?_) (fun h58 => ?_)
    · exact absurd h58 (by decide)
    · refine j_iconst E (0) 62 dX8_add_61 (by decide) rfl ?_
      refine mga_close r 1 np cd pl pg (pm + 3001) (by repeat (first | with_reducible exact pick_0 | with_reducible apply pick_s | exact sel_0 | apply sel_s)) ?_ ⟨hgd, hRl, hmk, by omega⟩ ?_
      · exact ⟨rfl, rfl, rfl, rfl, rfl, rfl, rfl, rfl, rfl⟩
      · exact j_iret E B rfl 0 0 dX8_add_62 (by repeat (first | with_reducible exact pick_0 | with_reducible apply pick_s | exact sel_0 | apply sel_s)) ⟨rfl, rfl, rfl, rfl⟩ (by omega) (by omega) (by omega) (by omega)
  refine j_aload_n E 1 dX8_add_0 0 rfl rfl rfl ?_
  refine j_aload_n E 2 dX8_add_1 0 rfl rfl rfl ?_
  refine j_iload_n E 3 dX8_add_2 1 rfl rfl rfl ?_
  refine j_callV E (c_m_isValue hG (d-1) m r l us.length hk9.2.2.1) 6 dX8_add_3 _ _ _ iv_X8_131 rfl rfl rfl (by repeat (first | with_reducible exact pick_0 | with_reducible apply pick_s | exact sel_0 | apply sel_s)) (by omega) (by omega) (by omega) (Nat.le_of_ble_eq_true rfl) rfl ?_
  rintro _ _ _ _ ⟨rfl, rfl, rfl, rfl⟩
  dsimp only [List.cons_append, List.nil_append, Option.toList]
  rcases hin : inB l us.length with _ | _
  · refine j_if_eq E 17 9 dX8_add_6 (by decide) rfl (fun h6 => ?_) (fun h6 => ?_)
    · exact bad (Or.inl (by rw [hin]; decide))
    · exact absurd rfl h6
  · refine j_if_eq E 17 9 dX8_add_6 (by decide) rfl (fun h6 => ?_) (fun h6 => ?_)
    · exact absurd h6 (by decide)
    · refine j_aload_n E 10 dX8_add_9 0 rfl rfl rfl ?_
      refine j_iload_n E 11 dX8_add_10 2 rfl rfl rfl ?_
      refine j_callV E (c_m_isValue hG (d-1) m r v us.length hk9.2.2.1) 14 dX8_add_11 _ _ _ iv_X8_131 rfl rfl rfl (by repeat (first | with_reducible exact pick_0 | with_reducible apply pick_s | exact sel_0 | apply sel_s)) (by omega) (by omega) (by omega) (Nat.le_of_ble_eq_true rfl) rfl ?_
      rintro _ _ _ _ ⟨rfl, rfl, rfl, rfl⟩
      dsimp only [List.cons_append, List.nil_append, Option.toList]
      rcases hin2 : inB v us.length with _ | _
      · refine j_if_ne E 21 17 dX8_add_14 (by decide) rfl (fun h14 => ?_) (fun h14 => ?_)
        · exact absurd rfl h14
        · exact bad (Or.inr (by rw [hin2]; decide))
      · refine j_if_ne E 21 17 dX8_add_14 (by decide) rfl (fun h14 => ?_) (fun h14 => ?_)
        · obtain ⟨j, hj, rfl⟩ := inB_t (by omega) hin
          obtain ⟨y, hy, rfl⟩ := inB_t (by omega) hin2
          have hcl : (nI j).toNatClampNeg = j := nI_clamp (by omega)
          have hcl2 : (nI y).toNatClampNeg = y := nI_clamp (by omega)
          obtain ⟨V, hV⟩ : ∃ V, V = vAt us j := ⟨_, rfl⟩
          have hvt := aok_at hok hj
          dsimp only at hvt
          rw [← hV] at hvt
          have hz := (hgd j hj).1
          have hpt := (hgd j hj).2
          rw [← hV] at hz hpt
          have e1 : sAdd (nI j) (nI y) (tape, us, np, nb, out, cd, pl) = (if ¬ V.1 = 7 then (2, 0, (tape, us, np, nb, out, cd, pl)) else if 6000 < np + 1 then (3, 0, (tape, us, np, nb, out, cd, pl)) else (0, nI (V.2.2.2.2.length + 1), (tape, us.set j (vadd V y), np + 1, nb, out, cd, pl))) := by
            unfold sAdd
            dsimp only
            rw [if_neg (by rw [hin, hin2]; decide), hcl, hcl2, ← hV]
          rw [e1] at B
          have hk10 := hvt.1
          refine j_aload_n E 22 dX8_add_21 0 rfl rfl rfl ?_
          refine j_getf E 25 dX8_add_22 fl_X8_17 (by repeat (first | with_reducible exact pick_0 | with_reducible apply pick_s)) (by rfl) rfl ?_
          refine j_iload_n E 26 dX8_add_25 1 rfl rfl rfl ?_
          refine j_tbK E 27 dX8_add_26 (by repeat (first | with_reducible exact pick_0 | with_reducible apply pick_s)) hj rfl ?_
          rw [← hV]
          refine j_bipush E (7) 29 dX8_add_27 (by decide) rfl ?_
          refine j_icmp_eq E 36 32 dX8_add_29 (by decide) rfl (fun h29 => ?_) (fun h29 => ?_)
          · have q7 : V.1 = 7 := (nI_eq (b := 7) (by omega) (by decide)).mp h29
            rw [if_neg (by omega)] at B
            refine j_aload_n E 37 dX8_add_36 0 rfl rfl rfl ?_
            refine j_getf E 40 dX8_add_37 fl_X8_117 (by repeat (first | with_reducible exact pick_0 | with_reducible apply pick_s)) (by rfl) rfl ?_
            refine j_sipush E (6000) 43 dX8_add_40 (by decide) rfl ?_
            refine j_icmp_ne E 50 46 dX8_add_43 (by decide) rfl (fun h43 => ?_) (fun h43 => ?_)
            · have q6 : ¬ R.length = 6000 := fun q => h43 (by rw [q]; rfl)
              rw [if_neg (by omega)] at B
              dsimp only at B
              refine j_iconst E (0) 51 dX8_add_50 (by decide) rfl ?_
              refine j_putf E 54 dX8_add_51 fl_X8_71 (by repeat (first | with_reducible exact pick_0 | with_reducible apply pick_s)) rfl rfl (Nat.le_of_ble_eq_true rfl) rfl ?_
              dsimp only [List.set]
              refine j_aload_n E 55 dX8_add_54 0 rfl rfl rfl ?_
              refine j_getf E 58 dX8_add_55 fl_X8_71 (by repeat (first | with_reducible exact pick_0 | with_reducible apply pick_s)) (by rfl) rfl ?_
              refine j_if_le E 63 61 dX8_add_58 (by decide) rfl (fun h58 => ?_) (fun h58 => ?_)
              · refine j_aload_n E 64 dX8_add_63 0 rfl rfl rfl ?_
                refine j_iload_n E 65 dX8_add_64 1 rfl rfl rfl ?_
                refine j_iload_n E 66 dX8_add_65 2 rfl rfl rfl ?_
                refine j_callV E (c_m_link hG (d-1) m r j y us zs R nb mk hj (by rw [← hV]; exact Or.inl q7) (by rw [← hV]; exact hvt.2.2.2.2.1 (by omega)) (by omega)) 69 dX8_add_66 _ _ _ iv_X8_134 rfl rfl rfl (by repeat (first | with_reducible exact pick_0 | with_reducible apply pick_s | exact sel_0 | apply sel_s)) (by omega) (by omega) (by omega) (Nat.le_of_ble_eq_true rfl) rfl ?_
                rintro _ _ _ _ ⟨rfl, rfl, rfl, rfl⟩
                dsimp only [List.cons_append, List.nil_append, Option.toList]
                refine j_aload_n E 70 dX8_add_69 0 rfl rfl rfl ?_
                refine j_getf E 73 dX8_add_70 fl_X8_38 (by repeat (first | with_reducible exact pick_0 | with_reducible apply pick_s)) (by rfl) rfl ?_
                refine j_iload_n E 74 dX8_add_73 1 rfl rfl rfl ?_
                refine j_dup2_11 E 75 dX8_add_74 rfl rfl rfl ?_
                refine j_tbZ E 76 dX8_add_75 (by repeat (first | with_reducible exact pick_0 | with_reducible apply pick_s)) hj rfl ?_
                rw [hz]
                refine j_iconst E (1) 77 dX8_add_76 (by decide) rfl ?_
                refine j_iadd E 78 dX8_add_77 rfl ?_
                refine j_eqi (nI_1 (vlen V)) ?_
                refine j_tbZs E 79 dX8_add_78 (by repeat (first | with_reducible exact pick_0 | with_reducible apply pick_s)) hj rfl ?_
                refine j_aload_n E 80 dX8_add_79 0 rfl rfl rfl ?_
                refine j_getf E 83 dX8_add_80 fl_X8_38 (by repeat (first | with_reducible exact pick_0 | with_reducible apply pick_s)) (by rfl) rfl ?_
                refine j_iload_n E 84 dX8_add_83 1 rfl rfl rfl ?_
                refine j_tbZ E 85 dX8_add_84 (by repeat (first | with_reducible exact pick_0 | with_reducible apply pick_s)) hj rfl ?_
                rw [zs_set (by omega)]
                have hvl : vlen V = V.2.2.2.2.length := by rw [vlen, if_neg (by omega), if_pos q7]
                rw [hvl]
                refine j_tbsame (us.set j (vadd V y)) (by repeat (first | with_reducible exact pick_0 | with_reducible apply pick_s)) (stp_set hj (by rw [← hV]; rfl)) ?_
                refine mga_close r 0 (np + 1) cd pl pg (pm + 3001) (by repeat (first | with_reducible exact pick_0 | with_reducible apply pick_s | exact sel_0 | apply sel_s)) ?_ ?_ ?_
                · exact ⟨rfl, rfl, rfl, by rw [List.length_set], rfl, rfl, rfl, rfl, rfl⟩
                · refine ⟨gd_set hgd hk9.1 hj ?_ ?_ (fun i hi => by rw [lkP, if_neg (Ne.symm hi)]), by rw [List.length_cons, hRl], hmk, by omega⟩
                  · rw [vlen, if_neg (show ¬ (vadd V y).1 = 8 by show ¬ V.1 = 8; omega), if_pos (show (vadd V y).1 = 7 from q7)]
                    show _ = (V.2.2.2.2 ++ [y]).length
                    rw [List.length_append]
                    rfl
                  · rw [lkP, if_pos rfl, hpt (Or.inl q7)]
                    rfl
                · exact j_iret E B rfl 0 0 dX8_add_85 (by repeat (first | with_reducible exact pick_0 | with_reducible apply pick_s | exact sel_0 | apply sel_s)) ⟨rfl, rfl, rfl, rfl⟩ (by omega) (by omega) (by omega) (by omega)
              · exact absurd (by decide) h58
            · have q6 : R.length = 6000 := (nI_eq (b := 6000) (by omega) (by decide)).mp h43
              rw [if_pos (by omega)] at B
              dsimp only at B
              refine j_iconst E (3) 47 dX8_add_46 (by decide) rfl ?_
              refine j_goto E 51 dX8_add_47 (by decide) ?_
              refine j_putf E 54 dX8_add_51 fl_X8_71 (by repeat (first | with_reducible exact pick_0 | with_reducible apply pick_s)) rfl rfl (Nat.le_of_ble_eq_true rfl) rfl ?_
              dsimp only [List.set]
              refine j_aload_n E 55 dX8_add_54 0 rfl rfl rfl ?_
              refine j_getf E 58 dX8_add_55 fl_X8_71 (by repeat (first | with_reducible exact pick_0 | with_reducible apply pick_s)) (by rfl) rfl ?_
              refine j_if_le E 63 61 dX8_add_58 (by decide) rfl (fun h58 => ?_) (fun h58 => ?_)
              · exact absurd h58 (by decide)
              · refine j_iconst E (0) 62 dX8_add_61 (by decide) rfl ?_
                refine mga_close r 3 np cd pl pg (pm + 3001) (by repeat (first | with_reducible exact pick_0 | with_reducible apply pick_s | exact sel_0 | apply sel_s)) ?_ ⟨hgd, hRl, hmk, by omega⟩ ?_
                · exact ⟨rfl, rfl, rfl, rfl, rfl, rfl, rfl, rfl, rfl⟩
                · exact j_iret E B rfl 0 0 dX8_add_62 (by repeat (first | with_reducible exact pick_0 | with_reducible apply pick_s | exact sel_0 | apply sel_s)) ⟨rfl, rfl, rfl, rfl⟩ (by omega) (by omega) (by omega) (by omega)
          · have q7 : ¬ V.1 = 7 := fun q => h29 (by rw [q]; rfl)
            rw [if_pos q7] at B
            dsimp only at B
            refine j_iconst E (2) 33 dX8_add_32 (by decide) rfl ?_
            refine j_goto E 51 dX8_add_33 (by decide) ?_
            refine j_putf E 54 dX8_add_51 fl_X8_71 (by repeat (first | with_reducible exact pick_0 | with_reducible apply pick_s)) rfl rfl (Nat.le_of_ble_eq_true rfl) rfl ?_
            dsimp only [List.set]
            refine j_aload_n E 55 dX8_add_54 0 rfl rfl rfl ?_
            refine j_getf E 58 dX8_add_55 fl_X8_71 (by repeat (first | with_reducible exact pick_0 | with_reducible apply pick_s)) (by rfl) rfl ?_
            refine j_if_le E 63 61 dX8_add_58 (by decide) rfl (fun h58 => ?_) (fun h58 => ?_)
            · exact absurd h58 (by decide)
            · refine j_iconst E (0) 62 dX8_add_61 (by decide) rfl ?_
              refine mga_close r 2 np cd pl pg (pm + 3001) (by repeat (first | with_reducible exact pick_0 | with_reducible apply pick_s | exact sel_0 | apply sel_s)) ?_ ⟨hgd, hRl, hmk, by omega⟩ ?_
              · exact ⟨rfl, rfl, rfl, rfl, rfl, rfl, rfl, rfl, rfl⟩
              · exact j_iret E B rfl 0 0 dX8_add_62 (by repeat (first | with_reducible exact pick_0 | with_reducible apply pick_s | exact sel_0 | apply sel_s)) ⟨rfl, rfl, rfl, rfl⟩ (by omega) (by omega) (by omega) (by omega)
        · exact absurd h14 (by decide)

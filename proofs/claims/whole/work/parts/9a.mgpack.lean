/-! the model: pack, number -/
set_option maxHeartbeats 8000000 in
theorem c_mg_pack {g : GT} (hG : GLB g) (d m : Nat) (th : Int32) (tape : List UInt8) (us : List VT) (np nb : Nat) (out : List UInt8) (cd pl pm : Nat) (v : Int32) (hok : AOk (tape, us, np, nb, out, cd, pl)) (hpm : pm < 2 ^ 29) (hd : 16 ≤ d) : CtrV g mX8_pack 7 d 0 0 m [.int v] [MGA g m th (tape, us, np, nb, out, cd, pl) pm] (mgo g m pm (sPack v (tape, us, np, nb, out, cd, pl))) noX := by
  refine ⟨mga_rcv, ?_⟩
  refine ctr_intro hG (by decide +kernel) (Nat.le_of_ble_eq_true rfl) ?_
  rintro X F rfl E B hI T
  replace E : JE X RX8 cX8_pack 3 d 0 0 := E
  show J X _ [MGA X.1 m th (tape, us, np, nb, out, cd, pl) pm, F] 0 0 0 [some (.ref m), some (.int v), none] []
  refine mga_open (by repeat (first | with_reducible exact pick_0 | with_reducible apply pick_s)) ?_
  intro r pkd cm fu op at_ bgc got pr pg zs R mk gs hS
  dsimp only [MGL, List.cons_append, List.nil_append]
  obtain ⟨hgd, hRl, hmk, hpg⟩ := hS
  dsimp only at hgd hRl
  refine j_know (pick_know (P := TB X.1 r us zs R nb mk) (by repeat (first | with_reducible exact pick_0 | with_reducible apply pick_s)) tb_know) (fun hk9 => ?_)
  refine j_know (pick_know (P := BA X.1 (r 1) tape) (by repeat (first | with_reducible exact pick_0 | with_reducible apply pick_s)) ba_know) (fun hbl => ?_)
  refine j_know (pick_know (P := BA X.1 (r 3) out) (by repeat (first | with_reducible exact pick_0 | with_reducible apply pick_s)) ba_know) (fun hbo => ?_)
  unfold mgo at B
  refine j_aload_n E 1 dX8_pack_0 0 rfl rfl rfl ?_
  refine j_aload_n E 2 dX8_pack_1 0 rfl rfl rfl ?_
  refine j_iload_n E 3 dX8_pack_2 1 rfl rfl rfl ?_
  refine j_callV E (c_m_isValue hG (d-1) m r v us.length hk9.2.2.1) 6 dX8_pack_3 _ _ _ iv_X8_131 rfl rfl rfl (by repeat (first | with_reducible exact pick_0 | with_reducible apply pick_s | exact sel_0 | apply sel_s)) (by omega) (by omega) (by omega) (Nat.le_of_ble_eq_true rfl) rfl ?_
  rintro _ _ _ _ ⟨rfl, rfl, rfl, rfl⟩
  dsimp only [List.cons_append, List.nil_append, Option.toList]
  rcases hin : inB v us.length with _ | _
  · rw [show sPack v (tape, us, np, nb, out, cd, pl) = (1, 0, (tape, us, np, nb, out, cd, pl)) from if_neg (by dsimp only; rw [hin]; decide)] at B
    dsimp only at B
    refine j_if_eq E 13 9 dX8_pack_6 (by decide) rfl (fun h6 => ?_) (fun h6 => ?_)
    · refine j_iconst E (1) 14 dX8_pack_13 (by decide) rfl ?_
      refine j_putf E 17 dX8_pack_14 fl_X8_71 (by repeat (first | with_reducible exact pick_0 | with_reducible apply pick_s)) rfl rfl (Nat.le_of_ble_eq_true rfl) rfl ?_
      dsimp only [List.set]
      refine j_aload_n E 18 dX8_pack_17 0 rfl rfl rfl ?_
      refine j_getf E 21 dX8_pack_18 fl_X8_71 (by repeat (first | with_reducible exact pick_0 | with_reducible apply pick_s)) (by rfl) rfl ?_
      refine j_if_le E 26 24 dX8_pack_21 (by decide) rfl (fun h21 => ?_) (fun h21 => ?_)
      · exact absurd h21 (by decide)
      · refine j_iconst E (0) 25 dX8_pack_24 (by decide) rfl ?_
        refine mga_close r 1 np cd pl pg (pm + 3001) (by repeat (first | with_reducible exact pick_0 | with_reducible apply pick_s | exact sel_0 | apply sel_s)) ?_ ⟨hgd, hRl, hmk, by omega⟩ ?_
        · exact ⟨rfl, rfl, rfl, rfl, rfl, rfl, rfl, rfl, rfl⟩
        · exact j_iret E B rfl 0 0 dX8_pack_25 (by repeat (first | with_reducible exact pick_0 | with_reducible apply pick_s | exact sel_0 | apply sel_s)) ⟨rfl, rfl, rfl, rfl⟩ (by omega) (by omega) (by omega) (by omega)
    · exact absurd rfl h6
  · obtain ⟨j, hj, rfl⟩ := inB_t (by omega) hin
    have e1 : sPack (nI j) (tape, us, np, nb, out, cd, pl) = (match packU us 65536 j with
      | some p => (0, nI p.length, (tape, us, np, nb, p, cd, pl))
      | none => (2, 0, (tape, us, np, nb, [], cd, pl))) := by
      unfold sPack
      dsimp only
      rw [if_pos hin, nI_clamp (by omega)]
      rcases packU us 65536 j with _ | p
      · rfl
      · rfl
    rw [e1] at B
    refine j_if_eq E 13 9 dX8_pack_6 (by decide) rfl (fun h6 => ?_) (fun h6 => ?_)
    · exact absurd h6 (by decide)
    · refine j_iconst E (0) 10 dX8_pack_9 (by decide) rfl ?_
      refine j_goto E 14 dX8_pack_10 (by decide) ?_
      refine j_putf E 17 dX8_pack_14 fl_X8_71 (by repeat (first | with_reducible exact pick_0 | with_reducible apply pick_s)) rfl rfl (Nat.le_of_ble_eq_true rfl) rfl ?_
      dsimp only [List.set]
      refine j_aload_n E 18 dX8_pack_17 0 rfl rfl rfl ?_
      refine j_getf E 21 dX8_pack_18 fl_X8_71 (by repeat (first | with_reducible exact pick_0 | with_reducible apply pick_s)) (by rfl) rfl ?_
      refine j_if_le E 26 24 dX8_pack_21 (by decide) rfl (fun h21 => ?_) (fun h21 => ?_)
      · refine j_close (by repeat (first | with_reducible exact pick_0 | with_reducible apply pick_s | exact sel_0 | apply sel_s)) (P := BF X.1 (r 3) (some [])) (qs := [BA X.1 (r 3) out]) ba_bf ?_
        refine j_aload_n E 27 dX8_pack_26 0 rfl rfl rfl ?_
        refine j_aload_n E 28 dX8_pack_27 0 rfl rfl rfl ?_
        refine j_getf E 31 dX8_pack_28 fl_X8_14 (by repeat (first | with_reducible exact pick_0 | with_reducible apply pick_s)) (by rfl) rfl ?_
        refine j_iload_n E 32 dX8_pack_31 1 rfl rfl rfl ?_
        refine j_callV E (c_m_pack hG (d-1) m r pg (pg + 1) (r 3) j us zs R nb mk (by omega) hj (good_of hgd hok) (fun t _ => hmk t) rfl (by omega)) 35 dX8_pack_32 _ _ _ iv_X8_260 rfl rfl rfl (by repeat (first | with_reducible exact pick_0 | with_reducible apply pick_s | exact sel_0 | apply sel_s)) (by omega) (by omega) (by omega) (Nat.le_of_ble_eq_true rfl) rfl ?_
        rintro o dc ds ws' ⟨rfl, rfl, rfl, st, cm1, op1, come, s1, mk1, hst, hmk1, rfl⟩
        dsimp only [List.cons_append, List.nil_append, Option.toList]
        refine j_tbmk (fun t => if t < us.length then mk1 t else 0) (by repeat (first | with_reducible exact pick_0 | with_reducible apply pick_s)) (fun t ht => if_pos ht) ?_
        refine j_close (by repeat (first | with_reducible exact pick_0 | with_reducible apply pick_s | exact sel_0 | apply sel_s)) (P := OD X.1 r []) (qs := [OD X.1 r come]) od_weak ?_
        refine j_close (by repeat (first | with_reducible exact pick_0 | with_reducible apply pick_s | exact sel_0 | apply sel_s)) (P := PL X.1 r []) (qs := [PL X.1 r s1]) pl_weak ?_
        have hmk2 : ∀ t, (if t < us.length then mk1 t else 0) ≤ pg + 1 := fun t => by
          by_cases q : t < us.length
          · rw [if_pos q]
            exact hmk1 t q
          · rw [if_neg q]
            exact Nat.zero_le _
        rcases hp : packU us 65536 j with _ | p
        · rw [hp] at B
          dsimp only at B
          rw [show soI (none : Option (List UInt8)) = 0 from rfl]
          refine j_close (by repeat (first | with_reducible exact pick_0 | with_reducible apply pick_s | exact sel_0 | apply sel_s)) (P := BA X.1 (r 3) []) (qs := [BF X.1 (r 3) st]) bf_ba0 ?_
          refine j_istore_n E 36 dX8_pack_35 2 rfl (Nat.le_of_ble_eq_true rfl) rfl rfl ?_
          dsimp only [List.set]
          refine j_aload_n E 37 dX8_pack_36 0 rfl rfl rfl ?_
          refine j_iload_n E 38 dX8_pack_37 2 rfl rfl rfl ?_
          refine j_if_eq E 48 41 dX8_pack_38 (by decide) rfl (fun h38 => ?_) (fun h38 => ?_)
          · refine j_iconst E (0) 49 dX8_pack_48 (by decide) rfl ?_
            refine j_putf E 52 dX8_pack_49 fl_X8_263 (by repeat (first | with_reducible exact pick_0 | with_reducible apply pick_s)) rfl rfl (Nat.le_of_ble_eq_true rfl) rfl ?_
            dsimp only [List.set]
            refine j_aload_n E 53 dX8_pack_52 0 rfl rfl rfl ?_
            refine j_iload_n E 54 dX8_pack_53 2 rfl rfl rfl ?_
            refine j_if_eq E 61 57 dX8_pack_54 (by decide) rfl (fun h54 => ?_) (fun h54 => ?_)
            · refine j_iconst E (2) 62 dX8_pack_61 (by decide) rfl ?_
              refine j_putf E 65 dX8_pack_62 fl_X8_71 (by repeat (first | with_reducible exact pick_0 | with_reducible apply pick_s)) rfl rfl (Nat.le_of_ble_eq_true rfl) rfl ?_
              dsimp only [List.set]
              refine j_aload_n E 66 dX8_pack_65 0 rfl rfl rfl ?_
              refine j_getf E 69 dX8_pack_66 fl_X8_263 (by repeat (first | with_reducible exact pick_0 | with_reducible apply pick_s)) (by rfl) rfl ?_
              refine mga_close r 2 np cd pl (pg + 1) (pm + 3001) (by repeat (first | with_reducible exact pick_0 | with_reducible apply pick_s | exact sel_0 | apply sel_s)) ?_ ⟨hgd, hRl, hmk2, by omega⟩ ?_
              · exact ⟨rfl, rfl, rfl, rfl, rfl, rfl, rfl, rfl, rfl⟩
              · exact j_iret E B rfl 0 0 dX8_pack_69 (by repeat (first | with_reducible exact pick_0 | with_reducible apply pick_s | exact sel_0 | apply sel_s)) ⟨rfl, rfl, rfl, rfl⟩ (by omega) (by omega) (by omega) (by omega)
            · exact absurd rfl h54
          · exact absurd rfl h38
        · rw [hp] at B
          dsimp only at B
          have hs9 := hst p hp
          subst hs9
          rw [show soI (some p) = 1 from rfl]
          refine j_close (by repeat (first | with_reducible exact pick_0 | with_reducible apply pick_s | exact sel_0 | apply sel_s)) (P := BA X.1 (r 3) p) (qs := [BF X.1 (r 3) (some p)]) bf_ba ?_
          refine j_istore_n E 36 dX8_pack_35 2 rfl (Nat.le_of_ble_eq_true rfl) rfl rfl ?_
          dsimp only [List.set]
          refine j_aload_n E 37 dX8_pack_36 0 rfl rfl rfl ?_
          refine j_iload_n E 38 dX8_pack_37 2 rfl rfl rfl ?_
          refine j_if_eq E 48 41 dX8_pack_38 (by decide) rfl (fun h38 => ?_) (fun h38 => ?_)
          · exact absurd h38 (by decide)
          · refine j_aload_n E 42 dX8_pack_41 0 rfl rfl rfl ?_
            refine j_getf E 45 dX8_pack_42 fl_X8_202 (by repeat (first | with_reducible exact pick_0 | with_reducible apply pick_s)) (by rfl) rfl ?_
            refine j_goto E 49 dX8_pack_45 (by decide) ?_
            refine j_putf E 52 dX8_pack_49 fl_X8_263 (by repeat (first | with_reducible exact pick_0 | with_reducible apply pick_s)) rfl rfl (Nat.le_of_ble_eq_true rfl) rfl ?_
            dsimp only [List.set]
            refine j_aload_n E 53 dX8_pack_52 0 rfl rfl rfl ?_
            refine j_iload_n E 54 dX8_pack_53 2 rfl rfl rfl ?_
            refine j_if_eq E 61 57 dX8_pack_54 (by decide) rfl (fun h54 => ?_) (fun h54 => ?_)
            · exact absurd h54 (by decide)
            · refine j_iconst E (0) 58 dX8_pack_57 (by decide) rfl ?_
              refine j_goto E 62 dX8_pack_58 (by decide) ?_
              refine j_putf E 65 dX8_pack_62 fl_X8_71 (by repeat (first | with_reducible exact pick_0 | with_reducible apply pick_s)) rfl rfl (Nat.le_of_ble_eq_true rfl) rfl ?_
              dsimp only [List.set]
              refine j_aload_n E 66 dX8_pack_65 0 rfl rfl rfl ?_
              refine j_getf E 69 dX8_pack_66 fl_X8_263 (by repeat (first | with_reducible exact pick_0 | with_reducible apply pick_s)) (by rfl) rfl ?_
              refine mga_close r 0 np cd pl (pg + 1) (pm + 3001) (by repeat (first | with_reducible exact pick_0 | with_reducible apply pick_s | exact sel_0 | apply sel_s)) ?_ ⟨hgd, hRl, hmk2, by omega⟩ ?_
              · exact ⟨rfl, rfl, rfl, rfl, rfl, rfl, rfl, rfl, rfl⟩
              · exact j_iret E B rfl 0 0 dX8_pack_69 (by repeat (first | with_reducible exact pick_0 | with_reducible apply pick_s | exact sel_0 | apply sel_s)) ⟨rfl, rfl, rfl, rfl⟩ (by omega) (by omega) (by omega) (by omega)
      · exact absurd (by decide) h21

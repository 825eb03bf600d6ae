/-! the model: same -/
set_option maxHeartbeats 8000000 in
theorem c_mg_same {g : GT} (hG : GLB g) (d m : Nat) (th : Int32) (tape : List UInt8) (us : List VT) (np nb : Nat) (out : List UInt8) (cd pl pm : Nat) (a b : Int32) (hok : AOk (tape, us, np, nb, out, cd, pl)) (hpm : pm < 2 ^ 29) (hd : 16 ≤ d) : CtrV g mX8_same 7 d 0 0 m [.int a, .int b] [MGA g m th (tape, us, np, nb, out, cd, pl) pm] (mgo g m pm (sSame a b (tape, us, np, nb, out, cd, pl))) noX := by
  refine ⟨mga_rcv, ?_⟩
  refine ctr_intro hG (by decide +kernel) (Nat.le_of_ble_eq_true rfl) ?_
  rintro X F rfl E B hI T
  replace E : JE X RX8 cX8_same 6 d 0 0 := E
  show J X _ [MGA X.1 m th (tape, us, np, nb, out, cd, pl) pm, F] 0 0 0 [some (.ref m), some (.int a), some (.int b), none, none, none] []
  refine mga_open (by repeat (first | with_reducible exact pick_0 | with_reducible apply pick_s)) ?_
  intro r pkd cm fu op at_ bgc got pr pg zs R mk gs hS
  dsimp only [MGL, List.cons_append, List.nil_append]
  obtain ⟨hgd, hRl, hmk, hpg⟩ := hS
  dsimp only at hgd hRl
  refine j_know (pick_know (P := TB X.1 r us zs R nb mk) (by repeat (first | with_reducible exact pick_0 | with_reducible apply pick_s)) tb_know) (fun hk9 => ?_)
  refine j_know (pick_know (P := BA X.1 (r 1) tape) (by repeat (first | with_reducible exact pick_0 | with_reducible apply pick_s)) ba_know) (fun hbl => ?_)
  refine j_know (pick_know (P := BA X.1 (r 3) out) (by repeat (first | with_reducible exact pick_0 | with_reducible apply pick_s)) ba_know) (fun hbo => ?_)
  unfold mgo at B
  have bad : (¬ inB a us.length = true ∨ ¬ inB b us.length = true) → J X 6 [MF m r th (nI tape.length) (nI out.length) (nI us.length) (nI R.length) (nI nb) pkd (nI pg) cm fu op (nI cd) (nI pl) at_ bgc got pr, BA X.1 (r 1) tape, BA X.1 (r 3) out, BA X.1 (r 18) [], BA X.1 (r 19) [], TB X.1 r us zs R nb mk, GS X.1 r gs, OD X.1 r [], PL X.1 r [], F] 0 0 21 [some (.ref m), some (.int a), some (.int b), none, none, none] [.ref m] := by
    intro hn
    rw [show sSame a b (tape, us, np, nb, out, cd, pl) = (1, 0, (tape, us, np, nb, out, cd, pl)) from if_pos hn] at B
    dsimp only at B
    refine j_iconst E (1) 22 dX8_same_21 (by decide) rfl ?_
    refine j_putf E 25 dX8_same_22 fl_X8_71 (by repeat (first | with_reducible exact pick_0 | with_reducible apply pick_s)) rfl rfl (Nat.le_of_ble_eq_true rfl) rfl ?_
    dsimp only [List.set]
    refine j_aload_n E 26 dX8_same_25 0 rfl rfl rfl ?_
    refine j_getf E 29 dX8_same_26 fl_X8_71 (by repeat (first | with_reducible exact pick_0 | with_reducible apply pick_s)) (by rfl) rfl ?_
    refine j_if_le E 34 32 dX8_same_29 (by decide) rfl (fun h29 => ?_) (fun h29 => ?_)
    · exact absurd h29 (by decide)
    · refine j_iconst E (0) 33 dX8_same_32 (by decide) rfl ?_
      refine mga_close r 1 np cd pl pg (pm + 3001) (by repeat (first | with_reducible exact pick_0 | with_reducible apply pick_s | exact sel_0 | apply sel_s)) ?_ ⟨hgd, hRl, hmk, by omega⟩ ?_
      · exact ⟨rfl, rfl, rfl, rfl, rfl, rfl, rfl, rfl, rfl⟩
      · exact j_zret E B rfl (by first | exact Or.inl rfl | exact Or.inr rfl) 0 0 dX8_same_33 (by repeat (first | with_reducible exact pick_0 | with_reducible apply pick_s | exact sel_0 | apply sel_s)) ⟨rfl, rfl, rfl, rfl⟩ (by omega) (by omega) (by omega) (by omega)
  refine j_aload_n E 1 dX8_same_0 0 rfl rfl rfl ?_
  refine j_aload_n E 2 dX8_same_1 0 rfl rfl rfl ?_
  refine j_iload_n E 3 dX8_same_2 1 rfl rfl rfl ?_
  refine j_callV E (c_m_isValue hG (d-1) m r a us.length hk9.2.2.1) 6 dX8_same_3 _ _ _ iv_X8_131 rfl rfl rfl (by repeat (first | with_reducible exact pick_0 | with_reducible apply pick_s | exact sel_0 | apply sel_s)) (by omega) (by omega) (by omega) (Nat.le_of_ble_eq_true rfl) rfl ?_
  rintro _ _ _ _ ⟨rfl, rfl, rfl, rfl⟩
  dsimp only [List.cons_append, List.nil_append, Option.toList]
  rcases hin : inB a us.length with _ | _
  · refine j_if_eq E 21 9 dX8_same_6 (by decide) rfl (fun h6 => ?_) (fun h6 => ?_)
    · exact bad (Or.inl (by rw [hin]; decide))
    · exact absurd rfl h6
  · refine j_if_eq E 21 9 dX8_same_6 (by decide) rfl (fun h6 => ?_) (fun h6 => ?_)
    · exact absurd h6 (by decide)
    · refine j_aload_n E 10 dX8_same_9 0 rfl rfl rfl ?_
      refine j_iload_n E 11 dX8_same_10 2 rfl rfl rfl ?_
      refine j_callV E (c_m_isValue hG (d-1) m r b us.length hk9.2.2.1) 14 dX8_same_11 _ _ _ iv_X8_131 rfl rfl rfl (by repeat (first | with_reducible exact pick_0 | with_reducible apply pick_s | exact sel_0 | apply sel_s)) (by omega) (by omega) (by omega) (Nat.le_of_ble_eq_true rfl) rfl ?_
      rintro _ _ _ _ ⟨rfl, rfl, rfl, rfl⟩
      dsimp only [List.cons_append, List.nil_append, Option.toList]
      rcases hin2 : inB b us.length with _ | _
      · refine j_if_eq E 21 17 dX8_same_14 (by decide) rfl (fun h14 => ?_) (fun h14 => ?_)
        · exact bad (Or.inr (by rw [hin2]; decide))
        · exact absurd rfl h14
      · refine j_if_eq E 21 17 dX8_same_14 (by decide) rfl (fun h14 => ?_) (fun h14 => ?_)
        · exact absurd h14 (by decide)
        · obtain ⟨j, hj, rfl⟩ := inB_t (by omega) hin
          obtain ⟨y, hy, rfl⟩ := inB_t (by omega) hin2
          have hcl : (nI j).toNatClampNeg = j := nI_clamp (by omega)
          have hcl2 : (nI y).toNatClampNeg = y := nI_clamp (by omega)
          have eN : packU us 65536 j = none → sSame (nI j) (nI y) (tape, us, np, nb, out, cd, pl) = (2, 0, (tape, us, np, nb, out, cd, pl)) := fun hp => by
            unfold sSame
            dsimp only
            rw [if_neg (by rw [hin, hin2]; decide), hcl, hp]
          have eM : ∀ p, packU us 65536 j = some p → packU us 65536 y = none → sSame (nI j) (nI y) (tape, us, np, nb, out, cd, pl) = (2, 0, (tape, us, np, nb, out, cd, pl)) := fun p hp hq => by
            unfold sSame
            dsimp only
            rw [if_neg (by rw [hin, hin2]; decide), hcl, hcl2, hp]
            dsimp only
            rw [hq]
          have eY : ∀ p q, packU us 65536 j = some p → packU us 65536 y = some q → sSame (nI j) (nI y) (tape, us, np, nb, out, cd, pl) = (0, (if p = q then 1 else 0), (tape, us, np, nb, out, cd, pl)) := fun p q hp hq => by
            unfold sSame
            dsimp only
            rw [if_neg (by rw [hin, hin2]; decide), hcl, hcl2, hp]
            dsimp only
            rw [hq]
          refine j_iconst E (0) 18 dX8_same_17 (by decide) rfl ?_
          refine j_goto E 22 dX8_same_18 (by decide) ?_
          refine j_putf E 25 dX8_same_22 fl_X8_71 (by repeat (first | with_reducible exact pick_0 | with_reducible apply pick_s)) rfl rfl (Nat.le_of_ble_eq_true rfl) rfl ?_
          dsimp only [List.set]
          refine j_aload_n E 26 dX8_same_25 0 rfl rfl rfl ?_
          refine j_getf E 29 dX8_same_26 fl_X8_71 (by repeat (first | with_reducible exact pick_0 | with_reducible apply pick_s)) (by rfl) rfl ?_
          refine j_if_le E 34 32 dX8_same_29 (by decide) rfl (fun h29 => ?_) (fun h29 => ?_)
          · refine j_close (by repeat (first | with_reducible exact pick_0 | with_reducible apply pick_s | exact sel_0 | apply sel_s)) (P := BF X.1 (r 18) (some [])) (qs := [BA X.1 (r 18) []]) ba_bf ?_
            refine j_aload_n E 35 dX8_same_34 0 rfl rfl rfl ?_
            refine j_aload_n E 36 dX8_same_35 0 rfl rfl rfl ?_
            refine j_getf E 39 dX8_same_36 fl_X8_50 (by repeat (first | with_reducible exact pick_0 | with_reducible apply pick_s)) (by rfl) rfl ?_
            refine j_iload_n E 40 dX8_same_39 1 rfl rfl rfl ?_
            refine j_callV E (c_m_pack hG (d-1) m r pg (pg + 1) (r 18) j us zs R nb mk (by omega) hj (good_of hgd hok) (fun t _ => hmk t) rfl (by omega)) 43 dX8_same_40 _ _ _ iv_X8_260 rfl rfl rfl (by repeat (first | with_reducible exact pick_0 | with_reducible apply pick_s | exact sel_0 | apply sel_s)) (by omega) (by omega) (by omega) (Nat.le_of_ble_eq_true rfl) rfl ?_
            rintro o dc ds ws' ⟨rfl, rfl, rfl, st, cm1, op1, come, s1, mk1, hst, hmk1, rfl⟩
            dsimp only [List.cons_append, List.nil_append, Option.toList]
            refine j_close (by repeat (first | with_reducible exact pick_0 | with_reducible apply pick_s | exact sel_0 | apply sel_s)) (P := OD X.1 r []) (qs := [OD X.1 r come]) od_weak ?_
            refine j_close (by repeat (first | with_reducible exact pick_0 | with_reducible apply pick_s | exact sel_0 | apply sel_s)) (P := PL X.1 r []) (qs := [PL X.1 r s1]) pl_weak ?_
            refine j_istore_n E 44 dX8_same_43 3 rfl (Nat.le_of_ble_eq_true rfl) rfl rfl ?_
            dsimp only [List.set]
            refine j_aload_n E 45 dX8_same_44 0 rfl rfl rfl ?_
            refine j_getf E 48 dX8_same_45 fl_X8_202 (by repeat (first | with_reducible exact pick_0 | with_reducible apply pick_s)) (by rfl) rfl ?_
            refine j_istore E 50 dX8_same_48 (Nat.le_of_ble_eq_true rfl) rfl rfl ?_
            dsimp only [List.set]
            refine j_close (by repeat (first | with_reducible exact pick_0 | with_reducible apply pick_s | exact sel_0 | apply sel_s)) (P := BF X.1 (r 19) (some [])) (qs := [BA X.1 (r 19) []]) ba_bf ?_
            refine j_aload_n E 51 dX8_same_50 0 rfl rfl rfl ?_
            refine j_aload_n E 52 dX8_same_51 0 rfl rfl rfl ?_
            refine j_getf E 55 dX8_same_52 fl_X8_53 (by repeat (first | with_reducible exact pick_0 | with_reducible apply pick_s)) (by rfl) rfl ?_
            refine j_iload_n E 56 dX8_same_55 2 rfl rfl rfl ?_
            refine j_callV E (c_m_pack hG (d-1) m r (pg + 1) (pg + 2) (r 19) y us zs R nb mk1 (by omega) hy (good_of hgd hok) hmk1 rfl (by omega)) 59 dX8_same_56 _ _ _ iv_X8_260 rfl rfl rfl (by repeat (first | with_reducible exact pick_0 | with_reducible apply pick_s | exact sel_0 | apply sel_s)) (by omega) (by omega) (by omega) (Nat.le_of_ble_eq_true rfl) rfl ?_
            rintro o dc ds ws' ⟨rfl, rfl, rfl, st2, cm2, op2, come2, s2, mk2, hst2, hmk2, rfl⟩
            dsimp only [List.cons_append, List.nil_append, Option.toList]
            refine j_close (by repeat (first | with_reducible exact pick_0 | with_reducible apply pick_s | exact sel_0 | apply sel_s)) (P := OD X.1 r []) (qs := [OD X.1 r come2]) od_weak ?_
            refine j_close (by repeat (first | with_reducible exact pick_0 | with_reducible apply pick_s | exact sel_0 | apply sel_s)) (P := PL X.1 r []) (qs := [PL X.1 r s2]) pl_weak ?_
            refine j_tbmk (fun t => if t < us.length then mk2 t else 0) (by repeat (first | with_reducible exact pick_0 | with_reducible apply pick_s)) (fun t ht => if_pos ht) ?_
            have hmk4 : ∀ t, (if t < us.length then mk2 t else 0) ≤ pg + 2 := fun t => by
              by_cases q : t < us.length
              · rw [if_pos q]
                exact hmk2 t q
              · rw [if_neg q]
                exact Nat.zero_le _
            rcases hp : packU us 65536 j with _ | p
            · rw [eN hp] at B
              dsimp only at B
              rw [show soI (none : Option (List UInt8)) = 0 from rfl]
              refine j_close (by repeat (first | with_reducible exact pick_0 | with_reducible apply pick_s | exact sel_0 | apply sel_s)) (P := BA X.1 (r 18) []) (qs := [BF X.1 (r 18) st]) bf_ba0 ?_
              refine j_close (by repeat (first | with_reducible exact pick_0 | with_reducible apply pick_s | exact sel_0 | apply sel_s)) (P := BA X.1 (r 19) []) (qs := [BF X.1 (r 19) st2]) bf_ba0 ?_
              refine j_istore E 61 dX8_same_59 (Nat.le_of_ble_eq_true rfl) rfl rfl ?_
              dsimp only [List.set]
              refine j_aload_n E 62 dX8_same_61 0 rfl rfl rfl ?_
              refine j_iload_n E 63 dX8_same_62 3 rfl rfl rfl ?_
              refine j_if_eq E 75 66 dX8_same_63 (by decide) rfl (fun h63 => ?_) (fun h63 => ?_)
              · refine j_iconst E (2) 76 dX8_same_75 (by decide) rfl ?_
                refine j_putf E 79 dX8_same_76 fl_X8_71 (by repeat (first | with_reducible exact pick_0 | with_reducible apply pick_s)) rfl rfl (Nat.le_of_ble_eq_true rfl) rfl ?_
                dsimp only [List.set]
                refine j_aload_n E 80 dX8_same_79 0 rfl rfl rfl ?_
                refine j_getf E 83 dX8_same_80 fl_X8_71 (by repeat (first | with_reducible exact pick_0 | with_reducible apply pick_s)) (by rfl) rfl ?_
                refine j_if_ne E 103 86 dX8_same_83 (by decide) rfl (fun h83 => ?_) (fun h83 => ?_)
                · refine j_iconst E (0) 104 dX8_same_103 (by decide) rfl ?_
                  refine mga_close r 2 np cd pl (pg + 2) (pm + 3001) (by repeat (first | with_reducible exact pick_0 | with_reducible apply pick_s | exact sel_0 | apply sel_s)) ?_ ⟨hgd, hRl, hmk4, by omega⟩ ?_
                  · exact ⟨rfl, rfl, rfl, rfl, rfl, rfl, rfl, rfl, rfl⟩
                  · exact j_zret E B rfl (by first | exact Or.inl rfl | exact Or.inr rfl) 0 0 dX8_same_104 (by repeat (first | with_reducible exact pick_0 | with_reducible apply pick_s | exact sel_0 | apply sel_s)) ⟨rfl, rfl, rfl, rfl⟩ (by omega) (by omega) (by omega) (by omega)
                · exact absurd h83 (by decide)
              · exact absurd rfl h63
            · have hs9 := hst p hp
              subst hs9
              rw [show soI (some p) = 1 from rfl]
              rcases hq : packU us 65536 y with _ | q
              · rw [eM p hp hq] at B
                dsimp only at B
                rw [show soI (none : Option (List UInt8)) = 0 from rfl]
                refine j_close (by repeat (first | with_reducible exact pick_0 | with_reducible apply pick_s | exact sel_0 | apply sel_s)) (P := BA X.1 (r 18) []) (qs := [BF X.1 (r 18) (some p)]) bf_ba0 ?_
                refine j_close (by repeat (first | with_reducible exact pick_0 | with_reducible apply pick_s | exact sel_0 | apply sel_s)) (P := BA X.1 (r 19) []) (qs := [BF X.1 (r 19) st2]) bf_ba0 ?_
                refine j_istore E 61 dX8_same_59 (Nat.le_of_ble_eq_true rfl) rfl rfl ?_
                dsimp only [List.set]
                refine j_aload_n E 62 dX8_same_61 0 rfl rfl rfl ?_
                refine j_iload_n E 63 dX8_same_62 3 rfl rfl rfl ?_
                refine j_if_eq E 75 66 dX8_same_63 (by decide) rfl (fun h63 => ?_) (fun h63 => ?_)
                · exact absurd h63 (by decide)
                · refine j_iload E 68 dX8_same_66 rfl rfl ?_
                  refine j_if_eq E 75 71 dX8_same_68 (by decide) rfl (fun h68 => ?_) (fun h68 => ?_)
                  · refine j_iconst E (2) 76 dX8_same_75 (by decide) rfl ?_
                    refine j_putf E 79 dX8_same_76 fl_X8_71 (by repeat (first | with_reducible exact pick_0 | with_reducible apply pick_s)) rfl rfl (Nat.le_of_ble_eq_true rfl) rfl ?_
                    dsimp only [List.set]
                    refine j_aload_n E 80 dX8_same_79 0 rfl rfl rfl ?_
                    refine j_getf E 83 dX8_same_80 fl_X8_71 (by repeat (first | with_reducible exact pick_0 | with_reducible apply pick_s)) (by rfl) rfl ?_
                    refine j_if_ne E 103 86 dX8_same_83 (by decide) rfl (fun h83 => ?_) (fun h83 => ?_)
                    · refine j_iconst E (0) 104 dX8_same_103 (by decide) rfl ?_
                      refine mga_close r 2 np cd pl (pg + 2) (pm + 3001) (by repeat (first | with_reducible exact pick_0 | with_reducible apply pick_s | exact sel_0 | apply sel_s)) ?_ ⟨hgd, hRl, hmk4, by omega⟩ ?_
                      · exact ⟨rfl, rfl, rfl, rfl, rfl, rfl, rfl, rfl, rfl⟩
                      · exact j_zret E B rfl (by first | exact Or.inl rfl | exact Or.inr rfl) 0 0 dX8_same_104 (by repeat (first | with_reducible exact pick_0 | with_reducible apply pick_s | exact sel_0 | apply sel_s)) ⟨rfl, rfl, rfl, rfl⟩ (by omega) (by omega) (by omega) (by omega)
                    · exact absurd h83 (by decide)
                  · exact absurd rfl h68
              · have hs8 := hst2 q hq
                subst hs8
                rw [eY p q hp hq] at B
                dsimp only at B
                rw [show soI (some q) = 1 from rfl]
                refine j_close (by repeat (first | with_reducible exact pick_0 | with_reducible apply pick_s | exact sel_0 | apply sel_s)) (P := BA X.1 (r 18) p) (qs := [BF X.1 (r 18) (some p)]) bf_ba ?_
                refine j_close (by repeat (first | with_reducible exact pick_0 | with_reducible apply pick_s | exact sel_0 | apply sel_s)) (P := BA X.1 (r 19) q) (qs := [BF X.1 (r 19) (some q)]) bf_ba ?_
                refine j_istore E 61 dX8_same_59 (Nat.le_of_ble_eq_true rfl) rfl rfl ?_
                dsimp only [List.set]
                refine j_aload_n E 62 dX8_same_61 0 rfl rfl rfl ?_
                refine j_iload_n E 63 dX8_same_62 3 rfl rfl rfl ?_
                refine j_if_eq E 75 66 dX8_same_63 (by decide) rfl (fun h63 => ?_) (fun h63 => ?_)
                · exact absurd h63 (by decide)
                · refine j_iload E 68 dX8_same_66 rfl rfl ?_
                  refine j_if_eq E 75 71 dX8_same_68 (by decide) rfl (fun h68 => ?_) (fun h68 => ?_)
                  · exact absurd h68 (by decide)
                  · refine j_iconst E (0) 72 dX8_same_71 (by decide) rfl ?_
                    refine j_goto E 76 dX8_same_72 (by decide) ?_
                    refine j_putf E 79 dX8_same_76 fl_X8_71 (by repeat (first | with_reducible exact pick_0 | with_reducible apply pick_s)) rfl rfl (Nat.le_of_ble_eq_true rfl) rfl ?_
                    dsimp only [List.set]
                    refine j_aload_n E 80 dX8_same_79 0 rfl rfl rfl ?_
                    refine j_getf E 83 dX8_same_80 fl_X8_71 (by repeat (first | with_reducible exact pick_0 | with_reducible apply pick_s)) (by rfl) rfl ?_
                    refine j_if_ne E 103 86 dX8_same_83 (by decide) rfl (fun h83 => ?_) (fun h83 => ?_)
                    · exact absurd rfl h83
                    · refine j_aload_n E 87 dX8_same_86 0 rfl rfl rfl ?_
                      refine j_iload E 89 dX8_same_87 rfl rfl ?_
                      refine j_aload_n E 90 dX8_same_89 0 rfl rfl rfl ?_
                      refine j_getf E 93 dX8_same_90 fl_X8_202 (by repeat (first | with_reducible exact pick_0 | with_reducible apply pick_s)) (by rfl) rfl ?_
                      refine j_callV E (c_m_isSame hG (d-1) m r p q) 96 dX8_same_93 _ _ _ iv_X8_266 rfl rfl rfl (by repeat (first | with_reducible exact pick_0 | with_reducible apply pick_s | exact sel_0 | apply sel_s)) (by omega) (by omega) (by omega) (Nat.le_of_ble_eq_true rfl) rfl ?_
                      rintro _ _ _ _ ⟨rfl, rfl, rfl, rfl⟩
                      dsimp only [List.cons_append, List.nil_append, Option.toList]
                      refine j_close (by repeat (first | with_reducible exact pick_0 | with_reducible apply pick_s | exact sel_0 | apply sel_s)) (P := BA X.1 (r 18) []) (qs := [BA X.1 (r 18) p]) ba_0 ?_
                      refine j_close (by repeat (first | with_reducible exact pick_0 | with_reducible apply pick_s | exact sel_0 | apply sel_s)) (P := BA X.1 (r 19) []) (qs := [BA X.1 (r 19) q]) ba_0 ?_
                      by_cases e : p = q
                      · rw [if_pos e] at B ⊢
                        refine j_if_eq E 103 99 dX8_same_96 (by decide) rfl (fun h96 => ?_) (fun h96 => ?_)
                        · exact absurd h96 (by decide)
                        · refine j_iconst E (1) 100 dX8_same_99 (by decide) rfl ?_
                          refine j_goto E 104 dX8_same_100 (by decide) ?_
                          refine mga_close r 0 np cd pl (pg + 2) (pm + 3001) (by repeat (first | with_reducible exact pick_0 | with_reducible apply pick_s | exact sel_0 | apply sel_s)) ?_ ⟨hgd, hRl, hmk4, by omega⟩ ?_
                          · exact ⟨rfl, rfl, rfl, rfl, rfl, rfl, rfl, rfl, rfl⟩
                          · exact j_zret E B rfl (by first | exact Or.inl rfl | exact Or.inr rfl) 0 0 dX8_same_104 (by repeat (first | with_reducible exact pick_0 | with_reducible apply pick_s | exact sel_0 | apply sel_s)) ⟨rfl, rfl, rfl, rfl⟩ (by omega) (by omega) (by omega) (by omega)
                      · rw [if_neg e] at B ⊢
                        refine j_if_eq E 103 99 dX8_same_96 (by decide) rfl (fun h96 => ?_) (fun h96 => ?_)
                        · refine j_iconst E (0) 104 dX8_same_103 (by decide) rfl ?_
                          refine mga_close r 0 np cd pl (pg + 2) (pm + 3001) (by repeat (first | with_reducible exact pick_0 | with_reducible apply pick_s | exact sel_0 | apply sel_s)) ?_ ⟨hgd, hRl, hmk4, by omega⟩ ?_
                          · exact ⟨rfl, rfl, rfl, rfl, rfl, rfl, rfl, rfl, rfl⟩
                          · exact j_zret E B rfl (by first | exact Or.inl rfl | exact Or.inr rfl) 0 0 dX8_same_104 (by repeat (first | with_reducible exact pick_0 | with_reducible apply pick_s | exact sel_0 | apply sel_s)) ⟨rfl, rfl, rfl, rfl⟩ (by omega) (by omega) (by omega) (by omega)
                        · exact absurd rfl h96
          · exact absurd (by decide) h29

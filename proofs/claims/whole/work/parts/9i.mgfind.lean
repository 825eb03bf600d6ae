/-! the model: find -/
set_option maxHeartbeats 8000000 in
theorem c_mg_find {g : GT} (hG : GLB g) (d m : Nat) (th : Int32) (tape : List UInt8) (us : List VT) (np nb : Nat) (out : List UInt8) (cd pl pm : Nat) (v c : Int32) (hok : AOk (tape, us, np, nb, out, cd, pl)) (hpm : pm < 2 ^ 29) (hd : 16 ≤ d) : CtrV g mX8_find 7 d 0 0 m [.int v, .int c] [MGA g m th (tape, us, np, nb, out, cd, pl) pm] (mgo g m pm (sFind v c (tape, us, np, nb, out, cd, pl))) noX := by
  refine ⟨mga_rcv, ?_⟩
  refine ctr_intro hG (by decide +kernel) (Nat.le_of_ble_eq_true rfl) ?_
  rintro X F rfl E B hI T
  replace E : JE X RX8 cX8_find 5 d 0 0 := E
  show J X _ [MGA X.1 m th (tape, us, np, nb, out, cd, pl) pm, F] 0 0 0 [some (.ref m), some (.int v), some (.int c), none, none] []
  refine mga_open (by repeat (first | with_reducible exact pick_0 | with_reducible apply pick_s)) ?_
  intro r pkd cm fu op at_ bgc got pr pg zs R mk gs hS
  dsimp only [MGL, List.cons_append, List.nil_append]
  obtain ⟨hgd, hRl, hmk, hpg⟩ := hS
  dsimp only at hgd hRl
  refine j_know (pick_know (P := TB X.1 r us zs R nb mk) (by repeat (first | with_reducible exact pick_0 | with_reducible apply pick_s)) tb_know) (fun hk9 => ?_)
  refine j_know (pick_know (P := BA X.1 (r 1) tape) (by repeat (first | with_reducible exact pick_0 | with_reducible apply pick_s)) ba_know) (fun hbl => ?_)
  refine j_know (pick_know (P := BA X.1 (r 3) out) (by repeat (first | with_reducible exact pick_0 | with_reducible apply pick_s)) ba_know) (fun hbo => ?_)
  unfold mgo at B
  have bad : (¬ inB v us.length = true ∨ ¬ inB c us.length = true) → J X 5 [MF m r th (nI tape.length) (nI out.length) (nI us.length) (nI R.length) (nI nb) pkd (nI pg) cm fu op (nI cd) (nI pl) at_ bgc got pr, BA X.1 (r 1) tape, BA X.1 (r 3) out, BA X.1 (r 18) [], BA X.1 (r 19) [], TB X.1 r us zs R nb mk, GS X.1 r gs, OD X.1 r [], PL X.1 r [], F] 0 0 17 [some (.ref m), some (.int v), some (.int c), none, none] [.ref m] := by
    intro hn
    rw [show sFind v c (tape, us, np, nb, out, cd, pl) = (1, 0, (tape, us, np, nb, out, cd, pl)) from if_pos hn] at B
    dsimp only at B
    refine j_iconst E (1) 18 dX8_find_17 (by decide) rfl ?_
    refine j_goto E 53 dX8_find_18 (by decide) ?_
    refine j_putf E 56 dX8_find_53 fl_X8_71 (by repeat (first | with_reducible exact pick_0 | with_reducible apply pick_s)) rfl rfl (Nat.le_of_ble_eq_true rfl) rfl ?_
    dsimp only [List.set]
    refine j_aload_n E 57 dX8_find_56 0 rfl rfl rfl ?_
    refine j_getf E 60 dX8_find_57 fl_X8_71 (by repeat (first | with_reducible exact pick_0 | with_reducible apply pick_s)) (by rfl) rfl ?_
    refine j_if_le E 65 63 dX8_find_60 (by decide) rfl (fun h60 => ?_) (fun h60 => ?_)
    · exact absurd h60 (by decide)
    · refine j_iconst E (0) 64 dX8_find_63 (by decide) rfl ?_
      refine mga_close r 1 np cd pl pg (pm + 3001) (by repeat (first | with_reducible exact pick_0 | with_reducible apply pick_s | exact sel_0 | apply sel_s)) ?_ ⟨hgd, hRl, hmk, by omega⟩ ?_
      · exact ⟨rfl, rfl, rfl, rfl, rfl, rfl, rfl, rfl, rfl⟩
      · exact j_iret E B rfl 0 0 dX8_find_64 (by repeat (first | with_reducible exact pick_0 | with_reducible apply pick_s | exact sel_0 | apply sel_s)) ⟨rfl, rfl, rfl, rfl⟩ (by omega) (by omega) (by omega) (by omega)
  refine j_aload_n E 1 dX8_find_0 0 rfl rfl rfl ?_
  refine j_aload_n E 2 dX8_find_1 0 rfl rfl rfl ?_
  refine j_iload_n E 3 dX8_find_2 1 rfl rfl rfl ?_
  refine j_callV E (c_m_isValue hG (d-1) m r v us.length hk9.2.2.1) 6 dX8_find_3 _ _ _ iv_X8_131 rfl rfl rfl (by repeat (first | with_reducible exact pick_0 | with_reducible apply pick_s | exact sel_0 | apply sel_s)) (by omega) (by omega) (by omega) (Nat.le_of_ble_eq_true rfl) rfl ?_
  rintro _ _ _ _ ⟨rfl, rfl, rfl, rfl⟩
  dsimp only [List.cons_append, List.nil_append, Option.toList]
  rcases hin : inB v us.length with _ | _
  · refine j_if_eq E 17 9 dX8_find_6 (by decide) rfl (fun h6 => ?_) (fun h6 => ?_)
    · exact bad (Or.inl (by rw [hin]; decide))
    · exact absurd rfl h6
  · refine j_if_eq E 17 9 dX8_find_6 (by decide) rfl (fun h6 => ?_) (fun h6 => ?_)
    · exact absurd h6 (by decide)
    · refine j_aload_n E 10 dX8_find_9 0 rfl rfl rfl ?_
      refine j_iload_n E 11 dX8_find_10 2 rfl rfl rfl ?_
      refine j_callV E (c_m_isValue hG (d-1) m r c us.length hk9.2.2.1) 14 dX8_find_11 _ _ _ iv_X8_131 rfl rfl rfl (by repeat (first | with_reducible exact pick_0 | with_reducible apply pick_s | exact sel_0 | apply sel_s)) (by omega) (by omega) (by omega) (Nat.le_of_ble_eq_true rfl) rfl ?_
      rintro _ _ _ _ ⟨rfl, rfl, rfl, rfl⟩
      dsimp only [List.cons_append, List.nil_append, Option.toList]
      rcases hin2 : inB c us.length with _ | _
      · refine j_if_ne E 21 17 dX8_find_14 (by decide) rfl (fun h14 => ?_) (fun h14 => ?_)
        · exact absurd rfl h14
        · exact bad (Or.inr (by rw [hin2]; decide))
      · refine j_if_ne E 21 17 dX8_find_14 (by decide) rfl (fun h14 => ?_) (fun h14 => ?_)
        · obtain ⟨j, hj, rfl⟩ := inB_t (by omega) hin
          obtain ⟨y, hy, rfl⟩ := inB_t (by omega) hin2
          have hcl : (nI j).toNatClampNeg = j := nI_clamp (by omega)
          have hcl2 : (nI y).toNatClampNeg = y := nI_clamp (by omega)
          obtain ⟨V, hV⟩ : ∃ V, V = vAt us j := ⟨_, rfl⟩
          have hvt := aok_at hok hj
          dsimp only at hvt
          rw [← hV] at hvt
          have hpt := (hgd j hj).2
          rw [← hV] at hpt
          have hnp6 := hok.2.2.1
          dsimp only at hnp6
          have hgood := good_of hgd hok
          have hk10 := hvt.1
          have e2 : ¬ V.1 = 8 → sFind (nI j) (nI y) (tape, us, np, nb, out, cd, pl) = (2, 0, (tape, us, np, nb, out, cd, pl)) := fun q => by
            unfold sFind
            dsimp only
            rw [if_neg (by rw [hin, hin2]; decide), hcl, ← hV, if_pos q]
          have e3 : V.1 = 8 → packU us 65536 y = none → sFind (nI j) (nI y) (tape, us, np, nb, out, cd, pl) = (3, 0, (tape, us, np, nb, out, cd, pl)) := fun q hp => by
            unfold sFind
            dsimp only
            rw [if_neg (by rw [hin, hin2]; decide), hcl, hcl2, ← hV, if_neg (fun z => z q), hp]
          have e4 : V.1 = 8 → ∀ p, packU us 65536 y = some p → sFind (nI j) (nI y) (tape, us, np, nb, out, cd, pl) = (0, findV us p V.2.2.2.2, (tape, us, np, nb, out, cd, pl)) := fun q p hp => by
            unfold sFind
            dsimp only
            rw [if_neg (by rw [hin, hin2]; decide), hcl, hcl2, ← hV, if_neg (fun z => z q), hp]
          refine j_aload_n E 22 dX8_find_21 0 rfl rfl rfl ?_
          refine j_getf E 25 dX8_find_22 fl_X8_17 (by repeat (first | with_reducible exact pick_0 | with_reducible apply pick_s)) (by rfl) rfl ?_
          refine j_iload_n E 26 dX8_find_25 1 rfl rfl rfl ?_
          refine j_tbK E 27 dX8_find_26 (by repeat (first | with_reducible exact pick_0 | with_reducible apply pick_s)) hj rfl ?_
          rw [← hV]
          refine j_bipush E (8) 29 dX8_find_27 (by decide) rfl ?_
          refine j_icmp_eq E 36 32 dX8_find_29 (by decide) rfl (fun h29 => ?_) (fun h29 => ?_)
          · have q8 : V.1 = 8 := (nI_eq (b := 8) (by omega) (by decide)).mp h29
            refine j_close (by repeat (first | with_reducible exact pick_0 | with_reducible apply pick_s | exact sel_0 | apply sel_s)) (P := BF X.1 (r 18) (some [])) (qs := [BA X.1 (r 18) []]) ba_bf ?_
            refine j_aload_n E 37 dX8_find_36 0 rfl rfl rfl ?_
            refine j_aload_n E 38 dX8_find_37 0 rfl rfl rfl ?_
            refine j_getf E 41 dX8_find_38 fl_X8_50 (by repeat (first | with_reducible exact pick_0 | with_reducible apply pick_s)) (by rfl) rfl ?_
            refine j_iload_n E 42 dX8_find_41 2 rfl rfl rfl ?_
            refine j_callV E (c_m_pack hG (d-1) m r pg (pg + 1) (r 18) y us zs R nb mk (by omega) hy hgood (fun t _ => hmk t) rfl (by omega)) 45 dX8_find_42 _ _ _ iv_X8_260 rfl rfl rfl (by repeat (first | with_reducible exact pick_0 | with_reducible apply pick_s | exact sel_0 | apply sel_s)) (by omega) (by omega) (by omega) (Nat.le_of_ble_eq_true rfl) rfl ?_
            rintro o dc ds ws' ⟨rfl, rfl, rfl, st, cm1, op1, come, s1, mk1, hst, hmk1, rfl⟩
            dsimp only [List.cons_append, List.nil_append, Option.toList]
            refine j_close (by repeat (first | with_reducible exact pick_0 | with_reducible apply pick_s | exact sel_0 | apply sel_s)) (P := OD X.1 r []) (qs := [OD X.1 r come]) od_weak ?_
            refine j_close (by repeat (first | with_reducible exact pick_0 | with_reducible apply pick_s | exact sel_0 | apply sel_s)) (P := PL X.1 r []) (qs := [PL X.1 r s1]) pl_weak ?_
            rcases hp : packU us 65536 y with _ | p
            · rw [e3 q8 hp] at B
              dsimp only at B
              rw [show soI (none : Option (List UInt8)) = 0 from rfl]
              refine j_close (by repeat (first | with_reducible exact pick_0 | with_reducible apply pick_s | exact sel_0 | apply sel_s)) (P := BA X.1 (r 18) []) (qs := [BF X.1 (r 18) st]) bf_ba0 ?_
              refine j_tbmk (fun t => if t < us.length then mk1 t else 0) (by repeat (first | with_reducible exact pick_0 | with_reducible apply pick_s)) (fun t ht => if_pos ht) ?_
              have hmk4 : ∀ t, (if t < us.length then mk1 t else 0) ≤ pg + 1 := fun t => by
                by_cases q : t < us.length
                · rw [if_pos q]
                  exact hmk1 t q
                · rw [if_neg q]
                  exact Nat.zero_le _
              refine j_if_ne E 52 48 dX8_find_45 (by decide) rfl (fun h45 => ?_) (fun h45 => ?_)
              · exact absurd rfl h45
              · refine j_iconst E (3) 49 dX8_find_48 (by decide) rfl ?_
                refine j_goto E 53 dX8_find_49 (by decide) ?_
                refine j_putf E 56 dX8_find_53 fl_X8_71 (by repeat (first | with_reducible exact pick_0 | with_reducible apply pick_s)) rfl rfl (Nat.le_of_ble_eq_true rfl) rfl ?_
                dsimp only [List.set]
                refine j_aload_n E 57 dX8_find_56 0 rfl rfl rfl ?_
                refine j_getf E 60 dX8_find_57 fl_X8_71 (by repeat (first | with_reducible exact pick_0 | with_reducible apply pick_s)) (by rfl) rfl ?_
                refine j_if_le E 65 63 dX8_find_60 (by decide) rfl (fun h60 => ?_) (fun h60 => ?_)
                · exact absurd h60 (by decide)
                · refine j_iconst E (0) 64 dX8_find_63 (by decide) rfl ?_
                  refine mga_close r 3 np cd pl (pg + 1) (pm + 3001) (by repeat (first | with_reducible exact pick_0 | with_reducible apply pick_s | exact sel_0 | apply sel_s)) ?_ ⟨hgd, hRl, hmk4, by omega⟩ ?_
                  · exact ⟨rfl, rfl, rfl, rfl, rfl, rfl, rfl, rfl, rfl⟩
                  · exact j_iret E B rfl 0 0 dX8_find_64 (by repeat (first | with_reducible exact pick_0 | with_reducible apply pick_s | exact sel_0 | apply sel_s)) ⟨rfl, rfl, rfl, rfl⟩ (by omega) (by omega) (by omega) (by omega)
            · have hs9 := hst p hp
              subst hs9
              rw [e4 q8 p hp] at B
              dsimp only at B
              rw [show soI (some p) = 1 from rfl]
              refine j_close (by repeat (first | with_reducible exact pick_0 | with_reducible apply pick_s | exact sel_0 | apply sel_s)) (P := BA X.1 (r 18) p) (qs := [BF X.1 (r 18) (some p)]) bf_ba ?_
              refine j_close (by repeat (first | with_reducible exact pick_0 | with_reducible apply pick_s | exact sel_0 | apply sel_s)) (P := BF X.1 (r 19) (some [])) (qs := [BA X.1 (r 19) []]) ba_bf ?_
              obtain ⟨RES, hRES⟩ : ∃ RES, RES = findV us p V.2.2.2.2 := ⟨_, rfl⟩
              rw [← hRES] at B
              have loop : ∀ (n : Nat) (ps : List Nat) (oo : Option Nat) (pgc : Nat) (mkc : Nat → Nat) (pk1 cm1 fu1 op1 : Int32), ps.length = 2 * n → Chn R j oo ps → (∀ x ∈ ps, x < us.length) → pgc + n ≤ pg + 3001 → pg < pgc → (∀ t, t < us.length → mkc t ≤ pgc) → RES = findV us p ps → J X 5 [MF m r 0 (nI tape.length) (nI out.length) (nI us.length) (nI R.length) (nI nb) pk1 (nI pgc) cm1 fu1 op1 (nI cd) (nI pl) at_ bgc got pr, BA X.1 (r 1) tape, BA X.1 (r 3) out, BA X.1 (r 18) p, BF X.1 (r 19) (some []), TB X.1 r us zs R nb mkc, GS X.1 r gs, OD X.1 r [], PL X.1 r [], F] 0 0 78 [some (.ref m), some (.int (nI j)), some (.int (nI y)), some (.int (nI p.length)), some (.int (oI oo))] [] := by
                intro n
                induction n with
                | zero =>
                  intro ps oo pgc mkc pk1 cm1 fu1 op1 hl hch hlt hpg1 hpg2 hmkc hr
                  have hnil : ps = [] := List.length_eq_zero_iff.mp (by omega)
                  subst hnil
                  have ho : oo = none := by
                    rcases oo with _ | kk
                    · rfl
                    · exact hch.elim
                  subst ho
                  rw [show RES = -1 from hr] at B
                  refine j_iload E 80 dX8_find_78 rfl rfl ?_
                  refine j_if_lt E 143 83 dX8_find_80 (by decide) rfl (fun h80 => ?_) (fun h80 => ?_)
                  · refine j_close (by repeat (first | with_reducible exact pick_0 | with_reducible apply pick_s | exact sel_0 | apply sel_s)) (P := BA X.1 (r 18) []) (qs := [BA X.1 (r 18) p]) ba_0 ?_
                    refine j_close (by repeat (first | with_reducible exact pick_0 | with_reducible apply pick_s | exact sel_0 | apply sel_s)) (P := BA X.1 (r 19) []) (qs := [BF X.1 (r 19) (some [])]) bf_ba0 ?_
                    refine j_tbmk (fun t => if t < us.length then mkc t else 0) (by repeat (first | with_reducible exact pick_0 | with_reducible apply pick_s)) (fun t ht => if_pos ht) ?_
                    have hmk4 : ∀ t, (if t < us.length then mkc t else 0) ≤ pgc := fun t => by
                      by_cases q : t < us.length
                      · rw [if_pos q]
                        exact hmkc t q
                      · rw [if_neg q]
                        exact Nat.zero_le _
                    refine j_iconst E (-1) 144 dX8_find_143 (by decide) rfl ?_
                    refine mga_close r 0 np cd pl pgc (pm + 3001) (by repeat (first | with_reducible exact pick_0 | with_reducible apply pick_s | exact sel_0 | apply sel_s)) ?_ ⟨hgd, hRl, hmk4, by omega⟩ ?_
                    · exact ⟨rfl, rfl, rfl, rfl, rfl, rfl, rfl, rfl, rfl⟩
                    · exact j_iret E B rfl 0 0 dX8_find_144 (by repeat (first | with_reducible exact pick_0 | with_reducible apply pick_s | exact sel_0 | apply sel_s)) ⟨rfl, rfl, rfl, rfl⟩ (by omega) (by omega) (by omega) (by omega)
                  · exact absurd (show oI none < 0 by decide) h80
                | succ n ih =>
                  intro ps oo pgc mkc pk1 cm1 fu1 op1 hl hch hlt hpg1 hpg2 hmkc hr
                  rcases ps with _ | ⟨c1, ps⟩
                  · rw [List.length_nil] at hl
                    omega
                  rcases ps with _ | ⟨v1, ps⟩
                  · rw [List.length_singleton] at hl
                    omega
                  rcases oo with _ | kk
                  · exact hch.elim
                  obtain ⟨a1, a2, a3, a4⟩ := hch
                  rcases hk2 : lkN R kk with _ | k2
                  · rw [hk2] at a4
                    exact a4.elim
                  rw [hk2] at a4
                  obtain ⟨b1, b2, b3, b4⟩ := a4
                  rw [List.length_cons, List.length_cons] at hl
                  refine j_iload E 80 dX8_find_78 rfl rfl ?_
                  refine j_if_lt E 143 83 dX8_find_80 (by decide) rfl (fun h80 => ?_) (fun h80 => ?_)
                  · exact absurd h80 (show ¬ nI kk < 0 from nI_pos (by omega))
                  · have hc1 : c1 < us.length := hlt c1 List.mem_cons_self
                    refine j_aload_n E 84 dX8_find_83 0 rfl rfl rfl ?_
                    refine j_aload_n E 85 dX8_find_84 0 rfl rfl rfl ?_
                    refine j_getf E 88 dX8_find_85 fl_X8_53 (by repeat (first | with_reducible exact pick_0 | with_reducible apply pick_s)) (by rfl) rfl ?_
                    refine j_aload_n E 89 dX8_find_88 0 rfl rfl rfl ?_
                    refine j_getf E 92 dX8_find_89 fl_X8_41 (by repeat (first | with_reducible exact pick_0 | with_reducible apply pick_s)) (by rfl) rfl ?_
                    refine j_iload E 94 dX8_find_92 rfl rfl ?_
                    refine j_tbLK E 95 dX8_find_94 (by repeat (first | with_reducible exact pick_0 | with_reducible apply pick_s)) a1 rfl ?_
                    rw [a3]
                    refine j_callV E (c_m_pack hG (d-1) m r pgc (pgc + 1) (r 19) c1 us zs R nb mkc (by omega) hc1 hgood hmkc rfl (by omega)) 98 dX8_find_95 _ _ _ iv_X8_260 rfl rfl rfl (by repeat (first | with_reducible exact pick_0 | with_reducible apply pick_s | exact sel_0 | apply sel_s)) (by omega) (by omega) (by omega) (Nat.le_of_ble_eq_true rfl) rfl ?_
                    rintro o dc ds ws' ⟨rfl, rfl, rfl, st2, cm2, op2, come2, s2, mk2, hst2, hmk2, rfl⟩
                    dsimp only [List.cons_append, List.nil_append, Option.toList]
                    refine j_close (by repeat (first | with_reducible exact pick_0 | with_reducible apply pick_s | exact sel_0 | apply sel_s)) (P := OD X.1 r []) (qs := [OD X.1 r come2]) od_weak ?_
                    refine j_close (by repeat (first | with_reducible exact pick_0 | with_reducible apply pick_s | exact sel_0 | apply sel_s)) (P := PL X.1 r []) (qs := [PL X.1 r s2]) pl_weak ?_
                    have at126 : ∀ (pk3 fu3 : Int32), ¬ packU us 65536 c1 = some p → J X 5 [MF m r 0 (nI tape.length) (nI out.length) (nI us.length) (nI R.length) (nI nb) pk3 (nI (pgc + 1)) cm2 fu3 op2 (nI cd) (nI pl) at_ bgc got pr, BA X.1 (r 1) tape, BA X.1 (r 3) out, BA X.1 (r 18) p, BF X.1 (r 19) (some []), TB X.1 r us zs R nb mk2, GS X.1 r gs, OD X.1 r [], PL X.1 r [], F] 0 0 126 [some (.ref m), some (.int (nI j)), some (.int (nI y)), some (.int (nI p.length)), some (.int (oI (some kk)))] [] := by
                      intro pk3 fu3 hno
                      refine j_aload_n E 127 dX8_find_126 0 rfl rfl rfl ?_
                      refine j_getf E 130 dX8_find_127 fl_X8_44 (by repeat (first | with_reducible exact pick_0 | with_reducible apply pick_s)) (by rfl) rfl ?_
                      refine j_aload_n E 131 dX8_find_130 0 rfl rfl rfl ?_
                      refine j_getf E 134 dX8_find_131 fl_X8_44 (by repeat (first | with_reducible exact pick_0 | with_reducible apply pick_s)) (by rfl) rfl ?_
                      refine j_iload E 136 dX8_find_134 rfl rfl ?_
                      refine j_tbNX E 137 dX8_find_136 (by repeat (first | with_reducible exact pick_0 | with_reducible apply pick_s)) a1 rfl ?_
                      rw [hk2]
                      refine j_tbNX E 138 dX8_find_137 (by repeat (first | with_reducible exact pick_0 | with_reducible apply pick_s)) b1 rfl ?_
                      refine j_istore E 140 dX8_find_138 (Nat.le_of_ble_eq_true rfl) rfl rfl ?_
                      dsimp only [List.set]
                      refine j_goto E 78 dX8_find_140 (by decide) ?_
                      exact j_sel (by repeat (first | with_reducible exact pick_0 | with_reducible apply pick_s | exact sel_0 | apply sel_s)) (ih ps (lkN R k2) (pgc + 1) mk2 pk3 cm2 fu3 op2 (by omega) b4 (fun x hx => hlt x (List.mem_cons_of_mem _ (List.mem_cons_of_mem _ hx))) (by omega) (by omega) hmk2 (by rw [hr, findV, if_neg hno]))
                    rcases hq : packU us 65536 c1 with _ | q
                    · rw [show soI (none : Option (List UInt8)) = 0 from rfl]
                      refine j_close (by repeat (first | with_reducible exact pick_0 | with_reducible apply pick_s | exact sel_0 | apply sel_s)) (P := BA X.1 (r 19) []) (qs := [BF X.1 (r 19) st2]) bf_ba0 ?_
                      refine j_close (by repeat (first | with_reducible exact pick_0 | with_reducible apply pick_s | exact sel_0 | apply sel_s)) (P := BF X.1 (r 19) (some [])) (qs := [BA X.1 (r 19) []]) ba_bf ?_
                      refine j_if_eq E 126 101 dX8_find_98 (by decide) rfl (fun h98 => ?_) (fun h98 => ?_)
                      · exact j_sel (by repeat (first | with_reducible exact pick_0 | with_reducible apply pick_s | exact sel_0 | apply sel_s)) (at126 _ _ (by rw [hq]; exact fun z => by cases z))
                      · exact absurd rfl h98
                    · have hs8 := hst2 q hq
                      subst hs8
                      rw [show soI (some q) = 1 from rfl]
                      refine j_close (by repeat (first | with_reducible exact pick_0 | with_reducible apply pick_s | exact sel_0 | apply sel_s)) (P := BA X.1 (r 19) q) (qs := [BF X.1 (r 19) (some q)]) bf_ba ?_
                      refine j_if_eq E 126 101 dX8_find_98 (by decide) rfl (fun h98 => ?_) (fun h98 => ?_)
                      · exact absurd h98 (by decide)
                      · refine j_aload_n E 102 dX8_find_101 0 rfl rfl rfl ?_
                        refine j_iload_n E 103 dX8_find_102 3 rfl rfl rfl ?_
                        refine j_aload_n E 104 dX8_find_103 0 rfl rfl rfl ?_
                        refine j_getf E 107 dX8_find_104 fl_X8_202 (by repeat (first | with_reducible exact pick_0 | with_reducible apply pick_s)) (by rfl) rfl ?_
                        refine j_callV E (c_m_isSame hG (d-1) m r p q) 110 dX8_find_107 _ _ _ iv_X8_266 rfl rfl rfl (by repeat (first | with_reducible exact pick_0 | with_reducible apply pick_s | exact sel_0 | apply sel_s)) (by omega) (by omega) (by omega) (Nat.le_of_ble_eq_true rfl) rfl ?_
                        rintro _ _ _ _ ⟨rfl, rfl, rfl, rfl⟩
                        dsimp only [List.cons_append, List.nil_append, Option.toList]
                        by_cases e : p = q
                        · rw [if_pos e]
                          refine j_if_eq E 126 113 dX8_find_110 (by decide) rfl (fun h110 => ?_) (fun h110 => ?_)
                          · exact absurd h110 (by decide)
                          · refine j_aload_n E 114 dX8_find_113 0 rfl rfl rfl ?_
                            refine j_getf E 117 dX8_find_114 fl_X8_41 (by repeat (first | with_reducible exact pick_0 | with_reducible apply pick_s)) (by rfl) rfl ?_
                            refine j_aload_n E 118 dX8_find_117 0 rfl rfl rfl ?_
                            refine j_getf E 121 dX8_find_118 fl_X8_44 (by repeat (first | with_reducible exact pick_0 | with_reducible apply pick_s)) (by rfl) rfl ?_
                            refine j_iload E 123 dX8_find_121 rfl rfl ?_
                            refine j_tbNX E 124 dX8_find_123 (by repeat (first | with_reducible exact pick_0 | with_reducible apply pick_s)) a1 rfl ?_
                            rw [hk2]
                            refine j_tbLK E 125 dX8_find_124 (by repeat (first | with_reducible exact pick_0 | with_reducible apply pick_s)) b1 rfl ?_
                            rw [b3]
                            rw [show RES = nI v1 by rw [hr, findV, if_pos (by rw [hq, e])]] at B
                            refine j_close (by repeat (first | with_reducible exact pick_0 | with_reducible apply pick_s | exact sel_0 | apply sel_s)) (P := BA X.1 (r 18) []) (qs := [BA X.1 (r 18) p]) ba_0 ?_
                            refine j_close (by repeat (first | with_reducible exact pick_0 | with_reducible apply pick_s | exact sel_0 | apply sel_s)) (P := BA X.1 (r 19) []) (qs := [BA X.1 (r 19) q]) ba_0 ?_
                            refine j_tbmk (fun t => if t < us.length then mk2 t else 0) (by repeat (first | with_reducible exact pick_0 | with_reducible apply pick_s)) (fun t ht => if_pos ht) ?_
                            have hmk4 : ∀ t, (if t < us.length then mk2 t else 0) ≤ pgc + 1 := fun t => by
                              by_cases q : t < us.length
                              · rw [if_pos q]
                                exact hmk2 t q
                              · rw [if_neg q]
                                exact Nat.zero_le _
                            refine mga_close r 0 np cd pl (pgc + 1) (pm + 3001) (by repeat (first | with_reducible exact pick_0 | with_reducible apply pick_s | exact sel_0 | apply sel_s)) ?_ ⟨hgd, hRl, hmk4, by omega⟩ ?_
                            · exact ⟨rfl, rfl, rfl, rfl, rfl, rfl, rfl, rfl, rfl⟩
                            · exact j_iret E B rfl 0 0 dX8_find_125 (by repeat (first | with_reducible exact pick_0 | with_reducible apply pick_s | exact sel_0 | apply sel_s)) ⟨rfl, rfl, rfl, rfl⟩ (by omega) (by omega) (by omega) (by omega)
                        · rw [if_neg e]
                          refine j_close (by repeat (first | with_reducible exact pick_0 | with_reducible apply pick_s | exact sel_0 | apply sel_s)) (P := BF X.1 (r 19) (some [])) (qs := [BA X.1 (r 19) q]) ba_bf ?_
                          refine j_if_eq E 126 113 dX8_find_110 (by decide) rfl (fun h110 => ?_) (fun h110 => ?_)
                          · exact j_sel (by repeat (first | with_reducible exact pick_0 | with_reducible apply pick_s | exact sel_0 | apply sel_s)) (at126 _ _ (by rw [hq]; exact fun z => e (Option.some.inj z).symm))
                          · exact absurd rfl h110
              refine j_if_ne E 52 48 dX8_find_45 (by decide) rfl (fun h45 => ?_) (fun h45 => ?_)
              · refine j_iconst E (0) 53 dX8_find_52 (by decide) rfl ?_
                refine j_putf E 56 dX8_find_53 fl_X8_71 (by repeat (first | with_reducible exact pick_0 | with_reducible apply pick_s)) rfl rfl (Nat.le_of_ble_eq_true rfl) rfl ?_
                dsimp only [List.set]
                refine j_aload_n E 57 dX8_find_56 0 rfl rfl rfl ?_
                refine j_getf E 60 dX8_find_57 fl_X8_71 (by repeat (first | with_reducible exact pick_0 | with_reducible apply pick_s)) (by rfl) rfl ?_
                refine j_if_le E 65 63 dX8_find_60 (by decide) rfl (fun h60 => ?_) (fun h60 => ?_)
                · refine j_aload_n E 66 dX8_find_65 0 rfl rfl rfl ?_
                  refine j_getf E 69 dX8_find_66 fl_X8_202 (by repeat (first | with_reducible exact pick_0 | with_reducible apply pick_s)) (by rfl) rfl ?_
                  refine j_eqi (y := nI p.length) rfl ?_
                  refine j_istore_n E 70 dX8_find_69 3 rfl (Nat.le_of_ble_eq_true rfl) rfl rfl ?_
                  dsimp only [List.set]
                  refine j_aload_n E 71 dX8_find_70 0 rfl rfl rfl ?_
                  refine j_getf E 74 dX8_find_71 fl_X8_32 (by repeat (first | with_reducible exact pick_0 | with_reducible apply pick_s)) (by rfl) rfl ?_
                  refine j_iload_n E 75 dX8_find_74 1 rfl rfl rfl ?_
                  refine j_tbF E 76 dX8_find_75 (by repeat (first | with_reducible exact pick_0 | with_reducible apply pick_s)) hj (by rw [← hV]; exact Or.inr q8) rfl ?_
                  refine j_istore E 78 dX8_find_76 (Nat.le_of_ble_eq_true rfl) rfl rfl ?_
                  dsimp only [List.set]
                  have hch := chn_all R j
                  rw [hpt (Or.inr q8)] at hch
                  have hev := hvt.2.2.2.2.2.2.1 q8
                  have hlp := hvt.2.2.1
                  exact j_sel (by repeat (first | with_reducible exact pick_0 | with_reducible apply pick_s | exact sel_0 | apply sel_s)) (loop (V.2.2.2.2.length / 2) V.2.2.2.2 (lkF R j) (pg + 1) mk1 _ _ _ _ (by omega) hch (fun x hx => hvt.2.2.2.1 x hx) (by omega) (by omega) hmk1 hRES)
                · exact absurd (by decide) h60
              · exact absurd h45 (by decide)
          · have q8 : ¬ V.1 = 8 := fun q => h29 (by rw [q]; rfl)
            rw [e2 q8] at B
            dsimp only at B
            refine j_iconst E (2) 33 dX8_find_32 (by decide) rfl ?_
            refine j_goto E 53 dX8_find_33 (by decide) ?_
            refine j_putf E 56 dX8_find_53 fl_X8_71 (by repeat (first | with_reducible exact pick_0 | with_reducible apply pick_s)) rfl rfl (Nat.le_of_ble_eq_true rfl) rfl ?_
            dsimp only [List.set]
            refine j_aload_n E 57 dX8_find_56 0 rfl rfl rfl ?_
            refine j_getf E 60 dX8_find_57 fl_X8_71 (by repeat (first | with_reducible exact pick_0 | with_reducible apply pick_s)) (by rfl) rfl ?_
            refine j_if_le E 65 63 dX8_find_60 (by decide) rfl (fun h60 => ?_) (fun h60 => ?_)
            · exact absurd h60 (by decide)
            · refine j_iconst E (0) 64 dX8_find_63 (by decide) rfl ?_
              refine mga_close r 2 np cd pl pg (pm + 3001) (by repeat (first | with_reducible exact pick_0 | with_reducible apply pick_s | exact sel_0 | apply sel_s)) ?_ ⟨hgd, hRl, hmk, by omega⟩ ?_
              · exact ⟨rfl, rfl, rfl, rfl, rfl, rfl, rfl, rfl, rfl⟩
              · exact j_iret E B rfl 0 0 dX8_find_64 (by repeat (first | with_reducible exact pick_0 | with_reducible apply pick_s | exact sel_0 | apply sel_s)) ⟨rfl, rfl, rfl, rfl⟩ (by omega) (by omega) (by omega) (by omega)
        · exact absurd h14 (by decide)

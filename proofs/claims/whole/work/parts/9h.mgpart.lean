/-! the model: part -/
set_option maxHeartbeats 8000000 in
theorem c_mg_part {g : GT} (hG : GLB g) (d m : Nat) (th : Int32) (tape : List UInt8) (us : List VT) (np nb : Nat) (out : List UInt8) (cd pl pm : Nat) (v i : Int32) (hok : AOk (tape, us, np, nb, out, cd, pl)) (hd : 3 ≤ d) : CtrV g mX8_part 7 d 0 0 m [.int v, .int i] [MGA g m th (tape, us, np, nb, out, cd, pl) pm] (mgo g m pm (sPart v i (tape, us, np, nb, out, cd, pl))) noX := by
  refine ⟨mga_rcv, ?_⟩
  refine ctr_intro hG (by decide +kernel) (Nat.le_of_ble_eq_true rfl) ?_
  rintro X F rfl E B hI T
  replace E : JE X RX8 cX8_part 6 d 0 0 := E
  show J X _ [MGA X.1 m th (tape, us, np, nb, out, cd, pl) pm, F] 0 0 0 [some (.ref m), some (.int v), some (.int i), none, none, none] []
  refine mga_open (by repeat (first | with_reducible exact pick_0 | with_reducible apply pick_s)) ?_
  intro r pkd cm fu op at_ bgc got pr pg zs R mk gs hS
  dsimp only [MGL, List.cons_append, List.nil_append]
  obtain ⟨hgd, hRl, hmk, hpg⟩ := hS
  dsimp only at hgd hRl
  refine j_know (pick_know (P := TB X.1 r us zs R nb mk) (by repeat (first | with_reducible exact pick_0 | with_reducible apply pick_s)) tb_know) (fun hk9 => ?_)
  refine j_know (pick_know (P := BA X.1 (r 1) tape) (by repeat (first | with_reducible exact pick_0 | with_reducible apply pick_s)) ba_know) (fun hbl => ?_)
  refine j_know (pick_know (P := BA X.1 (r 3) out) (by repeat (first | with_reducible exact pick_0 | with_reducible apply pick_s)) ba_know) (fun hbo => ?_)
  unfold mgo at B
  have bad : ∀ x3 : Int32, sPart v i (tape, us, np, nb, out, cd, pl) = (1, 0, (tape, us, np, nb, out, cd, pl)) → J X 6 [MF m r th (nI tape.length) (nI out.length) (nI us.length) (nI R.length) (nI nb) pkd (nI pg) cm fu op (nI cd) (nI pl) at_ bgc got pr, BA X.1 (r 1) tape, BA X.1 (r 3) out, BA X.1 (r 18) [], BA X.1 (r 19) [], TB X.1 r us zs R nb mk, GS X.1 r gs, OD X.1 r [], PL X.1 r [], F] 0 0 55 [some (.ref m), some (.int v), some (.int i), some (.int x3), none, none] [.ref m] := by
    intro x3 e
    rw [e] at B
    dsimp only at B
    refine j_iconst E (1) 56 dX8_part_55 (by decide) rfl ?_
    refine j_putf E 59 dX8_part_56 fl_X8_71 (by repeat (first | with_reducible exact pick_0 | with_reducible apply pick_s)) rfl rfl (Nat.le_of_ble_eq_true rfl) rfl ?_
    dsimp only [List.set]
    refine j_aload_n E 60 dX8_part_59 0 rfl rfl rfl ?_
    refine j_getf E 63 dX8_part_60 fl_X8_71 (by repeat (first | with_reducible exact pick_0 | with_reducible apply pick_s)) (by rfl) rfl ?_
    refine j_if_le E 68 66 dX8_part_63 (by decide) rfl (fun h63 => ?_) (fun h63 => ?_)
    · exact absurd h63 (by decide)
    · refine j_iconst E (0) 67 dX8_part_66 (by decide) rfl ?_
      refine mga_close r 1 np cd pl pg (pm + 3001) (by repeat (first | with_reducible exact pick_0 | with_reducible apply pick_s | exact sel_0 | apply sel_s)) ?_ ⟨hgd, hRl, hmk, by omega⟩ ?_
      · exact ⟨rfl, rfl, rfl, rfl, rfl, rfl, rfl, rfl, rfl⟩
      · exact j_iret E B rfl 0 0 dX8_part_67 (by repeat (first | with_reducible exact pick_0 | with_reducible apply pick_s | exact sel_0 | apply sel_s)) ⟨rfl, rfl, rfl, rfl⟩ (by omega) (by omega) (by omega) (by omega)
  refine j_aload_n E 1 dX8_part_0 0 rfl rfl rfl ?_
  refine j_iload_n E 2 dX8_part_1 1 rfl rfl rfl ?_
  refine j_callV E (c_m_isValue hG (d-1) m r v us.length hk9.2.2.1) 5 dX8_part_2 _ _ _ iv_X8_131 rfl rfl rfl (by repeat (first | with_reducible exact pick_0 | with_reducible apply pick_s | exact sel_0 | apply sel_s)) (by omega) (by omega) (by omega) (Nat.le_of_ble_eq_true rfl) rfl ?_
  rintro _ _ _ _ ⟨rfl, rfl, rfl, rfl⟩
  dsimp only [List.cons_append, List.nil_append, Option.toList]
  rcases hin : inB v us.length with _ | _
  · have e : sPart v i (tape, us, np, nb, out, cd, pl) = (1, 0, (tape, us, np, nb, out, cd, pl)) := if_pos (by dsimp only; rw [hin]; decide)
    refine j_if_ne E 12 8 dX8_part_5 (by decide) rfl (fun h5 => ?_) (fun h5 => ?_)
    · exact absurd rfl h5
    · refine j_iconst E (0) 9 dX8_part_8 (by decide) rfl ?_
      refine j_goto E 40 dX8_part_9 (by decide) ?_
      refine j_istore_n E 41 dX8_part_40 3 rfl (Nat.le_of_ble_eq_true rfl) rfl rfl ?_
      dsimp only [List.set]
      refine j_aload_n E 42 dX8_part_41 0 rfl rfl rfl ?_
      refine j_iload_n E 43 dX8_part_42 2 rfl rfl rfl ?_
      refine j_if_lt E 55 46 dX8_part_43 (by decide) rfl (fun h43 => ?_) (fun h43 => ?_)
      · exact bad _ e
      · refine j_iload_n E 47 dX8_part_46 2 rfl rfl rfl ?_
        refine j_iload_n E 48 dX8_part_47 3 rfl rfl rfl ?_
        refine j_icmp_ge E 55 51 dX8_part_48 (by decide) rfl (fun h48 => ?_) (fun h48 => ?_)
        · exact bad _ e
        · exact absurd (show (0 : Int32) ≤ i by
            rw [fa_lt] at h43
            rw [fa_le]
            omega) h48
  · obtain ⟨j, hj, rfl⟩ := inB_t (by omega) hin
    have hcl : (nI j).toNatClampNeg = j := nI_clamp (by omega)
    obtain ⟨V, hV⟩ : ∃ V, V = vAt us j := ⟨_, rfl⟩
    have hvt := aok_at hok hj
    dsimp only at hvt
    rw [← hV] at hvt
    have hz := (hgd j hj).1
    have hpt := (hgd j hj).2
    rw [← hV] at hz hpt
    have hk10 := hvt.1
    have hnp6 := hok.2.2.1
    dsimp only at hnp6
    obtain ⟨n, hn⟩ : ∃ n, n = V.2.2.2.1.length + V.2.2.2.2.length := ⟨_, rfl⟩
    have hn3 : n ≤ 100000 := by
      have := hvt.2.1
      have := hvt.2.2.1
      omega
    have hcs : (V.1 = 7 ∨ V.1 = 8) → V.2.2.2.1 = [] := fun q => hvt.2.2.2.2.1 (by omega)
    have hps : ¬ (V.1 = 7 ∨ V.1 = 8) → V.2.2.2.2 = [] := hvt.2.2.2.2.2.1
    have e0 : inB i n = false → sPart (nI j) i (tape, us, np, nb, out, cd, pl) = (1, 0, (tape, us, np, nb, out, cd, pl)) := fun q => by
      have q1 : ¬ inB i V.2.2.2.1.length = true := fun y => by
        by_cases g : V.1 = 7 ∨ V.1 = 8
        · rw [hcs g] at y
          obtain ⟨t, ht, -⟩ := inB_t (by decide) y
          exact absurd ht (Nat.not_lt_zero _)
        · rw [hn, hps g, List.length_nil, Nat.add_zero] at q
          rw [q] at y
          exact absurd y (by decide)
      have q2 : ¬ inB i V.2.2.2.2.length = true := fun y => by
        by_cases g : V.1 = 7 ∨ V.1 = 8
        · rw [hn, hcs g, List.length_nil, Nat.zero_add] at q
          rw [q] at y
          exact absurd y (by decide)
        · rw [hps g] at y
          obtain ⟨t, ht, -⟩ := inB_t (by decide) y
          exact absurd ht (Nat.not_lt_zero _)
      unfold sPart
      dsimp only
      rw [if_neg (by rw [hin]; decide), hcl, ← hV, if_neg q1, if_neg q2]
    have at41 : J X 6 [MF m r th (nI tape.length) (nI out.length) (nI us.length) (nI R.length) (nI nb) pkd (nI pg) cm fu op (nI cd) (nI pl) at_ bgc got pr, BA X.1 (r 1) tape, BA X.1 (r 3) out, BA X.1 (r 18) [], BA X.1 (r 19) [], TB X.1 r us zs R nb mk, GS X.1 r gs, OD X.1 r [], PL X.1 r [], F] 0 0 41 [some (.ref m), some (.int (nI j)), some (.int i), some (.int (nI n)), none, none] [] := by
      have hLp : j < us.length := hj
      rcases hi : inB i n with _ | _
      · refine j_aload_n E 42 dX8_part_41 0 rfl rfl rfl ?_
        refine j_iload_n E 43 dX8_part_42 2 rfl rfl rfl ?_
        refine j_if_lt E 55 46 dX8_part_43 (by decide) rfl (fun h43 => ?_) (fun h43 => ?_)
        · exact bad _ (e0 hi)
        · refine j_iload_n E 47 dX8_part_46 2 rfl rfl rfl ?_
          refine j_iload_n E 48 dX8_part_47 3 rfl rfl rfl ?_
          refine j_icmp_ge E 55 51 dX8_part_48 (by decide) rfl (fun h48 => ?_) (fun h48 => ?_)
          · exact bad _ (e0 hi)
          · exfalso
            have h9 : inB i n = true := by
              rw [inB, decide_eq_true h43, decide_eq_true (Int32.not_le.mp h48)]
              rfl
            rw [hi] at h9
            cases h9
      · obtain ⟨t, ht, rfl⟩ := inB_t (by omega) hi
        have hct : (nI t).toNatClampNeg = t := nI_clamp (by omega)
        refine j_aload_n E 42 dX8_part_41 0 rfl rfl rfl ?_
        refine j_iload_n E 43 dX8_part_42 2 rfl rfl rfl ?_
        refine j_if_lt E 55 46 dX8_part_43 (by decide) rfl (fun h43 => ?_) (fun h43 => ?_)
        · exact absurd h43 (nI_pos (by omega))
        · refine j_iload_n E 47 dX8_part_46 2 rfl rfl rfl ?_
          refine j_iload_n E 48 dX8_part_47 3 rfl rfl rfl ?_
          refine j_icmp_ge E 55 51 dX8_part_48 (by decide) rfl (fun h48 => ?_) (fun h48 => ?_)
          · exact absurd h48 (nI_ge ht (by omega))
          · refine j_iconst E (0) 52 dX8_part_51 (by decide) rfl ?_
            refine j_goto E 56 dX8_part_52 (by decide) ?_
            refine j_putf E 59 dX8_part_56 fl_X8_71 (by repeat (first | with_reducible exact pick_0 | with_reducible apply pick_s)) rfl rfl (Nat.le_of_ble_eq_true rfl) rfl ?_
            dsimp only [List.set]
            refine j_aload_n E 60 dX8_part_59 0 rfl rfl rfl ?_
            refine j_getf E 63 dX8_part_60 fl_X8_71 (by repeat (first | with_reducible exact pick_0 | with_reducible apply pick_s)) (by rfl) rfl ?_
            refine j_if_le E 68 66 dX8_part_63 (by decide) rfl (fun h63 => ?_) (fun h63 => ?_)
            · refine j_aload_n E 69 dX8_part_68 0 rfl rfl rfl ?_
              refine j_getf E 72 dX8_part_69 fl_X8_17 (by repeat (first | with_reducible exact pick_0 | with_reducible apply pick_s)) (by rfl) rfl ?_
              refine j_iload_n E 73 dX8_part_72 1 rfl rfl rfl ?_
              refine j_tbK E 74 dX8_part_73 (by repeat (first | with_reducible exact pick_0 | with_reducible apply pick_s)) hj rfl ?_
              rw [← hV]
              refine j_callS E (c_m_isGroup hG (d-1) (nI V.1)) 77 dX8_part_74 iv_X8_100 rfl rfl (by repeat (first | with_reducible exact pick_0 | with_reducible apply pick_s | exact sel_0 | apply sel_s)) (by omega) (by omega) (by omega) (Nat.le_of_ble_eq_true rfl) rfl ?_
              rintro _ _ _ _ ⟨rfl, rfl, rfl, rfl⟩
              dsimp only [List.cons_append, List.nil_append, Option.toList]
              by_cases hg : V.1 = 7 ∨ V.1 = 8
              · rw [if_pos (show nI V.1 = 7 ∨ nI V.1 = 8 from hg.elim (fun q => Or.inl (by rw [q]; rfl)) (fun q => Or.inr (by rw [q]; rfl)))]
                have htp : t < V.2.2.2.2.length := by
                  rw [hn, hcs hg, List.length_nil, Nat.zero_add] at ht
                  exact ht
                have e : sPart (nI j) (nI t) (tape, us, np, nb, out, cd, pl) = (0, nI (V.2.2.2.2.getD t 0), (tape, us, np, nb, out, cd, pl)) := by
                  unfold sPart
                  dsimp only
                  rw [if_neg (by rw [hin]; decide), hcl, hct, ← hV, if_neg (by rw [hcs hg, inB_nI (by omega) (by decide)]; exact fun y => absurd (of_decide_eq_true y) (Nat.not_lt_zero _)), if_pos (by rw [inB_nI (by omega) (by omega)]; exact decide_eq_true htp)]
                rw [e] at B
                dsimp only at B
                refine j_if_ne E 98 80 dX8_part_77 (by decide) rfl (fun h77 => ?_) (fun h77 => ?_)
                · refine j_aload_n E 99 dX8_part_98 0 rfl rfl rfl ?_
                  refine j_getf E 102 dX8_part_99 fl_X8_32 (by repeat (first | with_reducible exact pick_0 | with_reducible apply pick_s)) (by rfl) rfl ?_
                  refine j_iload_n E 103 dX8_part_102 1 rfl rfl rfl ?_
                  refine j_tbF E 104 dX8_part_103 (by repeat (first | with_reducible exact pick_0 | with_reducible apply pick_s)) hj (by rw [← hV]; exact hg) rfl ?_
                  refine j_istore E 106 dX8_part_104 (Nat.le_of_ble_eq_true rfl) rfl rfl ?_
                  dsimp only [List.set]
                  refine j_iconst E (0) 107 dX8_part_106 (by decide) rfl ?_
                  refine j_istore E 109 dX8_part_107 (Nat.le_of_ble_eq_true rfl) rfl rfl ?_
                  dsimp only [List.set]
                  have loop : ∀ (q k : Nat) (oo : Option Nat) (ps : List Nat), k + q = t → Chn R j oo ps → ps = V.2.2.2.2.drop k → J X 6 [MF m r 0 (nI tape.length) (nI out.length) (nI us.length) (nI R.length) (nI nb) pkd (nI pg) cm fu op (nI cd) (nI pl) at_ bgc got pr, BA X.1 (r 1) tape, BA X.1 (r 3) out, BA X.1 (r 18) [], BA X.1 (r 19) [], TB X.1 r us zs R nb mk, GS X.1 r gs, OD X.1 r [], PL X.1 r [], F] 0 0 109 [some (.ref m), some (.int (nI j)), some (.int (nI t)), some (.int (nI n)), some (.int (oI oo)), some (.int (nI k))] [] := by
                    intro q
                    induction q with
                    | zero =>
                      intro k oo ps hk hc hd9
                      have hkt : k = t := by omega
                      subst hkt
                      rw [List.drop_eq_getElem_cons htp] at hd9
                      subst hd9
                      rcases oo with _ | kk
                      · exact hc.elim
                      · obtain ⟨c1, c2, c3, c4⟩ := hc
                        refine j_iload E 111 dX8_part_109 rfl rfl ?_
                        refine j_iload_n E 112 dX8_part_111 2 rfl rfl rfl ?_
                        refine j_icmp_ge E 130 115 dX8_part_112 (by decide) rfl (fun h112 => ?_) (fun h112 => ?_)
                        · refine j_aload_n E 131 dX8_part_130 0 rfl rfl rfl ?_
                          refine j_getf E 134 dX8_part_131 fl_X8_41 (by repeat (first | with_reducible exact pick_0 | with_reducible apply pick_s)) (by rfl) rfl ?_
                          refine j_iload E 136 dX8_part_134 rfl rfl ?_
                          refine j_tbLK E 137 dX8_part_136 (by repeat (first | with_reducible exact pick_0 | with_reducible apply pick_s)) c1 rfl ?_
                          refine j_eqi (y := nI (V.2.2.2.2.getD k 0)) (by rw [c3, List.getD_eq_getElem?_getD, List.getElem?_eq_getElem htp]; rfl) ?_
                          refine mga_close r 0 np cd pl pg (pm + 3001) (by repeat (first | with_reducible exact pick_0 | with_reducible apply pick_s | exact sel_0 | apply sel_s)) ?_ ⟨hgd, hRl, hmk, by omega⟩ ?_
                          · exact ⟨rfl, rfl, rfl, rfl, rfl, rfl, rfl, rfl, rfl⟩
                          · exact j_iret E B rfl 0 0 dX8_part_137 (by repeat (first | with_reducible exact pick_0 | with_reducible apply pick_s | exact sel_0 | apply sel_s)) ⟨rfl, rfl, rfl, rfl⟩ (by omega) (by omega) (by omega) (by omega)
                        · exact absurd (nI_le (by omega) (by omega)) h112
                    | succ q ih =>
                      intro k oo ps hk hc hd9
                      have hk2 : k < V.2.2.2.2.length := by omega
                      rw [List.drop_eq_getElem_cons hk2] at hd9
                      subst hd9
                      rcases oo with _ | kk
                      · exact hc.elim
                      · obtain ⟨c1, c2, c3, c4⟩ := hc
                        refine j_iload E 111 dX8_part_109 rfl rfl ?_
                        refine j_iload_n E 112 dX8_part_111 2 rfl rfl rfl ?_
                        refine j_icmp_ge E 130 115 dX8_part_112 (by decide) rfl (fun h112 => ?_) (fun h112 => ?_)
                        · exact absurd h112 (nI_ge (by omega) (by omega))
                        · refine j_aload_n E 116 dX8_part_115 0 rfl rfl rfl ?_
                          refine j_getf E 119 dX8_part_116 fl_X8_44 (by repeat (first | with_reducible exact pick_0 | with_reducible apply pick_s)) (by rfl) rfl ?_
                          refine j_iload E 121 dX8_part_119 rfl rfl ?_
                          refine j_tbNX E 122 dX8_part_121 (by repeat (first | with_reducible exact pick_0 | with_reducible apply pick_s)) c1 rfl ?_
                          refine j_istore E 124 dX8_part_122 (Nat.le_of_ble_eq_true rfl) rfl rfl ?_
                          dsimp only [List.set]
                          refine j_iinc E _ 127 dX8_part_124 rfl rfl (Nat.le_of_ble_eq_true rfl) rfl rfl ?_
                          dsimp only [List.set]
                          refine j_goto E 109 dX8_part_127 (by decide) ?_
                          have hw := ih (k + 1) (lkN R kk) _ (by omega) c4 rfl
                          rw [← nI_1 k] at hw
                          exact j_sel (by repeat (first | with_reducible exact pick_0 | with_reducible apply pick_s | exact sel_0 | apply sel_s)) hw
                  have hch := chn_all R j
                  rw [hpt hg] at hch
                  exact j_sel (by repeat (first | with_reducible exact pick_0 | with_reducible apply pick_s | exact sel_0 | apply sel_s)) (loop t 0 (lkF R j) V.2.2.2.2 (Nat.zero_add _) hch rfl)
                · exact absurd h77 (by decide)
              · rw [if_neg (fun q => hg (q.elim (fun q => Or.inl ((nI_eq (b := 7) (by omega) (by decide)).mp q)) (fun q => Or.inr ((nI_eq (b := 8) (by omega) (by decide)).mp q))))]
                have htc : t < V.2.2.2.1.length := by
                  rw [hn, hps hg, List.length_nil, Nat.add_zero] at ht
                  exact ht
                have e : sPart (nI j) (nI t) (tape, us, np, nb, out, cd, pl) = (0, nI (V.2.2.2.1.getD t 0).toNat, (tape, us, np, nb, out, cd, pl)) := by
                  unfold sPart
                  dsimp only
                  rw [if_neg (by rw [hin]; decide), hcl, hct, ← hV, if_pos (by rw [inB_nI (by omega) (by omega)]; exact decide_eq_true htc)]
                rw [e] at B
                dsimp only at B
                refine j_if_ne E 98 80 dX8_part_77 (by decide) rfl (fun h77 => ?_) (fun h77 => ?_)
                · exact absurd rfl h77
                · refine tb_open (by repeat (first | with_reducible exact pick_0 | with_reducible apply pick_s)) ?_
                  intro fk fn fh fe ff fl fz flk fnx fb fq h
                  dsimp only [List.cons_append, List.nil_append]
                  have hat := (h.at hj).2.2
                  rw [← hV] at hat
                  obtain ⟨o, o1, ⟨o2, -⟩, o3⟩ := hat.resolve_left (fun y => by rw [y] at htc; exact absurd htc (Nat.not_lt_zero _))
                  refine j_aload_n E 81 dX8_part_80 0 rfl rfl rfl ?_
                  refine j_getf E 84 dX8_part_81 fl_X8_47 (by repeat (first | with_reducible exact pick_0 | with_reducible apply pick_s)) (by rfl) rfl ?_
                  refine j_aload_n E 85 dX8_part_84 0 rfl rfl rfl ?_
                  refine j_getf E 88 dX8_part_85 fl_X8_32 (by repeat (first | with_reducible exact pick_0 | with_reducible apply pick_s)) (by rfl) rfl ?_
                  refine j_iload_n E 89 dX8_part_88 1 rfl rfl rfl ?_
                  refine j_iald E 90 dX8_part_89 (by repeat (first | with_reducible exact pick_0 | with_reducible apply pick_s)) (vp_in_nI (by omega) (by omega)) rfl ?_
                  rw [nI_clamp (by omega)]
                  refine j_eqi (y := nI o) o1 ?_
                  refine j_iload_n E 91 dX8_part_90 2 rfl rfl rfl ?_
                  refine j_iadd E 92 dX8_part_91 rfl ?_
                  refine j_eqi (nI_add o t) ?_
                  refine j_bald E 93 dX8_part_92 (by repeat (first | with_reducible exact pick_0 | with_reducible apply pick_s)) (vp_in_nI (by omega) (by omega)) rfl ?_
                  rw [nI_clamp (by omega)]
                  refine j_eqi (y := by8 (V.2.2.2.1.getD t 0)) (o3 t htc) ?_
                  refine j_sipush E (255) 96 dX8_part_93 (by decide) rfl ?_
                  refine j_iand E 97 dX8_part_96 rfl ?_
                  refine j_eqi (by8_and _) ?_
                  refine tb_close us zs R nb mk (by repeat (first | with_reducible exact pick_0 | with_reducible apply pick_s | exact sel_0 | apply sel_s)) h ?_
                  refine mga_close r 0 np cd pl pg (pm + 3001) (by repeat (first | with_reducible exact pick_0 | with_reducible apply pick_s | exact sel_0 | apply sel_s)) ?_ ⟨hgd, hRl, hmk, by omega⟩ ?_
                  · exact ⟨rfl, rfl, rfl, rfl, rfl, rfl, rfl, rfl, rfl⟩
                  · exact j_iret E B rfl 0 0 dX8_part_97 (by repeat (first | with_reducible exact pick_0 | with_reducible apply pick_s | exact sel_0 | apply sel_s)) ⟨rfl, rfl, rfl, rfl⟩ (by omega) (by omega) (by omega) (by omega)
            · exact absurd (by decide) h63
    refine j_if_ne E 12 8 dX8_part_5 (by decide) rfl (fun h5 => ?_) (fun h5 => ?_)
    · refine j_aload_n E 13 dX8_part_12 0 rfl rfl rfl ?_
      refine j_getf E 16 dX8_part_13 fl_X8_17 (by repeat (first | with_reducible exact pick_0 | with_reducible apply pick_s)) (by rfl) rfl ?_
      refine j_iload_n E 17 dX8_part_16 1 rfl rfl rfl ?_
      refine j_tbK E 18 dX8_part_17 (by repeat (first | with_reducible exact pick_0 | with_reducible apply pick_s)) hj rfl ?_
      rw [← hV]
      refine j_bipush E (8) 20 dX8_part_18 (by decide) rfl ?_
      refine j_icmp_ne E 34 23 dX8_part_20 (by decide) rfl (fun h20 => ?_) (fun h20 => ?_)
      · have q8 : ¬ V.1 = 8 := fun q => h20 (by rw [q]; rfl)
        refine j_aload_n E 35 dX8_part_34 0 rfl rfl rfl ?_
        refine j_getf E 38 dX8_part_35 fl_X8_38 (by repeat (first | with_reducible exact pick_0 | with_reducible apply pick_s)) (by rfl) rfl ?_
        refine j_iload_n E 39 dX8_part_38 1 rfl rfl rfl ?_
        refine j_tbZ E 40 dX8_part_39 (by repeat (first | with_reducible exact pick_0 | with_reducible apply pick_s)) hj rfl ?_
        have e : zs.getD j 0 = n := by
          rw [hz, hn, vlen, if_neg q8]
          by_cases q : V.1 = 7
          · rw [if_pos q, hcs (Or.inl q)]
            exact (Nat.zero_add _).symm
          · rw [if_neg q, hps (by omega)]
            rfl
        rw [e]
        refine j_istore_n E 41 dX8_part_40 3 rfl (Nat.le_of_ble_eq_true rfl) rfl rfl ?_
        dsimp only [List.set]
        exact j_sel (by repeat (first | with_reducible exact pick_0 | with_reducible apply pick_s | exact sel_0 | apply sel_s)) at41
      · have q8 : V.1 = 8 := (nI_eq (b := 8) (by omega) (by decide)).mp h20
        refine j_iconst E (2) 24 dX8_part_23 (by decide) rfl ?_
        refine j_aload_n E 25 dX8_part_24 0 rfl rfl rfl ?_
        refine j_getf E 28 dX8_part_25 fl_X8_38 (by repeat (first | with_reducible exact pick_0 | with_reducible apply pick_s)) (by rfl) rfl ?_
        refine j_iload_n E 29 dX8_part_28 1 rfl rfl rfl ?_
        refine j_tbZ E 30 dX8_part_29 (by repeat (first | with_reducible exact pick_0 | with_reducible apply pick_s)) hj rfl ?_
        have e : 2 * zs.getD j 0 = n := by
          have := hvt.2.2.2.2.2.2.1 q8
          rw [hz, hn, vlen, if_pos q8, hcs (Or.inr q8), List.length_nil]
          omega
        refine j_imul E 31 dX8_part_30 rfl ?_
        refine j_eqi (y := nI n) (by rw [← e]; exact (Int32.ofNat_mul 2 _).symm) ?_
        refine j_goto E 40 dX8_part_31 (by decide) ?_
        refine j_istore_n E 41 dX8_part_40 3 rfl (Nat.le_of_ble_eq_true rfl) rfl rfl ?_
        dsimp only [List.set]
        exact j_sel (by repeat (first | with_reducible exact pick_0 | with_reducible apply pick_s | exact sel_0 | apply sel_s)) at41
    · exact absurd h5 (by decide)

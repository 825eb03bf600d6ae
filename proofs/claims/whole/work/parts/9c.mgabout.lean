/-! the model: about -/
set_option maxHeartbeats 8000000 in
theorem c_mg_about {g : GT} (hG : GLB g) (d m : Nat) (th : Int32) (tape : List UInt8) (us : List VT) (np nb : Nat) (out : List UInt8) (cd pl pm : Nat) (v w : Int32) (hok : AOk (tape, us, np, nb, out, cd, pl)) (hpm : pm < 2 ^ 29) (hd : 16 ≤ d) : CtrV g mX8_about 7 d 0 0 m [.int v, .int w] [MGA g m th (tape, us, np, nb, out, cd, pl) pm] (mgo g m pm (sAbout v w (tape, us, np, nb, out, cd, pl))) noX := by
  refine ⟨mga_rcv, ?_⟩
  refine ctr_intro hG (by decide +kernel) (Nat.le_of_ble_eq_true rfl) ?_
  rintro X F rfl E B hI T
  replace E : JE X RX8 cX8_about 3 d 0 0 := E
  show J X _ [MGA X.1 m th (tape, us, np, nb, out, cd, pl) pm, F] 0 0 0 [some (.ref m), some (.int v), some (.int w)] []
  refine mga_open (by repeat (first | with_reducible exact pick_0 | with_reducible apply pick_s)) ?_
  intro r pkd cm fu op at_ bgc got pr pg zs R mk gs hS
  dsimp only [MGL, List.cons_append, List.nil_append]
  obtain ⟨hgd, hRl, hmk, hpg⟩ := hS
  dsimp only at hgd hRl
  refine j_know (pick_know (P := TB X.1 r us zs R nb mk) (by repeat (first | with_reducible exact pick_0 | with_reducible apply pick_s)) tb_know) (fun hk9 => ?_)
  refine j_know (pick_know (P := BA X.1 (r 1) tape) (by repeat (first | with_reducible exact pick_0 | with_reducible apply pick_s)) ba_know) (fun hbl => ?_)
  refine j_know (pick_know (P := BA X.1 (r 3) out) (by repeat (first | with_reducible exact pick_0 | with_reducible apply pick_s)) ba_know) (fun hbo => ?_)
  unfold mgo at B
  refine j_aload_n E 1 dX8_about_0 0 rfl rfl rfl ?_
  refine j_aload_n E 2 dX8_about_1 0 rfl rfl rfl ?_
  refine j_iload_n E 3 dX8_about_2 1 rfl rfl rfl ?_
  refine j_callV E (c_m_isValue hG (d-1) m r v us.length hk9.2.2.1) 6 dX8_about_3 _ _ _ iv_X8_131 rfl rfl rfl (by repeat (first | with_reducible exact pick_0 | with_reducible apply pick_s | exact sel_0 | apply sel_s)) (by omega) (by omega) (by omega) (Nat.le_of_ble_eq_true rfl) rfl ?_
  rintro _ _ _ _ ⟨rfl, rfl, rfl, rfl⟩
  dsimp only [List.cons_append, List.nil_append, Option.toList]
  rcases hin : inB v us.length with _ | _
  · rw [show sAbout v w (tape, us, np, nb, out, cd, pl) = (1, 0, (tape, us, np, nb, out, cd, pl)) from if_pos (by dsimp only; rw [hin]; decide)] at B
    dsimp only at B
    refine j_if_ne E 13 9 dX8_about_6 (by decide) rfl (fun h6 => ?_) (fun h6 => ?_)
    · exact absurd rfl h6
    · refine j_iconst E (1) 10 dX8_about_9 (by decide) rfl ?_
      refine j_goto E 27 dX8_about_10 (by decide) ?_
      refine j_putf E 30 dX8_about_27 fl_X8_71 (by repeat (first | with_reducible exact pick_0 | with_reducible apply pick_s)) rfl rfl (Nat.le_of_ble_eq_true rfl) rfl ?_
      dsimp only [List.set]
      refine j_aload_n E 31 dX8_about_30 0 rfl rfl rfl ?_
      refine j_getf E 34 dX8_about_31 fl_X8_71 (by repeat (first | with_reducible exact pick_0 | with_reducible apply pick_s)) (by rfl) rfl ?_
      refine j_if_le E 39 37 dX8_about_34 (by decide) rfl (fun h34 => ?_) (fun h34 => ?_)
      · exact absurd h34 (by decide)
      · refine j_iconst E (0) 38 dX8_about_37 (by decide) rfl ?_
        refine mga_close r 1 np cd pl pg (pm + 3001) (by repeat (first | with_reducible exact pick_0 | with_reducible apply pick_s | exact sel_0 | apply sel_s)) ?_ ⟨hgd, hRl, hmk, by omega⟩ ?_
        · exact ⟨rfl, rfl, rfl, rfl, rfl, rfl, rfl, rfl, rfl⟩
        · exact j_iret E B rfl 0 0 dX8_about_38 (by repeat (first | with_reducible exact pick_0 | with_reducible apply pick_s | exact sel_0 | apply sel_s)) ⟨rfl, rfl, rfl, rfl⟩ (by omega) (by omega) (by omega) (by omega)
  · obtain ⟨j, hj, rfl⟩ := inB_t (by omega) hin
    have hcl : (nI j).toNatClampNeg = j := nI_clamp (by omega)
    obtain ⟨V, hV⟩ : ∃ V, V = vAt us j := ⟨_, rfl⟩
    have hk10 : V.1 ≤ 10 := by rw [hV]; exact (aok_at hok hj).1
    have hz := (hgd j hj).1
    have e1 : sAbout (nI j) w (tape, us, np, nb, out, cd, pl) = (if w = 0 then (0, nI V.1, (tape, us, np, nb, out, cd, pl)) else if w = 1 then (0, nI (vlen V), (tape, us, np, nb, out, cd, pl)) else if w = 2 then (0, (if V.1 = 2 then 0 else V.2.2.1), (tape, us, np, nb, out, cd, pl)) else if w = 3 then (0, (if V.1 = 7 ∨ V.1 = 8 then 0 else match packU us 65536 j with | some p => nI p.length | none => 0), (tape, us, np, nb, out, cd, pl)) else (2, 0, (tape, us, np, nb, out, cd, pl))) := by
      unfold sAbout
      dsimp only
      rw [if_neg (by rw [hin]; decide), hcl, ← hV]
      rcases packU us 65536 j with _ | p
      · rfl
      · rfl
    rw [e1] at B
    have bad : w < 0 ∨ 3 < w → J X 3 [MF m r th (nI tape.length) (nI out.length) (nI us.length) (nI R.length) (nI nb) pkd (nI pg) cm fu op (nI cd) (nI pl) at_ bgc got pr, BA X.1 (r 1) tape, BA X.1 (r 3) out, BA X.1 (r 18) [], BA X.1 (r 19) [], TB X.1 r us zs R nb mk, GS X.1 r gs, OD X.1 r [], PL X.1 r [], F] 0 0 22 [some (.ref m), some (.int (nI j)), some (.int w)] [.ref m] := by
      intro hw
      have hne : ∀ c : Int32, 0 ≤ c → c ≤ 3 → ¬ w = c := fun c c0 c3 q => by
        rw [q, fa_lt, fa_lt] at hw
        rw [fa_le] at c0 c3
        omega
      rw [if_neg (hne 0 (by decide) (by decide)), if_neg (hne 1 (by decide) (by decide)), if_neg (hne 2 (by decide) (by decide)), if_neg (hne 3 (by decide) (by decide))] at B
      dsimp only at B
      refine j_iconst E (2) 23 dX8_about_22 (by decide) rfl ?_
      refine j_goto E 27 dX8_about_23 (by decide) ?_
      refine j_putf E 30 dX8_about_27 fl_X8_71 (by repeat (first | with_reducible exact pick_0 | with_reducible apply pick_s)) rfl rfl (Nat.le_of_ble_eq_true rfl) rfl ?_
      dsimp only [List.set]
      refine j_aload_n E 31 dX8_about_30 0 rfl rfl rfl ?_
      refine j_getf E 34 dX8_about_31 fl_X8_71 (by repeat (first | with_reducible exact pick_0 | with_reducible apply pick_s)) (by rfl) rfl ?_
      refine j_if_le E 39 37 dX8_about_34 (by decide) rfl (fun h34 => ?_) (fun h34 => ?_)
      · exact absurd h34 (by decide)
      · refine j_iconst E (0) 38 dX8_about_37 (by decide) rfl ?_
        refine mga_close r 2 np cd pl pg (pm + 3001) (by repeat (first | with_reducible exact pick_0 | with_reducible apply pick_s | exact sel_0 | apply sel_s)) ?_ ⟨hgd, hRl, hmk, by omega⟩ ?_
        · exact ⟨rfl, rfl, rfl, rfl, rfl, rfl, rfl, rfl, rfl⟩
        · exact j_iret E B rfl 0 0 dX8_about_38 (by repeat (first | with_reducible exact pick_0 | with_reducible apply pick_s | exact sel_0 | apply sel_s)) ⟨rfl, rfl, rfl, rfl⟩ (by omega) (by omega) (by omega) (by omega)
    have ret : ∀ x : Int32, (if w = 0 then (0, nI V.1, (tape, us, np, nb, out, cd, pl)) else if w = 1 then (0, nI (vlen V), (tape, us, np, nb, out, cd, pl)) else if w = 2 then (0, (if V.1 = 2 then 0 else V.2.2.1), (tape, us, np, nb, out, cd, pl)) else if w = 3 then (0, (if V.1 = 7 ∨ V.1 = 8 then 0 else match packU us 65536 j with | some p => nI p.length | none => 0), (tape, us, np, nb, out, cd, pl)) else (2, 0, (tape, us, np, nb, out, cd, pl))) = (0, x, (tape, us, np, nb, out, cd, pl)) → J X 3 [MF m r 0 (nI tape.length) (nI out.length) (nI us.length) (nI R.length) (nI nb) pkd (nI pg) cm fu op (nI cd) (nI pl) at_ bgc got pr, BA X.1 (r 1) tape, BA X.1 (r 3) out, BA X.1 (r 18) [], BA X.1 (r 19) [], TB X.1 r us zs R nb mk, GS X.1 r gs, OD X.1 r [], PL X.1 r [], F] 0 0 110 [some (.ref m), some (.int (nI j)), some (.int w)] [.int x] := by
      intro x hx
      rw [hx] at B
      dsimp only at B
      refine mga_close r 0 np cd pl pg (pm + 3001) (by repeat (first | with_reducible exact pick_0 | with_reducible apply pick_s | exact sel_0 | apply sel_s)) ?_ ⟨hgd, hRl, hmk, by omega⟩ ?_
      · exact ⟨rfl, rfl, rfl, rfl, rfl, rfl, rfl, rfl, rfl⟩
      · exact j_iret E B rfl 0 0 dX8_about_110 (by repeat (first | with_reducible exact pick_0 | with_reducible apply pick_s | exact sel_0 | apply sel_s)) ⟨rfl, rfl, rfl, rfl⟩ (by omega) (by omega) (by omega) (by omega)
    refine j_if_ne E 13 9 dX8_about_6 (by decide) rfl (fun h6 => ?_) (fun h6 => ?_)
    · refine j_iload_n E 14 dX8_about_13 2 rfl rfl rfl ?_
      refine j_if_lt E 22 17 dX8_about_14 (by decide) rfl (fun h14 => ?_) (fun h14 => ?_)
      · exact bad (Or.inl h14)
      · refine j_iload_n E 18 dX8_about_17 2 rfl rfl rfl ?_
        refine j_iconst E (3) 19 dX8_about_18 (by decide) rfl ?_
        refine j_icmp_le E 26 22 dX8_about_19 (by decide) rfl (fun h19 => ?_) (fun h19 => ?_)
        · refine j_iconst E (0) 27 dX8_about_26 (by decide) rfl ?_
          refine j_putf E 30 dX8_about_27 fl_X8_71 (by repeat (first | with_reducible exact pick_0 | with_reducible apply pick_s)) rfl rfl (Nat.le_of_ble_eq_true rfl) rfl ?_
          dsimp only [List.set]
          refine j_aload_n E 31 dX8_about_30 0 rfl rfl rfl ?_
          refine j_getf E 34 dX8_about_31 fl_X8_71 (by repeat (first | with_reducible exact pick_0 | with_reducible apply pick_s)) (by rfl) rfl ?_
          refine j_if_le E 39 37 dX8_about_34 (by decide) rfl (fun h34 => ?_) (fun h34 => ?_)
          · refine j_iload_n E 40 dX8_about_39 2 rfl rfl rfl ?_
            refine j_iconst E (3) 41 dX8_about_40 (by decide) rfl ?_
            refine j_icmp_ne E 77 44 dX8_about_41 (by decide) rfl (fun h41 => ?_) (fun h41 => ?_)
            · refine j_iload_n E 78 dX8_about_77 2 rfl rfl rfl ?_
              refine j_if_ne E 90 81 dX8_about_78 (by decide) rfl (fun h78 => ?_) (fun h78 => ?_)
              · refine j_iload_n E 91 dX8_about_90 2 rfl rfl rfl ?_
                refine j_iconst E (1) 92 dX8_about_91 (by decide) rfl ?_
                refine j_icmp_ne E 104 95 dX8_about_92 (by decide) rfl (fun h92 => ?_) (fun h92 => ?_)
                · have w2 : w = 2 := by
                    rw [fa_lt] at h14
                    rw [fa_le] at h19
                    rw [fa_eq] at h41 h78 h92 ⊢
                    have z0 : (0 : Int32).toInt = 0 := by decide
                    have z1 : (1 : Int32).toInt = 1 := by decide
                    have z2 : (2 : Int32).toInt = 2 := by decide
                    have z3 : (3 : Int32).toInt = 3 := by decide
                    rw [z0] at h14 h78
                    rw [z1] at h92
                    rw [z3] at h19 h41
                    rw [z2]
                    omega
                  refine j_aload_n E 105 dX8_about_104 0 rfl rfl rfl ?_
                  refine j_getf E 108 dX8_about_105 fl_X8_29 (by repeat (first | with_reducible exact pick_0 | with_reducible apply pick_s)) (by rfl) rfl ?_
                  refine j_iload_n E 109 dX8_about_108 1 rfl rfl rfl ?_
                  refine j_tbE E 110 dX8_about_109 (by repeat (first | with_reducible exact pick_0 | with_reducible apply pick_s)) hj rfl ?_
                  rw [← hV]
                  exact j_sel (by repeat (first | with_reducible exact pick_0 | with_reducible apply pick_s | exact sel_0 | apply sel_s)) (ret _ ((if_neg h78).trans ((if_neg h92).trans (if_pos w2))))
                · refine j_aload_n E 96 dX8_about_95 0 rfl rfl rfl ?_
                  refine j_getf E 99 dX8_about_96 fl_X8_38 (by repeat (first | with_reducible exact pick_0 | with_reducible apply pick_s)) (by rfl) rfl ?_
                  refine j_iload_n E 100 dX8_about_99 1 rfl rfl rfl ?_
                  refine j_tbZ E 101 dX8_about_100 (by repeat (first | with_reducible exact pick_0 | with_reducible apply pick_s)) hj rfl ?_
                  rw [hz, ← hV]
                  refine j_goto E 110 dX8_about_101 (by decide) ?_
                  exact j_sel (by repeat (first | with_reducible exact pick_0 | with_reducible apply pick_s | exact sel_0 | apply sel_s)) (ret _ ((if_neg h78).trans (if_pos h92)))
              · refine j_aload_n E 82 dX8_about_81 0 rfl rfl rfl ?_
                refine j_getf E 85 dX8_about_82 fl_X8_17 (by repeat (first | with_reducible exact pick_0 | with_reducible apply pick_s)) (by rfl) rfl ?_
                refine j_iload_n E 86 dX8_about_85 1 rfl rfl rfl ?_
                refine j_tbK E 87 dX8_about_86 (by repeat (first | with_reducible exact pick_0 | with_reducible apply pick_s)) hj rfl ?_
                rw [← hV]
                refine j_goto E 110 dX8_about_87 (by decide) ?_
                exact j_sel (by repeat (first | with_reducible exact pick_0 | with_reducible apply pick_s | exact sel_0 | apply sel_s)) (ret _ (if_pos h78))
            · have n0 : ¬ w = 0 := fun q => by rw [q] at h41; exact absurd h41 (by decide)
              have n1 : ¬ w = 1 := fun q => by rw [q] at h41; exact absurd h41 (by decide)
              have n2 : ¬ w = 2 := fun q => by rw [q] at h41; exact absurd h41 (by decide)
              rw [if_neg n0, if_neg n1, if_neg n2, if_pos h41] at B
              refine j_aload_n E 45 dX8_about_44 0 rfl rfl rfl ?_
              refine j_getf E 48 dX8_about_45 fl_X8_17 (by repeat (first | with_reducible exact pick_0 | with_reducible apply pick_s)) (by rfl) rfl ?_
              refine j_iload_n E 49 dX8_about_48 1 rfl rfl rfl ?_
              refine j_tbK E 50 dX8_about_49 (by repeat (first | with_reducible exact pick_0 | with_reducible apply pick_s)) hj rfl ?_
              rw [← hV]
              refine j_callS E (c_m_isGroup hG (d-1) (nI V.1)) 53 dX8_about_50 iv_X8_100 rfl rfl (by repeat (first | with_reducible exact pick_0 | with_reducible apply pick_s | exact sel_0 | apply sel_s)) (by omega) (by omega) (by omega) (Nat.le_of_ble_eq_true rfl) rfl ?_
              rintro _ _ _ _ ⟨rfl, rfl, rfl, rfl⟩
              dsimp only [List.cons_append, List.nil_append, Option.toList]
              by_cases hg : V.1 = 7 ∨ V.1 = 8
              · rw [if_pos (show nI V.1 = 7 ∨ nI V.1 = 8 from hg.elim (fun q => Or.inl (by rw [q]; rfl)) (fun q => Or.inr (by rw [q]; rfl)))]
                rw [if_pos hg] at B
                dsimp only at B
                refine j_if_ne E 75 56 dX8_about_53 (by decide) rfl (fun h53 => ?_) (fun h53 => ?_)
                · refine j_iconst E (0) 76 dX8_about_75 (by decide) rfl ?_
                  refine mga_close r 0 np cd pl pg (pm + 3001) (by repeat (first | with_reducible exact pick_0 | with_reducible apply pick_s | exact sel_0 | apply sel_s)) ?_ ⟨hgd, hRl, hmk, by omega⟩ ?_
                  · exact ⟨rfl, rfl, rfl, rfl, rfl, rfl, rfl, rfl, rfl⟩
                  · exact j_iret E B rfl 0 0 dX8_about_76 (by repeat (first | with_reducible exact pick_0 | with_reducible apply pick_s | exact sel_0 | apply sel_s)) ⟨rfl, rfl, rfl, rfl⟩ (by omega) (by omega) (by omega) (by omega)
                · exact absurd h53 (by decide)
              · rw [if_neg (fun q => hg (q.elim (fun q => Or.inl ((nI_eq (b := 7) (by omega) (by decide)).mp q)) (fun q => Or.inr ((nI_eq (b := 8) (by omega) (by decide)).mp q))))]
                rw [if_neg hg] at B
                refine j_if_ne E 75 56 dX8_about_53 (by decide) rfl (fun h53 => ?_) (fun h53 => ?_)
                · exact absurd rfl h53
                · refine j_close (by repeat (first | with_reducible exact pick_0 | with_reducible apply pick_s | exact sel_0 | apply sel_s)) (P := BF X.1 (r 18) (some [])) (qs := [BA X.1 (r 18) []]) ba_bf ?_
                  refine j_aload_n E 57 dX8_about_56 0 rfl rfl rfl ?_
                  refine j_aload_n E 58 dX8_about_57 0 rfl rfl rfl ?_
                  refine j_getf E 61 dX8_about_58 fl_X8_50 (by repeat (first | with_reducible exact pick_0 | with_reducible apply pick_s)) (by rfl) rfl ?_
                  refine j_iload_n E 62 dX8_about_61 1 rfl rfl rfl ?_
                  refine j_callV E (c_m_pack hG (d-1) m r pg (pg + 1) (r 18) j us zs R nb mk (by omega) hj (good_of hgd hok) (fun t _ => hmk t) rfl (by omega)) 65 dX8_about_62 _ _ _ iv_X8_260 rfl rfl rfl (by repeat (first | with_reducible exact pick_0 | with_reducible apply pick_s | exact sel_0 | apply sel_s)) (by omega) (by omega) (by omega) (Nat.le_of_ble_eq_true rfl) rfl ?_
                  rintro o dc ds ws' ⟨rfl, rfl, rfl, st, cm1, op1, come, s1, mk1, hst, hmk1, rfl⟩
                  dsimp only [List.cons_append, List.nil_append, Option.toList]
                  refine j_tbmk (fun t => if t < us.length then mk1 t else 0) (by repeat (first | with_reducible exact pick_0 | with_reducible apply pick_s)) (fun t ht => if_pos ht) ?_
                  refine j_close (by repeat (first | with_reducible exact pick_0 | with_reducible apply pick_s | exact sel_0 | apply sel_s)) (P := OD X.1 r []) (qs := [OD X.1 r come]) od_weak ?_
                  refine j_close (by repeat (first | with_reducible exact pick_0 | with_reducible apply pick_s | exact sel_0 | apply sel_s)) (P := PL X.1 r []) (qs := [PL X.1 r s1]) pl_weak ?_
                  have hmk2 : ∀ t, (if t < us.length then mk1 t else 0) ≤ pg + 1 := fun t => by
                    by_cases q : t < us.length
                    · rw [if_pos q]
                      exact hmk1 t q
                    · rw [if_neg q]
                      exact Nat.zero_le _
                  rcases hp : packU us 65536 j with _ | p
                  · rw [hp] at B
                    dsimp only at B
                    rw [show soI (none : Option (List UInt8)) = 0 from rfl]
                    refine j_close (by repeat (first | with_reducible exact pick_0 | with_reducible apply pick_s | exact sel_0 | apply sel_s)) (P := BA X.1 (r 18) []) (qs := [BF X.1 (r 18) st]) bf_ba0 ?_
                    refine j_if_eq E 75 68 dX8_about_65 (by decide) rfl (fun h65 => ?_) (fun h65 => ?_)
                    · refine j_iconst E (0) 76 dX8_about_75 (by decide) rfl ?_
                      refine mga_close r 0 np cd pl (pg + 1) (pm + 3001) (by repeat (first | with_reducible exact pick_0 | with_reducible apply pick_s | exact sel_0 | apply sel_s)) ?_ ⟨hgd, hRl, hmk2, by omega⟩ ?_
                      · exact ⟨rfl, rfl, rfl, rfl, rfl, rfl, rfl, rfl, rfl⟩
                      · exact j_iret E B rfl 0 0 dX8_about_76 (by repeat (first | with_reducible exact pick_0 | with_reducible apply pick_s | exact sel_0 | apply sel_s)) ⟨rfl, rfl, rfl, rfl⟩ (by omega) (by omega) (by omega) (by omega)
                    · exact absurd rfl h65
                  · rw [hp] at B
                    dsimp only at B
                    have hs9 := hst p hp
                    subst hs9
                    rw [show soI (some p) = 1 from rfl]
                    refine j_close (by repeat (first | with_reducible exact pick_0 | with_reducible apply pick_s | exact sel_0 | apply sel_s)) (P := BA X.1 (r 18) []) (qs := [BF X.1 (r 18) (some p)]) bf_ba0 ?_
                    refine j_if_eq E 75 68 dX8_about_65 (by decide) rfl (fun h65 => ?_) (fun h65 => ?_)
                    · exact absurd h65 (by decide)
                    · refine j_aload_n E 69 dX8_about_68 0 rfl rfl rfl ?_
                      refine j_getf E 72 dX8_about_69 fl_X8_202 (by repeat (first | with_reducible exact pick_0 | with_reducible apply pick_s)) (by rfl) rfl ?_
                      refine j_goto E 76 dX8_about_72 (by decide) ?_
                      refine j_eqi (y := nI p.length) rfl ?_
                      refine mga_close r 0 np cd pl (pg + 1) (pm + 3001) (by repeat (first | with_reducible exact pick_0 | with_reducible apply pick_s | exact sel_0 | apply sel_s)) ?_ ⟨hgd, hRl, hmk2, by omega⟩ ?_
                      · exact ⟨rfl, rfl, rfl, rfl, rfl, rfl, rfl, rfl, rfl⟩
                      · exact j_iret E B rfl 0 0 dX8_about_76 (by repeat (first | with_reducible exact pick_0 | with_reducible apply pick_s | exact sel_0 | apply sel_s)) ⟨rfl, rfl, rfl, rfl⟩ (by omega) (by omega) (by omega) (by omega)
          · exact absurd (by decide) h34
        · exact bad (Or.inr (by
            rw [fa_lt]
            rw [fa_le] at h19
            omega))
    · exact absurd h6 (by decide)

/-! the model: feed, end, shown, count, thrown -/
theorem sh64 (w : Int32) (s : Nat) (hs : s < 32) : (w.toInt64 >>> ((nI s).toInt64 &&& 63)).toInt32 = w >>> (nI s &&& 31) := by
  apply Int32.toInt_inj.mp
  have e3 : (nI s &&& 31) = nI s := by
    rw [show (31 : Int32) = nI (2 ^ 5 - 1) from rfl, fa_mask, Nat.mod_eq_of_lt (by omega)]
  have e1 : (w >>> (nI s &&& 31)).toInt = w.toInt >>> s := by
    rw [e3]
    exact pk_shr w (nI s) s (by
      have h : ∀ t : Fin 32, ((nI t.val).toBitVec.smod 32).toNat = t.val := by decide +kernel
      exact h ⟨s, hs⟩)
  have e2 : (w.toInt64 >>> ((nI s).toInt64 &&& 63)).toInt = w.toInt >>> s := by
    have h : ∀ t : Fin 32, (((nI t.val).toInt64 &&& 63).toBitVec.smod 64).toNat = t.val := by decide +kernel
    have h1 := h ⟨s, hs⟩
    show ((w.toInt64).toBitVec.sshiftRight' (((nI s).toInt64 &&& 63).toBitVec.smod 64)).toInt = _
    rw [BitVec.sshiftRight', h1, BitVec.toInt_sshiftRight]
    congr 1
    exact Int32.toInt_toInt64 w
  rw [Int64.toInt_toInt32, e2, e1, Int.shiftRight_eq_div_pow]
  have l1 := Int32.le_toInt w
  have l2 := Int32.toInt_lt w
  have hp : (0 : Int) < ((2 ^ s : Nat) : Int) := by
    have := Nat.two_pow_pos s
    omega
  have g1 : -2 ^ 31 ≤ w.toInt / ((2 ^ s : Nat) : Int) := by
    refine (Int.le_ediv_iff_mul_le hp).mpr ?_
    have : ((2 ^ s : Nat) : Int) ≥ 1 := by omega
    omega
  have g2 : w.toInt / ((2 ^ s : Nat) : Int) < 2 ^ 31 := by
    refine (Int.ediv_lt_iff_lt_mul hp).mpr ?_
    have : ((2 ^ s : Nat) : Int) ≥ 1 := by omega
    omega
  exact Int.bmod_eq_of_le (by omega) (by omega)
theorem feed_b (w : Int32) : ∀ m, m < 4 → lo8 (w >>> ((24 - 8 * nI m) &&& 31)) = lowB w.toInt64 (3 - m) := by
  intro m hm
  have e : (24 - 8 * nI m) &&& 31 = nI (8 * (3 - m)) &&& 31 := by
    have h : ∀ t : Fin 4, (24 - 8 * nI t.val) &&& 31 = nI (8 * (3 - t.val)) &&& 31 := by decide +kernel
    exact h ⟨m, hm⟩
  rw [lowB, e, sh64 w _ (by omega)]
def fdW (a b c e f : Int32) (k : Nat) : Int32 := if k < 4 then a else if k < 8 then b else if k < 12 then c else if k < 16 then e else f
def fdL (a b c e f : Int32) : List UInt8 := beB a.toInt64 4 ++ (beB b.toInt64 4 ++ (beB c.toInt64 4 ++ (beB e.toInt64 4 ++ beB f.toInt64 4)))
theorem fd_at (a b c e f : Int32) : ∀ k, k < 20 → (fdL a b c e f)[k]? = some (lowB (fdW a b c e f k).toInt64 (3 - k % 4))
  | 0, _ => rfl
  | 1, _ => rfl
  | 2, _ => rfl
  | 3, _ => rfl
  | 4, _ => rfl
  | 5, _ => rfl
  | 6, _ => rfl
  | 7, _ => rfl
  | 8, _ => rfl
  | 9, _ => rfl
  | 10, _ => rfl
  | 11, _ => rfl
  | 12, _ => rfl
  | 13, _ => rfl
  | 14, _ => rfl
  | 15, _ => rfl
  | 16, _ => rfl
  | 17, _ => rfl
  | 18, _ => rfl
  | 19, _ => rfl
  | k + 20, h => absurd h (by omega)
theorem fd_len (a b c e f : Int32) : (fdL a b c e f).length = 20 := rfl
set_option maxHeartbeats 8000000 in
theorem c_mg_feed {g : GT} (hG : GLB g) (d m : Nat) (th : Int32) (tape : List UInt8) (us : List VT) (np nb : Nat) (out : List UInt8) (cd pl pm : Nat) (a1 a2 a3 a4 a5 : Int32) (hd : 2 ≤ d) : CtrV g mX8_feed 7 d 0 0 m [.int a1, .int a2, .int a3, .int a4, .int a5] [MGA g m th (tape, us, np, nb, out, cd, pl) pm] (mgo g m pm (sFeed a1 a2 a3 a4 a5 (tape, us, np, nb, out, cd, pl))) noX := by
  refine ⟨mga_rcv, ?_⟩
  refine ctr_intro hG (by decide +kernel) (Nat.le_of_ble_eq_true rfl) ?_
  rintro X F rfl E B hI T
  replace E : JE X RX8 cX8_feed 8 d 0 0 := E
  show J X _ [MGA X.1 m th (tape, us, np, nb, out, cd, pl) pm, F] 0 0 0 [some (.ref m), some (.int a1), some (.int a2), some (.int a3), some (.int a4), some (.int a5), none, none] []
  refine mga_open (by repeat (first | with_reducible exact pick_0 | with_reducible apply pick_s)) ?_
  intro r pkd cm fu op at_ bgc got pr pg zs R mk gs hS
  dsimp only [MGL, List.cons_append, List.nil_append]
  obtain ⟨hgd, hRl, hmk, hpg⟩ := hS
  dsimp only at hgd hRl
  refine j_know (pick_know (P := TB X.1 r us zs R nb mk) (by repeat (first | with_reducible exact pick_0 | with_reducible apply pick_s)) tb_know) (fun hk9 => ?_)
  refine j_know (pick_know (P := BA X.1 (r 1) tape) (by repeat (first | with_reducible exact pick_0 | with_reducible apply pick_s)) ba_know) (fun hbl => ?_)
  refine j_know (pick_know (P := BA X.1 (r 3) out) (by repeat (first | with_reducible exact pick_0 | with_reducible apply pick_s)) ba_know) (fun hbo => ?_)
  unfold mgo at B
  refine j_aload_n E 1 dX8_feed_0 0 rfl rfl rfl ?_
  refine j_aload_n E 2 dX8_feed_1 0 rfl rfl rfl ?_
  refine j_getf E 5 dX8_feed_2 fl_X8_88 (by repeat (first | with_reducible exact pick_0 | with_reducible apply pick_s)) (by rfl) rfl ?_
  refine j_bipush E (20) 7 dX8_feed_5 (by decide) rfl ?_
  refine j_iadd E 8 dX8_feed_7 rfl ?_
  refine j_eqi (nI_add tape.length 20) ?_
  refine j_ldcI E _ 10 dX8_feed_8 kc_X8_7 rfl ?_
  refine j_icmp_le E 17 13 dX8_feed_10 (by decide) rfl (fun h10 => ?_) (fun h10 => ?_)
  · have q : tape.length + 20 ≤ 65536 := (nI_leI (b := 65536) (by omega) (by decide)).mp h10
    rw [show sFeed a1 a2 a3 a4 a5 (tape, us, np, nb, out, cd, pl) = (0, nI (tape.length + 20), (tape ++ fdL a1 a2 a3 a4 a5, us, np, nb, out, cd, pl)) from if_pos q] at B
    dsimp only at B
    refine j_iconst E (0) 18 dX8_feed_17 (by decide) rfl ?_
    refine j_putf E 21 dX8_feed_18 fl_X8_71 (by repeat (first | with_reducible exact pick_0 | with_reducible apply pick_s)) rfl rfl (Nat.le_of_ble_eq_true rfl) rfl ?_
    dsimp only [List.set]
    refine j_aload_n E 22 dX8_feed_21 0 rfl rfl rfl ?_
    refine j_getf E 25 dX8_feed_22 fl_X8_71 (by repeat (first | with_reducible exact pick_0 | with_reducible apply pick_s)) (by rfl) rfl ?_
    refine j_if_le E 30 28 dX8_feed_25 (by decide) rfl (fun h25 => ?_) (fun h25 => ?_)
    · refine j_iconst E (0) 31 dX8_feed_30 (by decide) rfl ?_
      refine j_istore E 33 dX8_feed_31 (Nat.le_of_ble_eq_true rfl) rfl rfl ?_
      dsimp only [List.set]
      have loop : ∀ (q j : Nat) (l7 : Option Value), j + q = 20 → J X 8 [BA X.1 (r 1) (tape ++ (fdL a1 a2 a3 a4 a5).take j), MF m r 0 (nI tape.length) (nI out.length) (nI us.length) (nI R.length) (nI nb) pkd (nI pg) cm fu op (nI cd) (nI pl) at_ bgc got pr, BA X.1 (r 3) out, BA X.1 (r 18) [], BA X.1 (r 19) [], TB X.1 r us zs R nb mk, GS X.1 r gs, OD X.1 r [], PL X.1 r [], F] 0 0 33 [some (.ref m), some (.int a1), some (.int a2), some (.int a3), some (.int a4), some (.int a5), some (.int (nI j)), l7] [] := by
        intro q
        induction q with
        | zero =>
          intro j l7 hj
          have hj20 : j = 20 := by omega
          rw [show (fdL a1 a2 a3 a4 a5).take j = fdL a1 a2 a3 a4 a5 by rw [hj20]; rfl]
          refine j_iload E 35 dX8_feed_33 rfl rfl ?_
          refine j_bipush E (20) 37 dX8_feed_35 (by decide) rfl ?_
          refine j_icmp_ge E 120 40 dX8_feed_37 (by decide) rfl (fun h37 => ?_) (fun h37 => ?_)
          · refine j_aload_n E 121 dX8_feed_120 0 rfl rfl rfl ?_
            refine j_aload_n E 122 dX8_feed_121 0 rfl rfl rfl ?_
            refine j_getf E 125 dX8_feed_122 fl_X8_88 (by repeat (first | with_reducible exact pick_0 | with_reducible apply pick_s)) (by rfl) rfl ?_
            refine j_bipush E (20) 127 dX8_feed_125 (by decide) rfl ?_
            refine j_iadd E 128 dX8_feed_127 rfl ?_
            refine j_eqi (nI_add tape.length 20) ?_
            refine j_putf E 131 dX8_feed_128 fl_X8_88 (by repeat (first | with_reducible exact pick_0 | with_reducible apply pick_s)) rfl rfl (Nat.le_of_ble_eq_true rfl) rfl ?_
            dsimp only [List.set]
            refine j_aload_n E 132 dX8_feed_131 0 rfl rfl rfl ?_
            refine j_getf E 135 dX8_feed_132 fl_X8_88 (by repeat (first | with_reducible exact pick_0 | with_reducible apply pick_s)) (by rfl) rfl ?_
            refine mga_close r 0 np cd pl pg (pm + 3001) (by repeat (first | with_reducible exact pick_0 | with_reducible apply pick_s | exact sel_0 | apply sel_s)) ?_ ⟨hgd, hRl, hmk, by omega⟩ ?_
            · exact ⟨rfl, by rw [List.length_append, fd_len], rfl, rfl, rfl, rfl, rfl, rfl, rfl⟩
            · exact j_iret E B rfl 0 0 dX8_feed_135 (by repeat (first | with_reducible exact pick_0 | with_reducible apply pick_s | exact sel_0 | apply sel_s)) ⟨rfl, rfl, rfl, rfl⟩ (by omega) (by omega) (by omega) (by omega)
          · exact absurd (by rw [hj20]; decide) h37
        | succ q ih =>
          intro j l7 hj
          have hlt : (tape ++ (fdL a1 a2 a3 a4 a5).take j).length = tape.length + j := by rw [List.length_append, List.length_take, fd_len]; omega
          have at86 : ∀ w : Int32, w = fdW a1 a2 a3 a4 a5 j → J X 8 [BA X.1 (r 1) (tape ++ (fdL a1 a2 a3 a4 a5).take j), MF m r 0 (nI tape.length) (nI out.length) (nI us.length) (nI R.length) (nI nb) pkd (nI pg) cm fu op (nI cd) (nI pl) at_ bgc got pr, BA X.1 (r 3) out, BA X.1 (r 18) [], BA X.1 (r 19) [], TB X.1 r us zs R nb mk, GS X.1 r gs, OD X.1 r [], PL X.1 r [], F] 0 0 86 [some (.ref m), some (.int a1), some (.int a2), some (.int a3), some (.int a4), some (.int a5), some (.int (nI j)), l7] [.int w] := by
            intro w hw
            refine j_istore E 88 dX8_feed_86 (Nat.le_of_ble_eq_true rfl) rfl rfl ?_
            dsimp only [List.set]
            refine j_aload_n E 89 dX8_feed_88 0 rfl rfl rfl ?_
            refine j_getf E 92 dX8_feed_89 fl_X8_8 (by repeat (first | with_reducible exact pick_0 | with_reducible apply pick_s)) (by rfl) rfl ?_
            refine j_aload_n E 93 dX8_feed_92 0 rfl rfl rfl ?_
            refine j_getf E 96 dX8_feed_93 fl_X8_88 (by repeat (first | with_reducible exact pick_0 | with_reducible apply pick_s)) (by rfl) rfl ?_
            refine j_iload E 98 dX8_feed_96 rfl rfl ?_
            refine j_iadd E 99 dX8_feed_98 rfl ?_
            refine j_eqi (nI_add tape.length j) ?_
            refine j_iload E 101 dX8_feed_99 rfl rfl ?_
            refine j_bipush E (24) 103 dX8_feed_101 (by decide) rfl ?_
            refine j_bipush E (8) 105 dX8_feed_103 (by decide) rfl ?_
            refine j_iload E 107 dX8_feed_105 rfl rfl ?_
            refine j_iconst E (4) 108 dX8_feed_107 (by decide) rfl ?_
            refine j_irem E 109 dX8_feed_108 (by decide) rfl ?_
            refine j_eqi (y := nI (j % 4)) (pk_rem (d := 4) (by omega) (by decide) (by decide)) ?_
            refine j_imul E 110 dX8_feed_109 rfl ?_
            refine j_isub E 111 dX8_feed_110 rfl ?_
            refine j_ishr E 112 dX8_feed_111 rfl ?_
            refine j_i2b E 113 dX8_feed_112 rfl ?_
            refine j_open (by repeat (first | with_reducible exact pick_0 | with_reducible apply pick_s)) ba_open ?_
            rintro f ⟨hf1, hf2, hf3⟩
            dsimp only [List.cons_append, List.nil_append]
            refine j_bast E 114 dX8_feed_113 (by repeat (first | with_reducible exact pick_0 | with_reducible apply pick_s)) (vp_in_nI (by omega) (by omega)) rfl ?_
            rw [nI_clamp (by omega), ← hlt]
            have hb : (fdL a1 a2 a3 a4 a5).take (j + 1) = (fdL a1 a2 a3 a4 a5).take j ++ [lo8 (w >>> ((24 - 8 * nI (j % 4)) &&& 31))] := by
              rw [List.take_succ, fd_at _ _ _ _ _ j (by omega), feed_b w _ (Nat.mod_lt _ (by decide)), hw]
              rfl
            refine j_close (by repeat (first | with_reducible exact pick_0 | with_reducible apply pick_s | exact sel_0 | apply sel_s)) (P := BA X.1 (r 1) (tape ++ (fdL a1 a2 a3 a4 a5).take (j + 1))) (ba_of (fit_store hf1) (by rw [hb, ← List.append_assoc]; exact lat_store hf2) (by rw [List.length_append, List.length_take, fd_len]; omega)) ?_
            refine j_iinc E _ 117 dX8_feed_114 rfl rfl (Nat.le_of_ble_eq_true rfl) rfl rfl ?_
            dsimp only [List.set]
            refine j_goto E 33 dX8_feed_117 (by decide) ?_
            have hw9 := ih (j + 1) (some (.int w)) (by omega)
            rw [← nI_1 j] at hw9
            exact j_sel (by repeat (first | with_reducible exact pick_0 | with_reducible apply pick_s | exact sel_0 | apply sel_s)) hw9
          refine j_iload E 35 dX8_feed_33 rfl rfl ?_
          refine j_bipush E (20) 37 dX8_feed_35 (by decide) rfl ?_
          refine j_icmp_ge E 120 40 dX8_feed_37 (by decide) rfl (fun h37 => ?_) (fun h37 => ?_)
          · exact absurd h37 (nI_ge (a := j) (b := 20) (by omega) (by decide))
          · refine j_iload E 42 dX8_feed_40 rfl rfl ?_
            refine j_iconst E (4) 43 dX8_feed_42 (by decide) rfl ?_
            refine j_icmp_ge E 50 46 dX8_feed_43 (by decide) rfl (fun h43 => ?_) (fun h43 => ?_)
            · have q43 : 4 ≤ j := (nI_leI (a := 4) (b := j) (by omega) (by omega)).mp h43
              refine j_iload E 52 dX8_feed_50 rfl rfl ?_
              refine j_bipush E (8) 54 dX8_feed_52 (by decide) rfl ?_
              refine j_icmp_ge E 61 57 dX8_feed_54 (by decide) rfl (fun h54 => ?_) (fun h54 => ?_)
              · have q54 : 8 ≤ j := (nI_leI (a := 8) (b := j) (by omega) (by omega)).mp h54
                refine j_iload E 63 dX8_feed_61 rfl rfl ?_
                refine j_bipush E (12) 65 dX8_feed_63 (by decide) rfl ?_
                refine j_icmp_ge E 72 68 dX8_feed_65 (by decide) rfl (fun h65 => ?_) (fun h65 => ?_)
                · have q65 : 12 ≤ j := (nI_leI (a := 12) (b := j) (by omega) (by omega)).mp h65
                  refine j_iload E 74 dX8_feed_72 rfl rfl ?_
                  refine j_bipush E (16) 76 dX8_feed_74 (by decide) rfl ?_
                  refine j_icmp_ge E 84 79 dX8_feed_76 (by decide) rfl (fun h76 => ?_) (fun h76 => ?_)
                  · have q76 : 16 ≤ j := (nI_leI (a := 16) (b := j) (by omega) (by omega)).mp h76
                    refine j_iload E 86 dX8_feed_84 rfl rfl ?_
                    exact at86 _ (by rw [fdW, if_neg (by omega), if_neg (by omega), if_neg (by omega), if_neg (by omega)])
                  · have q76 : ¬ 16 ≤ j := mt (nI_leI (a := 16) (b := j) (by omega) (by omega)).mpr h76
                    refine j_iload E 81 dX8_feed_79 rfl rfl ?_
                    refine j_goto E 86 dX8_feed_81 (by decide) ?_
                    exact at86 _ (by rw [fdW, if_neg (by omega), if_neg (by omega), if_neg (by omega), if_pos (by omega)])
                · have q65 : ¬ 12 ≤ j := mt (nI_leI (a := 12) (b := j) (by omega) (by omega)).mpr h65
                  refine j_iload_n E 69 dX8_feed_68 3 rfl rfl rfl ?_
                  refine j_goto E 86 dX8_feed_69 (by decide) ?_
                  exact at86 _ (by rw [fdW, if_neg (by omega), if_neg (by omega), if_pos (by omega)])
              · have q54 : ¬ 8 ≤ j := mt (nI_leI (a := 8) (b := j) (by omega) (by omega)).mpr h54
                refine j_iload_n E 58 dX8_feed_57 2 rfl rfl rfl ?_
                refine j_goto E 86 dX8_feed_58 (by decide) ?_
                exact at86 _ (by rw [fdW, if_neg (by omega), if_pos (by omega)])
            · have q43 : ¬ 4 ≤ j := mt (nI_leI (a := 4) (b := j) (by omega) (by omega)).mpr h43
              refine j_iload_n E 47 dX8_feed_46 1 rfl rfl rfl ?_
              refine j_goto E 86 dX8_feed_47 (by decide) ?_
              exact at86 _ (by rw [fdW, if_pos (by omega)])
      have hl := loop 20 0 none rfl
      rw [List.take_zero, List.append_nil] at hl
      exact j_sel (by repeat (first | with_reducible exact pick_0 | with_reducible apply pick_s | exact sel_0 | apply sel_s)) hl
    · exact absurd (by decide) h25
  · have q : ¬ tape.length + 20 ≤ 65536 := fun y => h10 ((nI_leI (b := 65536) (by omega) (by decide)).mpr y)
    rw [show sFeed a1 a2 a3 a4 a5 (tape, us, np, nb, out, cd, pl) = (1, 0, (tape, us, np, nb, out, cd, pl)) from if_neg q] at B
    dsimp only at B
    refine j_iconst E (1) 14 dX8_feed_13 (by decide) rfl ?_
    refine j_goto E 18 dX8_feed_14 (by decide) ?_
    refine j_putf E 21 dX8_feed_18 fl_X8_71 (by repeat (first | with_reducible exact pick_0 | with_reducible apply pick_s)) rfl rfl (Nat.le_of_ble_eq_true rfl) rfl ?_
    dsimp only [List.set]
    refine j_aload_n E 22 dX8_feed_21 0 rfl rfl rfl ?_
    refine j_getf E 25 dX8_feed_22 fl_X8_71 (by repeat (first | with_reducible exact pick_0 | with_reducible apply pick_s)) (by rfl) rfl ?_
    refine j_if_le E 30 28 dX8_feed_25 (by decide) rfl (fun h25 => ?_) (fun h25 => ?_)
    · exact absurd h25 (by decide)
    · refine j_iconst E (0) 29 dX8_feed_28 (by decide) rfl ?_
      refine mga_close r 1 np cd pl pg (pm + 3001) (by repeat (first | with_reducible exact pick_0 | with_reducible apply pick_s | exact sel_0 | apply sel_s)) ?_ ⟨hgd, hRl, hmk, by omega⟩ ?_
      · exact ⟨rfl, rfl, rfl, rfl, rfl, rfl, rfl, rfl, rfl⟩
      · exact j_iret E B rfl 0 0 dX8_feed_29 (by repeat (first | with_reducible exact pick_0 | with_reducible apply pick_s | exact sel_0 | apply sel_s)) ⟨rfl, rfl, rfl, rfl⟩ (by omega) (by omega) (by omega) (by omega)
set_option maxHeartbeats 8000000 in
theorem c_mg_shown {g : GT} (hG : GLB g) (d m : Nat) (th : Int32) (tape : List UInt8) (us : List VT) (np nb : Nat) (out : List UInt8) (cd pl pm : Nat) (i : Int32) (hd : 2 ≤ d) : CtrV g mX8_shown 7 d 0 0 m [.int i] [MGA g m th (tape, us, np, nb, out, cd, pl) pm] (mgo g m pm (sShown i (tape, us, np, nb, out, cd, pl))) noX := by
  refine ⟨mga_rcv, ?_⟩
  refine ctr_intro hG (by decide +kernel) (Nat.le_of_ble_eq_true rfl) ?_
  rintro X F rfl E B hI T
  replace E : JE X RX8 cX8_shown 2 d 0 0 := E
  show J X _ [MGA X.1 m th (tape, us, np, nb, out, cd, pl) pm, F] 0 0 0 [some (.ref m), some (.int i)] []
  refine mga_open (by repeat (first | with_reducible exact pick_0 | with_reducible apply pick_s)) ?_
  intro r pkd cm fu op at_ bgc got pr pg zs R mk gs hS
  dsimp only [MGL, List.cons_append, List.nil_append]
  obtain ⟨hgd, hRl, hmk, hpg⟩ := hS
  dsimp only at hgd hRl
  refine j_know (pick_know (P := TB X.1 r us zs R nb mk) (by repeat (first | with_reducible exact pick_0 | with_reducible apply pick_s)) tb_know) (fun hk9 => ?_)
  refine j_know (pick_know (P := BA X.1 (r 1) tape) (by repeat (first | with_reducible exact pick_0 | with_reducible apply pick_s)) ba_know) (fun hbl => ?_)
  refine j_know (pick_know (P := BA X.1 (r 3) out) (by repeat (first | with_reducible exact pick_0 | with_reducible apply pick_s)) ba_know) (fun hbo => ?_)
  unfold mgo at B
  have no : inB i out.length = false → J X 2 [MF m r th (nI tape.length) (nI out.length) (nI us.length) (nI R.length) (nI nb) pkd (nI pg) cm fu op (nI cd) (nI pl) at_ bgc got pr, BA X.1 (r 1) tape, BA X.1 (r 3) out, BA X.1 (r 18) [], BA X.1 (r 19) [], TB X.1 r us zs R nb mk, GS X.1 r gs, OD X.1 r [], PL X.1 r [], F] 0 0 17 [some (.ref m), some (.int i)] [.ref m] := by
    intro e
    rw [show sShown i (tape, us, np, nb, out, cd, pl) = (1, 0, (tape, us, np, nb, out, cd, pl)) from if_neg (by dsimp only; rw [e]; decide)] at B
    dsimp only at B
    refine j_iconst E (1) 18 dX8_shown_17 (by decide) rfl ?_
    refine j_putf E 21 dX8_shown_18 fl_X8_71 (by repeat (first | with_reducible exact pick_0 | with_reducible apply pick_s)) rfl rfl (Nat.le_of_ble_eq_true rfl) rfl ?_
    dsimp only [List.set]
    refine j_aload_n E 22 dX8_shown_21 0 rfl rfl rfl ?_
    refine j_getf E 25 dX8_shown_22 fl_X8_71 (by repeat (first | with_reducible exact pick_0 | with_reducible apply pick_s)) (by rfl) rfl ?_
    refine j_if_le E 32 28 dX8_shown_25 (by decide) rfl (fun h25 => ?_) (fun h25 => ?_)
    · exact absurd h25 (by decide)
    · refine j_iconst E (0) 29 dX8_shown_28 (by decide) rfl ?_
      refine j_goto E 42 dX8_shown_29 (by decide) ?_
      refine mga_close r 1 np cd pl pg (pm + 3001) (by repeat (first | with_reducible exact pick_0 | with_reducible apply pick_s | exact sel_0 | apply sel_s)) ?_ ⟨hgd, hRl, hmk, by omega⟩ ?_
      · exact ⟨rfl, rfl, rfl, rfl, rfl, rfl, rfl, rfl, rfl⟩
      · exact j_iret E B rfl 0 0 dX8_shown_42 (by repeat (first | with_reducible exact pick_0 | with_reducible apply pick_s | exact sel_0 | apply sel_s)) ⟨rfl, rfl, rfl, rfl⟩ (by omega) (by omega) (by omega) (by omega)
  refine j_aload_n E 1 dX8_shown_0 0 rfl rfl rfl ?_
  refine j_iload_n E 2 dX8_shown_1 1 rfl rfl rfl ?_
  refine j_if_lt E 17 5 dX8_shown_2 (by decide) rfl (fun h2 => ?_) (fun h2 => ?_)
  · exact no (by rw [inB, decide_eq_false (fun y => y h2), Bool.false_and])
  · refine j_iload_n E 6 dX8_shown_5 1 rfl rfl rfl ?_
    refine j_aload_n E 7 dX8_shown_6 0 rfl rfl rfl ?_
    refine j_getf E 10 dX8_shown_7 fl_X8_263 (by repeat (first | with_reducible exact pick_0 | with_reducible apply pick_s)) (by rfl) rfl ?_
    refine j_icmp_ge E 17 13 dX8_shown_10 (by decide) rfl (fun h10 => ?_) (fun h10 => ?_)
    · exact no (by rw [inB, decide_eq_false (p := i < nI out.length) (fun y => absurd h10 (Int32.not_le.mpr y)), Bool.and_false])
    · have e : inB i out.length = true := by
        rw [inB, decide_eq_true h2, decide_eq_true (Int32.not_le.mp h10)]
        rfl
      obtain ⟨j, hj, rfl⟩ := inB_t (by omega) e
      have e1 : sShown (nI j) (tape, us, np, nb, out, cd, pl) = (0, nI (out.getD j 0).toNat, (tape, us, np, nb, out, cd, pl)) := by
        unfold sShown
        dsimp only
        rw [if_pos e, nI_clamp (by omega)]
      rw [e1] at B
      dsimp only at B
      refine j_iconst E (0) 14 dX8_shown_13 (by decide) rfl ?_
      refine j_goto E 18 dX8_shown_14 (by decide) ?_
      refine j_putf E 21 dX8_shown_18 fl_X8_71 (by repeat (first | with_reducible exact pick_0 | with_reducible apply pick_s)) rfl rfl (Nat.le_of_ble_eq_true rfl) rfl ?_
      dsimp only [List.set]
      refine j_aload_n E 22 dX8_shown_21 0 rfl rfl rfl ?_
      refine j_getf E 25 dX8_shown_22 fl_X8_71 (by repeat (first | with_reducible exact pick_0 | with_reducible apply pick_s)) (by rfl) rfl ?_
      refine j_if_le E 32 28 dX8_shown_25 (by decide) rfl (fun h25 => ?_) (fun h25 => ?_)
      · refine j_aload_n E 33 dX8_shown_32 0 rfl rfl rfl ?_
        refine j_getf E 36 dX8_shown_33 fl_X8_14 (by repeat (first | with_reducible exact pick_0 | with_reducible apply pick_s)) (by rfl) rfl ?_
        refine j_iload_n E 37 dX8_shown_36 1 rfl rfl rfl ?_
        refine j_baldBA E 38 dX8_shown_37 (by repeat (first | with_reducible exact pick_0 | with_reducible apply pick_s)) hj rfl ?_
        refine j_sipush E (255) 41 dX8_shown_38 (by decide) rfl ?_
        refine j_iand E 42 dX8_shown_41 rfl ?_
        refine j_eqi (by8_bN out j) ?_
        refine mga_close r 0 np cd pl pg (pm + 3001) (by repeat (first | with_reducible exact pick_0 | with_reducible apply pick_s | exact sel_0 | apply sel_s)) ?_ ⟨hgd, hRl, hmk, by omega⟩ ?_
        · exact ⟨rfl, rfl, rfl, rfl, rfl, rfl, rfl, rfl, rfl⟩
        · exact j_iret E B rfl 0 0 dX8_shown_42 (by repeat (first | with_reducible exact pick_0 | with_reducible apply pick_s | exact sel_0 | apply sel_s)) ⟨rfl, rfl, rfl, rfl⟩ (by omega) (by omega) (by omega) (by omega)
      · exact absurd (by decide) h25
set_option maxHeartbeats 8000000 in
theorem c_mg_count {g : GT} (hG : GLB g) (d m : Nat) (th : Int32) (tape : List UInt8) (us : List VT) (np nb : Nat) (out : List UInt8) (cd pl pm : Nat) (w : Int32) (hd : 2 ≤ d) : CtrV g mX8_count 7 d 0 0 m [.int w] [MGA g m th (tape, us, np, nb, out, cd, pl) pm] (mgo g m pm (sCount w (tape, us, np, nb, out, cd, pl))) noX := by
  refine ⟨mga_rcv, ?_⟩
  refine ctr_intro hG (by decide +kernel) (Nat.le_of_ble_eq_true rfl) ?_
  rintro X F rfl E B hI T
  replace E : JE X RX8 cX8_count 2 d 0 0 := E
  show J X _ [MGA X.1 m th (tape, us, np, nb, out, cd, pl) pm, F] 0 0 0 [some (.ref m), some (.int w)] []
  refine mga_open (by repeat (first | with_reducible exact pick_0 | with_reducible apply pick_s)) ?_
  intro r pkd cm fu op at_ bgc got pr pg zs R mk gs hS
  dsimp only [MGL, List.cons_append, List.nil_append]
  obtain ⟨hgd, hRl, hmk, hpg⟩ := hS
  dsimp only at hgd hRl
  refine j_know (pick_know (P := TB X.1 r us zs R nb mk) (by repeat (first | with_reducible exact pick_0 | with_reducible apply pick_s)) tb_know) (fun hk9 => ?_)
  refine j_know (pick_know (P := BA X.1 (r 1) tape) (by repeat (first | with_reducible exact pick_0 | with_reducible apply pick_s)) ba_know) (fun hbl => ?_)
  refine j_know (pick_know (P := BA X.1 (r 3) out) (by repeat (first | with_reducible exact pick_0 | with_reducible apply pick_s)) ba_know) (fun hbo => ?_)
  unfold mgo at B
  have no : sCount w (tape, us, np, nb, out, cd, pl) = (1, 0, (tape, us, np, nb, out, cd, pl)) → J X 2 [MF m r th (nI tape.length) (nI out.length) (nI us.length) (nI R.length) (nI nb) pkd (nI pg) cm fu op (nI cd) (nI pl) at_ bgc got pr, BA X.1 (r 1) tape, BA X.1 (r 3) out, BA X.1 (r 18) [], BA X.1 (r 19) [], TB X.1 r us zs R nb mk, GS X.1 r gs, OD X.1 r [], PL X.1 r [], F] 0 0 14 [some (.ref m), some (.int w)] [.ref m] := by
    intro e
    rw [e] at B
    dsimp only at B
    refine j_iconst E (1) 15 dX8_count_14 (by decide) rfl ?_
    refine j_putf E 18 dX8_count_15 fl_X8_71 (by repeat (first | with_reducible exact pick_0 | with_reducible apply pick_s)) rfl rfl (Nat.le_of_ble_eq_true rfl) rfl ?_
    dsimp only [List.set]
    refine j_aload_n E 19 dX8_count_18 0 rfl rfl rfl ?_
    refine j_getf E 22 dX8_count_19 fl_X8_71 (by repeat (first | with_reducible exact pick_0 | with_reducible apply pick_s)) (by rfl) rfl ?_
    refine j_if_le E 27 25 dX8_count_22 (by decide) rfl (fun h22 => ?_) (fun h22 => ?_)
    · exact absurd h22 (by decide)
    · refine j_iconst E (0) 26 dX8_count_25 (by decide) rfl ?_
      refine mga_close r 1 np cd pl pg (pm + 3001) (by repeat (first | with_reducible exact pick_0 | with_reducible apply pick_s | exact sel_0 | apply sel_s)) ?_ ⟨hgd, hRl, hmk, by omega⟩ ?_
      · exact ⟨rfl, rfl, rfl, rfl, rfl, rfl, rfl, rfl, rfl⟩
      · exact j_iret E B rfl 0 0 dX8_count_26 (by repeat (first | with_reducible exact pick_0 | with_reducible apply pick_s | exact sel_0 | apply sel_s)) ⟨rfl, rfl, rfl, rfl⟩ (by omega) (by omega) (by omega) (by omega)
  have yes : ∀ (v : Int32) , sCount w (tape, us, np, nb, out, cd, pl) = (0, v, (tape, us, np, nb, out, cd, pl)) → J X 2 [MF m r 0 (nI tape.length) (nI out.length) (nI us.length) (nI R.length) (nI nb) pkd (nI pg) cm fu op (nI cd) (nI pl) at_ bgc got pr, BA X.1 (r 1) tape, BA X.1 (r 3) out, BA X.1 (r 18) [], BA X.1 (r 19) [], TB X.1 r us zs R nb mk, GS X.1 r gs, OD X.1 r [], PL X.1 r [], F] 0 0 78 [some (.ref m), some (.int w)] [.int v] := by
    intro v e
    rw [e] at B
    dsimp only at B
    refine mga_close r 0 np cd pl pg (pm + 3001) (by repeat (first | with_reducible exact pick_0 | with_reducible apply pick_s | exact sel_0 | apply sel_s)) ?_ ⟨hgd, hRl, hmk, by omega⟩ ?_
    · exact ⟨rfl, rfl, rfl, rfl, rfl, rfl, rfl, rfl, rfl⟩
    · exact j_iret E B rfl 0 0 dX8_count_78 (by repeat (first | with_reducible exact pick_0 | with_reducible apply pick_s | exact sel_0 | apply sel_s)) ⟨rfl, rfl, rfl, rfl⟩ (by omega) (by omega) (by omega) (by omega)
  refine j_aload_n E 1 dX8_count_0 0 rfl rfl rfl ?_
  refine j_iload_n E 2 dX8_count_1 1 rfl rfl rfl ?_
  refine j_if_lt E 14 5 dX8_count_2 (by decide) rfl (fun h2 => ?_) (fun h2 => ?_)
  · exact no ((if_neg (fun q => by rw [q] at h2; exact absurd h2 (by decide))).trans ((if_neg (fun q => by rw [q] at h2; exact absurd h2 (by decide))).trans ((if_neg (fun q => by rw [q] at h2; exact absurd h2 (by decide))).trans ((if_neg (fun q => by rw [q] at h2; exact absurd h2 (by decide))).trans (if_neg (fun q => by rw [q] at h2; exact absurd h2 (by decide)))))))
  · refine j_iload_n E 6 dX8_count_5 1 rfl rfl rfl ?_
    refine j_iconst E (4) 7 dX8_count_6 (by decide) rfl ?_
    refine j_icmp_gt E 14 10 dX8_count_7 (by decide) rfl (fun h7 => ?_) (fun h7 => ?_)
    · exact no ((if_neg (fun q => by rw [q] at h7; exact absurd h7 (by decide))).trans ((if_neg (fun q => by rw [q] at h7; exact absurd h7 (by decide))).trans ((if_neg (fun q => by rw [q] at h7; exact absurd h7 (by decide))).trans ((if_neg (fun q => by rw [q] at h7; exact absurd h7 (by decide))).trans (if_neg (fun q => by rw [q] at h7; exact absurd h7 (by decide)))))))
    · refine j_iconst E (0) 11 dX8_count_10 (by decide) rfl ?_
      refine j_goto E 15 dX8_count_11 (by decide) ?_
      refine j_putf E 18 dX8_count_15 fl_X8_71 (by repeat (first | with_reducible exact pick_0 | with_reducible apply pick_s)) rfl rfl (Nat.le_of_ble_eq_true rfl) rfl ?_
      dsimp only [List.set]
      refine j_aload_n E 19 dX8_count_18 0 rfl rfl rfl ?_
      refine j_getf E 22 dX8_count_19 fl_X8_71 (by repeat (first | with_reducible exact pick_0 | with_reducible apply pick_s)) (by rfl) rfl ?_
      refine j_if_le E 27 25 dX8_count_22 (by decide) rfl (fun h22 => ?_) (fun h22 => ?_)
      · refine j_iload_n E 28 dX8_count_27 1 rfl rfl rfl ?_
        refine j_if_ne E 38 31 dX8_count_28 (by decide) rfl (fun h28 => ?_) (fun h28 => ?_)
        · refine j_iload_n E 39 dX8_count_38 1 rfl rfl rfl ?_
          refine j_iconst E (1) 40 dX8_count_39 (by decide) rfl ?_
          refine j_icmp_ne E 50 43 dX8_count_40 (by decide) rfl (fun h40 => ?_) (fun h40 => ?_)
          · refine j_iload_n E 51 dX8_count_50 1 rfl rfl rfl ?_
            refine j_iconst E (2) 52 dX8_count_51 (by decide) rfl ?_
            refine j_icmp_ne E 62 55 dX8_count_52 (by decide) rfl (fun h52 => ?_) (fun h52 => ?_)
            · refine j_iload_n E 63 dX8_count_62 1 rfl rfl rfl ?_
              refine j_iconst E (3) 64 dX8_count_63 (by decide) rfl ?_
              refine j_icmp_ne E 74 67 dX8_count_64 (by decide) rfl (fun h64 => ?_) (fun h64 => ?_)
              · refine j_aload_n E 75 dX8_count_74 0 rfl rfl rfl ?_
                refine j_getf E 78 dX8_count_75 fl_X8_263 (by repeat (first | with_reducible exact pick_0 | with_reducible apply pick_s)) (by rfl) rfl ?_
                have w4 : w = 4 := by
                  rw [fa_lt] at h2 h7
                  rw [fa_eq] at h28 h40 h52 h64 ⊢
                  have z0 : (0 : Int32).toInt = 0 := by decide
                  have z1 : (1 : Int32).toInt = 1 := by decide
                  have z2 : (2 : Int32).toInt = 2 := by decide
                  have z3 : (3 : Int32).toInt = 3 := by decide
                  have z4 : (4 : Int32).toInt = 4 := by decide
                  rw [z0] at h2 h28
                  rw [z1] at h40
                  rw [z2] at h52
                  rw [z3] at h64
                  rw [z4] at h7 ⊢
                  omega
                exact yes _ ((if_neg h28).trans ((if_neg h40).trans ((if_neg h52).trans ((if_neg h64).trans (if_pos w4)))))
              · refine j_aload_n E 68 dX8_count_67 0 rfl rfl rfl ?_
                refine j_getf E 71 dX8_count_68 fl_X8_88 (by repeat (first | with_reducible exact pick_0 | with_reducible apply pick_s)) (by rfl) rfl ?_
                refine j_goto E 78 dX8_count_71 (by decide) ?_
                exact yes _ ((if_neg h28).trans ((if_neg h40).trans ((if_neg h52).trans (if_pos h64))))
            · refine j_aload_n E 56 dX8_count_55 0 rfl rfl rfl ?_
              refine j_getf E 59 dX8_count_56 fl_X8_114 (by repeat (first | with_reducible exact pick_0 | with_reducible apply pick_s)) (by rfl) rfl ?_
              refine j_goto E 78 dX8_count_59 (by decide) ?_
              exact yes _ ((if_neg h28).trans ((if_neg h40).trans (if_pos h52)))
          · refine j_aload_n E 44 dX8_count_43 0 rfl rfl rfl ?_
            refine j_getf E 47 dX8_count_44 fl_X8_117 (by repeat (first | with_reducible exact pick_0 | with_reducible apply pick_s)) (by rfl) rfl ?_
            refine j_goto E 78 dX8_count_47 (by decide) ?_
            refine j_eqi (congrArg nI hRl) ?_
            exact yes _ ((if_neg h28).trans (if_pos h40))
        · refine j_aload_n E 32 dX8_count_31 0 rfl rfl rfl ?_
          refine j_getf E 35 dX8_count_32 fl_X8_107 (by repeat (first | with_reducible exact pick_0 | with_reducible apply pick_s)) (by rfl) rfl ?_
          refine j_goto E 78 dX8_count_35 (by decide) ?_
          exact yes _ (if_pos h28)
      · exact absurd (by decide) h22
theorem c_mg_thrown {g : GT} (hG : GLB g) (d m k pm : Nat) (tape : List UInt8) (us : List VT) (np nb : Nat) (out : List UInt8) (cd pl : Nat) : CtrV g mX8_thrown 7 d 0 0 m [] [MGA g m (nI k) (tape, us, np, nb, out, cd, pl) pm] (fun o dc ds ws' => o = some (.int (nI k)) ∧ dc = 0 ∧ ds = 0 ∧ ws' = [MGA g m (nI k) (tape, us, np, nb, out, cd, pl) pm]) noX := by
  refine ⟨mga_rcv, ?_⟩
  refine ctr_intro hG (by decide +kernel) (Nat.le_of_ble_eq_true rfl) ?_
  rintro X F rfl E B hI T
  replace E : JE X RX8 cX8_thrown 1 d 0 0 := E
  show J X _ [MGA X.1 m (nI k) (tape, us, np, nb, out, cd, pl) pm, F] 0 0 0 [some (.ref m)] []
  refine mga_open (by repeat (first | with_reducible exact pick_0 | with_reducible apply pick_s)) ?_
  intro r pkd cm fu op at_ bgc got pr pg zs R mk gs hS
  dsimp only [MGL, List.cons_append, List.nil_append]
  obtain ⟨hgd, hRl, hmk, hpg⟩ := hS
  dsimp only at hgd hRl
  refine j_aload_n E 1 dX8_thrown_0 0 rfl rfl rfl ?_
  refine j_getf E 4 dX8_thrown_1 fl_X8_71 (by repeat (first | with_reducible exact pick_0 | with_reducible apply pick_s)) (by rfl) rfl ?_
  refine mga_close r k np cd pl pg pm (by repeat (first | with_reducible exact pick_0 | with_reducible apply pick_s | exact sel_0 | apply sel_s)) ?_ ⟨hgd, hRl, hmk, by omega⟩ ?_
  · exact ⟨rfl, rfl, rfl, rfl, rfl, rfl, rfl, rfl, rfl⟩
  · exact j_iret E B rfl 0 0 dX8_thrown_4 (by repeat (first | with_reducible exact pick_0 | with_reducible apply pick_s | exact sel_0 | apply sel_s)) ⟨rfl, rfl, rfl, rfl⟩ (by omega) (by omega) (by omega) (by omega)

/-! the model: end, skip -/
set_option maxHeartbeats 8000000 in
theorem c_mg_end {g : GT} (hG : GLB g) (d m : Nat) (th : Int32) (tape : List UInt8) (us : List VT) (np nb : Nat) (out : List UInt8) (cd pl pm : Nat) (x : Int32) (hd : 2 ≤ d) : CtrV g mX8_end 7 d 0 0 m [.int x] [MGA g m th (tape, us, np, nb, out, cd, pl) pm] (fun o dc ds ws' => o = none ∧ dc = 0 ∧ ds = 0 ∧ ws' = [MGA g m (nI (sEnd x (tape, us, np, nb, out, cd, pl)).1) (sEnd x (tape, us, np, nb, out, cd, pl)).2.2 (pm + 3001)]) noX := by
  refine ⟨mga_rcv, ?_⟩
  refine ctr_intro hG (by decide +kernel) (Nat.le_of_ble_eq_true rfl) ?_
  rintro X F rfl E B hI T
  replace E : JE X RX8 cX8_end 2 d 0 0 := E
  show J X _ [MGA X.1 m th (tape, us, np, nb, out, cd, pl) pm, F] 0 0 0 [some (.ref m), some (.int x)] []
  refine mga_open (by repeat (first | with_reducible exact pick_0 | with_reducible apply pick_s)) ?_
  intro r pkd cm fu op at_ bgc got pr pg zs R mk gs hS
  dsimp only [MGL, List.cons_append, List.nil_append]
  obtain ⟨hgd, hRl, hmk, hpg⟩ := hS
  dsimp only at hgd hRl
  refine j_know (pick_know (P := BA X.1 (r 1) tape) (by repeat (first | with_reducible exact pick_0 | with_reducible apply pick_s)) ba_know) (fun hbl => ?_)
  have no : inB x (tape.length + 1) = false → J X 2 [MF m r th (nI tape.length) (nI out.length) (nI us.length) (nI R.length) (nI nb) pkd (nI pg) cm fu op (nI cd) (nI pl) at_ bgc got pr, BA X.1 (r 1) tape, BA X.1 (r 3) out, BA X.1 (r 18) [], BA X.1 (r 19) [], TB X.1 r us zs R nb mk, GS X.1 r gs, OD X.1 r [], PL X.1 r [], F] 0 0 17 [some (.ref m), some (.int x)] [.ref m] := by
    intro e
    rw [show sEnd x (tape, us, np, nb, out, cd, pl) = (1, 0, (tape, us, np, nb, out, cd, pl)) from if_neg (by dsimp only; rw [e]; decide)] at B
    dsimp only at B
    refine j_iconst E (1) 18 dX8_end_17 (by decide) rfl ?_
    refine j_putf E 21 dX8_end_18 fl_X8_71 (by repeat (first | with_reducible exact pick_0 | with_reducible apply pick_s)) rfl rfl (Nat.le_of_ble_eq_true rfl) rfl ?_
    dsimp only [List.set]
    refine j_aload_n E 22 dX8_end_21 0 rfl rfl rfl ?_
    refine j_aload_n E 23 dX8_end_22 0 rfl rfl rfl ?_
    refine j_getf E 26 dX8_end_23 fl_X8_71 (by repeat (first | with_reducible exact pick_0 | with_reducible apply pick_s)) (by rfl) rfl ?_
    refine j_if_le E 36 29 dX8_end_26 (by decide) rfl (fun h26 => ?_) (fun h26 => ?_)
    · exact absurd h26 (by decide)
    · refine j_aload_n E 30 dX8_end_29 0 rfl rfl rfl ?_
      refine j_getf E 33 dX8_end_30 fl_X8_88 (by repeat (first | with_reducible exact pick_0 | with_reducible apply pick_s)) (by rfl) rfl ?_
      refine j_goto E 37 dX8_end_33 (by decide) ?_
      refine j_putf E 40 dX8_end_37 fl_X8_88 (by repeat (first | with_reducible exact pick_0 | with_reducible apply pick_s)) rfl rfl (Nat.le_of_ble_eq_true rfl) rfl ?_
      dsimp only [List.set]
      refine mga_close r 1 np cd pl pg (pm + 3001) (by repeat (first | with_reducible exact pick_0 | with_reducible apply pick_s | exact sel_0 | apply sel_s)) ?_ ⟨hgd, hRl, hmk, by omega⟩ ?_
      · exact ⟨rfl, rfl, rfl, rfl, rfl, rfl, rfl, rfl, rfl⟩
      · exact j_vret E B rfl 0 0 dX8_end_40 (by repeat (first | with_reducible exact pick_0 | with_reducible apply pick_s | exact sel_0 | apply sel_s)) ⟨rfl, rfl, rfl, rfl⟩ (by omega) (by omega) (by omega) (by omega)
  refine j_aload_n E 1 dX8_end_0 0 rfl rfl rfl ?_
  refine j_iload_n E 2 dX8_end_1 1 rfl rfl rfl ?_
  refine j_if_lt E 17 5 dX8_end_2 (by decide) rfl (fun h2 => ?_) (fun h2 => ?_)
  · exact no (by rw [inB, decide_eq_false (fun y => y h2), Bool.false_and])
  · refine j_iload_n E 6 dX8_end_5 1 rfl rfl rfl ?_
    refine j_aload_n E 7 dX8_end_6 0 rfl rfl rfl ?_
    refine j_getf E 10 dX8_end_7 fl_X8_88 (by repeat (first | with_reducible exact pick_0 | with_reducible apply pick_s)) (by rfl) rfl ?_
    refine j_icmp_gt E 17 13 dX8_end_10 (by decide) rfl (fun h10 => ?_) (fun h10 => ?_)
    · exact no (by rw [inB, decide_eq_false (p := x < nI (tape.length + 1)) (fun y => by
        rw [fa_lt] at h10 y
        rw [nI_toInt (by omega)] at h10 y
        omega), Bool.and_false])
    · have e : inB x (tape.length + 1) = true := by
        rw [inB, decide_eq_true h2, decide_eq_true (show x < nI (tape.length + 1) by
          rw [fa_lt] at h10 ⊢
          rw [nI_toInt (by omega)] at h10 ⊢
          omega)]
        rfl
      obtain ⟨j, hj, rfl⟩ := inB_t (by omega) e
      have e1 : sEnd (nI j) (tape, us, np, nb, out, cd, pl) = (0, 0, (tape.take j, us, np, nb, out, cd, pl)) := by
        unfold sEnd
        dsimp only
        rw [if_pos e, nI_clamp (by omega)]
      rw [e1] at B
      dsimp only at B
      refine j_iconst E (0) 14 dX8_end_13 (by decide) rfl ?_
      refine j_goto E 18 dX8_end_14 (by decide) ?_
      refine j_putf E 21 dX8_end_18 fl_X8_71 (by repeat (first | with_reducible exact pick_0 | with_reducible apply pick_s)) rfl rfl (Nat.le_of_ble_eq_true rfl) rfl ?_
      dsimp only [List.set]
      refine j_aload_n E 22 dX8_end_21 0 rfl rfl rfl ?_
      refine j_aload_n E 23 dX8_end_22 0 rfl rfl rfl ?_
      refine j_getf E 26 dX8_end_23 fl_X8_71 (by repeat (first | with_reducible exact pick_0 | with_reducible apply pick_s)) (by rfl) rfl ?_
      refine j_if_le E 36 29 dX8_end_26 (by decide) rfl (fun h26 => ?_) (fun h26 => ?_)
      · refine j_iload_n E 37 dX8_end_36 1 rfl rfl rfl ?_
        refine j_putf E 40 dX8_end_37 fl_X8_88 (by repeat (first | with_reducible exact pick_0 | with_reducible apply pick_s)) rfl rfl (Nat.le_of_ble_eq_true rfl) rfl ?_
        dsimp only [List.set]
        refine j_open (by repeat (first | with_reducible exact pick_0 | with_reducible apply pick_s)) ba_open ?_
        rintro f ⟨hf1, hf2, hf3⟩
        dsimp only [List.cons_append, List.nil_append]
        refine j_close (by repeat (first | with_reducible exact pick_0 | with_reducible apply pick_s | exact sel_0 | apply sel_s)) (P := BA X.1 (r 1) (tape.take j)) (ba_of hf1 (fun t ht => by
          rw [List.length_take] at ht
          rw [List.getD_eq_getElem?_getD, List.getElem?_take_of_lt (by omega), ← List.getD_eq_getElem?_getD]
          exact hf2 t (by omega)) (by rw [List.length_take]; omega)) ?_
        refine mga_close r 0 np cd pl pg (pm + 3001) (by repeat (first | with_reducible exact pick_0 | with_reducible apply pick_s | exact sel_0 | apply sel_s)) ?_ ⟨hgd, hRl, hmk, by omega⟩ ?_
        · exact ⟨rfl, by rw [List.length_take, Nat.min_eq_left (by omega)], rfl, rfl, rfl, rfl, rfl, rfl, rfl⟩
        · exact j_vret E B rfl 0 0 dX8_end_40 (by repeat (first | with_reducible exact pick_0 | with_reducible apply pick_s | exact sel_0 | apply sel_s)) ⟨rfl, rfl, rfl, rfl⟩ (by omega) (by omega) (by omega) (by omega)
      · exact absurd (by decide) h26
set_option maxHeartbeats 8000000 in
theorem c_mg_skip {g : GT} (hG : GLB g) (d m : Nat) (th : Int32) (tape : List UInt8) (us : List VT) (np nb : Nat) (out : List UInt8) (cd pl pm : Nat) (x : Int32) (hd : 5 ≤ d) : CtrV g mX8_skip 7 d 0 0 m [.int x] [MGA g m th (tape, us, np, nb, out, cd, pl) pm] (mgo g m pm (sSkip x (tape, us, np, nb, out, cd, pl))) noX := by
  refine ⟨mga_rcv, ?_⟩
  refine ctr_intro hG (by decide +kernel) (Nat.le_of_ble_eq_true rfl) ?_
  rintro X F rfl E B hI T
  replace E : JE X RX8 cX8_skip 10 d 0 0 := E
  show J X _ [MGA X.1 m th (tape, us, np, nb, out, cd, pl) pm, F] 0 0 0 [some (.ref m), some (.int x), none, none, none, none, none, none, none, none] []
  refine mga_open (by repeat (first | with_reducible exact pick_0 | with_reducible apply pick_s)) ?_
  intro r pkd cm fu op at_ bgc got pr pg zs R mk gs hS
  dsimp only [MGL, List.cons_append, List.nil_append]
  obtain ⟨hgd, hRl, hmk, hpg⟩ := hS
  dsimp only at hgd hRl
  refine j_know (pick_know (P := TB X.1 r us zs R nb mk) (by repeat (first | with_reducible exact pick_0 | with_reducible apply pick_s)) tb_know) (fun hk9 => ?_)
  refine j_know (pick_know (P := BA X.1 (r 1) tape) (by repeat (first | with_reducible exact pick_0 | with_reducible apply pick_s)) ba_know) (fun hbl => ?_)
  refine j_know (pick_know (P := BA X.1 (r 3) out) (by repeat (first | with_reducible exact pick_0 | with_reducible apply pick_s)) ba_know) (fun hbo => ?_)
  unfold mgo at B
  have no : inB x tape.length = false → J X 10 [MF m r th (nI tape.length) (nI out.length) (nI us.length) (nI R.length) (nI nb) pkd (nI pg) cm fu op (nI cd) (nI pl) at_ bgc got pr, BA X.1 (r 1) tape, BA X.1 (r 3) out, BA X.1 (r 18) [], BA X.1 (r 19) [], TB X.1 r us zs R nb mk, GS X.1 r gs, OD X.1 r [], PL X.1 r [], F] 0 0 17 [some (.ref m), some (.int x), none, none, none, none, none, none, none, none] [.ref m] := by
    intro e
    rw [show sSkip x (tape, us, np, nb, out, cd, pl) = (1, 0, (tape, us, np, nb, out, cd, pl)) from if_neg (by dsimp only; rw [e]; decide)] at B
    dsimp only at B
    refine j_iconst E (1) 18 dX8_skip_17 (by decide) rfl ?_
    refine j_putf E 21 dX8_skip_18 fl_X8_71 (by repeat (first | with_reducible exact pick_0 | with_reducible apply pick_s)) rfl rfl (Nat.le_of_ble_eq_true rfl) rfl ?_
    dsimp only [List.set]
    refine j_aload_n E 22 dX8_skip_21 0 rfl rfl rfl ?_
    refine j_getf E 25 dX8_skip_22 fl_X8_71 (by repeat (first | with_reducible exact pick_0 | with_reducible apply pick_s)) (by rfl) rfl ?_
    refine j_if_le E 30 28 dX8_skip_25 (by decide) rfl (fun h25 => ?_) (fun h25 => ?_)
    · exact absurd h25 (by decide)
    · refine j_iconst E (0) 29 dX8_skip_28 (by decide) rfl ?_
      refine mga_close r 1 np cd pl pg (pm + 3001) (by repeat (first | with_reducible exact pick_0 | with_reducible apply pick_s | exact sel_0 | apply sel_s)) ?_ ⟨hgd, hRl, hmk, by omega⟩ ?_
      · exact ⟨rfl, rfl, rfl, rfl, rfl, rfl, rfl, rfl, rfl⟩
      · exact j_iret E B rfl 0 0 dX8_skip_29 (by repeat (first | with_reducible exact pick_0 | with_reducible apply pick_s | exact sel_0 | apply sel_s)) ⟨rfl, rfl, rfl, rfl⟩ (by omega) (by omega) (by omega) (by omega)
  refine j_aload_n E 1 dX8_skip_0 0 rfl rfl rfl ?_
  refine j_iload_n E 2 dX8_skip_1 1 rfl rfl rfl ?_
  refine j_if_lt E 17 5 dX8_skip_2 (by decide) rfl (fun h2 => ?_) (fun h2 => ?_)
  · exact no (by rw [inB, decide_eq_false (fun y => y h2), Bool.false_and])
  · refine j_iload_n E 6 dX8_skip_5 1 rfl rfl rfl ?_
    refine j_aload_n E 7 dX8_skip_6 0 rfl rfl rfl ?_
    refine j_getf E 10 dX8_skip_7 fl_X8_88 (by repeat (first | with_reducible exact pick_0 | with_reducible apply pick_s)) (by rfl) rfl ?_
    refine j_icmp_ge E 17 13 dX8_skip_10 (by decide) rfl (fun h10 => ?_) (fun h10 => ?_)
    · exact no (by rw [inB, decide_eq_false (p := x < nI tape.length) (fun y => absurd h10 (Int32.not_le.mpr y)), Bool.and_false])
    · have e : inB x tape.length = true := by
        rw [inB, decide_eq_true h2, decide_eq_true (Int32.not_le.mp h10)]
        rfl
      obtain ⟨j, hj, rfl⟩ := inB_t (by omega) e
      have e1 : sSkip (nI j) (tape, us, np, nb, out, cd, pl) = (0, oI (skV tape (tape.length - j) j 1), (tape, us, np, nb, out, cd, pl)) := by
        unfold sSkip
        dsimp only
        rw [if_pos e, nI_clamp (by omega)]
      rw [e1] at B
      dsimp only at B
      obtain ⟨R9, hR9⟩ : ∃ R9, R9 = skV tape (tape.length - j) j 1 := ⟨_, rfl⟩
      rw [← hR9] at B
      have bad54 : ∀ (u k : Nat) (l6 l7 l8 : Option Value), R9 = none → J X 10 [MF m r 0 (nI tape.length) (nI out.length) (nI us.length) (nI R.length) (nI nb) pkd (nI pg) cm fu op (nI cd) (nI pl) at_ bgc got pr, BA X.1 (r 1) tape, BA X.1 (r 3) out, BA X.1 (r 18) [], BA X.1 (r 19) [], TB X.1 r us zs R nb mk, GS X.1 r gs, OD X.1 r [], PL X.1 r [], F] 0 0 54 [some (.ref m), some (.int (nI j)), some (.long (lN (u))), none, some (.long (lN (k))), none, l6, l7, l8, none] [.int (-1)] := by
        intro u k l6 l7 l8 hn
        rw [hn, show oI none = -1 from rfl] at B
        refine mga_close r 0 np cd pl pg (pm + 3001) (by repeat (first | with_reducible exact pick_0 | with_reducible apply pick_s | exact sel_0 | apply sel_s)) ?_ ⟨hgd, hRl, hmk, by omega⟩ ?_
        · exact ⟨rfl, rfl, rfl, rfl, rfl, rfl, rfl, rfl, rfl⟩
        · exact j_iret E B rfl 0 0 dX8_skip_54 (by repeat (first | with_reducible exact pick_0 | with_reducible apply pick_s | exact sel_0 | apply sel_s)) ⟨rfl, rfl, rfl, rfl⟩ (by omega) (by omega) (by omega) (by omega)
      have bad100 : ∀ (u k : Nat) (l6 l7 l8 : Option Value), R9 = none → J X 10 [MF m r 0 (nI tape.length) (nI out.length) (nI us.length) (nI R.length) (nI nb) pkd (nI pg) cm fu op (nI cd) (nI pl) at_ bgc got pr, BA X.1 (r 1) tape, BA X.1 (r 3) out, BA X.1 (r 18) [], BA X.1 (r 19) [], TB X.1 r us zs R nb mk, GS X.1 r gs, OD X.1 r [], PL X.1 r [], F] 0 0 100 [some (.ref m), some (.int (nI j)), some (.long (lN (u))), none, some (.long (lN (k))), none, l6, l7, l8, none] [.int (-1)] := by
        intro u k l6 l7 l8 hn
        rw [hn, show oI none = -1 from rfl] at B
        refine mga_close r 0 np cd pl pg (pm + 3001) (by repeat (first | with_reducible exact pick_0 | with_reducible apply pick_s | exact sel_0 | apply sel_s)) ?_ ⟨hgd, hRl, hmk, by omega⟩ ?_
        · exact ⟨rfl, rfl, rfl, rfl, rfl, rfl, rfl, rfl, rfl⟩
        · exact j_iret E B rfl 0 0 dX8_skip_100 (by repeat (first | with_reducible exact pick_0 | with_reducible apply pick_s | exact sel_0 | apply sel_s)) ⟨rfl, rfl, rfl, rfl⟩ (by omega) (by omega) (by omega) (by omega)
      have over : ∀ (u k : Nat) (l6 l7 l8 : Option Value), tape.length < k → k < 2 ^ 40 → u < 2 ^ 52 → R9 = none → J X 10 [MF m r 0 (nI tape.length) (nI out.length) (nI us.length) (nI R.length) (nI nb) pkd (nI pg) cm fu op (nI cd) (nI pl) at_ bgc got pr, BA X.1 (r 1) tape, BA X.1 (r 3) out, BA X.1 (r 18) [], BA X.1 (r 19) [], TB X.1 r us zs R nb mk, GS X.1 r gs, OD X.1 r [], PL X.1 r [], F] 0 0 36 [some (.ref m), some (.int (nI j)), some (.long (lN (u))), none, some (.long (lN (k))), none, l6, l7, l8, none] [] := by
        intro u k l6 l7 l8 hk hk2 hu hn
        refine j_lload_n E 37 dX8_skip_36 2 rfl rfl rfl ?_
        refine j_lconst E 0 38 dX8_skip_37 rfl rfl ?_
        refine j_lcmp E 39 dX8_skip_38 rfl ?_
        refine j_if_le E 175 42 dX8_skip_39 (by decide) rfl (fun h39 => ?_) (fun h39 => ?_)
        · refine j_lload E 177 dX8_skip_175 rfl rfl ?_
          refine j_aload_n E 178 dX8_skip_177 0 rfl rfl rfl ?_
          refine j_getf E 181 dX8_skip_178 fl_X8_88 (by repeat (first | with_reducible exact pick_0 | with_reducible apply pick_s)) (by rfl) rfl ?_
          refine j_i2l E 182 dX8_skip_181 rfl ?_
          refine j_eql (nI_l (by omega)) ?_
          refine j_lcmp E 183 dX8_skip_182 rfl ?_
          refine j_if_le E 190 186 dX8_skip_183 (by decide) rfl (fun h183 => ?_) (fun h183 => ?_)
          · have q2 := (fa_le64 _ _).mp ((lg_cmp_le _ _).mp h183)
            rw [lN_tiB (by omega), lN_tiB (by omega)] at q2
            omega
          · rw [hn, show oI none = -1 from rfl] at B
            refine j_iconst E (-1) 187 dX8_skip_186 (by decide) rfl ?_
            refine j_goto E 193 dX8_skip_187 (by decide) ?_
            refine mga_close r 0 np cd pl pg (pm + 3001) (by repeat (first | with_reducible exact pick_0 | with_reducible apply pick_s | exact sel_0 | apply sel_s)) ?_ ⟨hgd, hRl, hmk, by omega⟩ ?_
            · exact ⟨rfl, rfl, rfl, rfl, rfl, rfl, rfl, rfl, rfl⟩
            · exact j_iret E B rfl 0 0 dX8_skip_193 (by repeat (first | with_reducible exact pick_0 | with_reducible apply pick_s | exact sel_0 | apply sel_s)) ⟨rfl, rfl, rfl, rfl⟩ (by omega) (by omega) (by omega) (by omega)
        · refine j_lload E 44 dX8_skip_42 rfl rfl ?_
          refine j_aload_n E 45 dX8_skip_44 0 rfl rfl rfl ?_
          refine j_getf E 48 dX8_skip_45 fl_X8_88 (by repeat (first | with_reducible exact pick_0 | with_reducible apply pick_s)) (by rfl) rfl ?_
          refine j_i2l E 49 dX8_skip_48 rfl ?_
          refine j_eql (nI_l (by omega)) ?_
          refine j_lcmp E 50 dX8_skip_49 rfl ?_
          refine j_if_lt E 55 53 dX8_skip_50 (by decide) rfl (fun h50 => ?_) (fun h50 => ?_)
          · have q2 := (fa_lt64 _ _).mp ((lg_cmp_lt _ _).mp h50)
            rw [lN_tiB (by omega), lN_tiB (by omega)] at q2
            omega
          · refine j_iconst E (-1) 54 dX8_skip_53 (by decide) rfl ?_
            exact bad54 _ _ _ _ _ hn
      have main : ∀ (f u k : Nat) (l6 l7 l8 : Option Value), tape.length - k ≤ f → k ≤ tape.length → u ≤ 2 ^ 33 * (k + 1) → R9 = skV tape f k u → J X 10 [MF m r 0 (nI tape.length) (nI out.length) (nI us.length) (nI R.length) (nI nb) pkd (nI pg) cm fu op (nI cd) (nI pl) at_ bgc got pr, BA X.1 (r 1) tape, BA X.1 (r 3) out, BA X.1 (r 18) [], BA X.1 (r 19) [], TB X.1 r us zs R nb mk, GS X.1 r gs, OD X.1 r [], PL X.1 r [], F] 0 0 36 [some (.ref m), some (.int (nI j)), some (.long (lN (u))), none, some (.long (lN (k))), none, l6, l7, l8, none] [] := by
        intro f
        induction f with
        | zero =>
          intro u k l6 l7 l8 hf hk hu hr
          have hkl : k = tape.length := by omega
          refine j_lload_n E 37 dX8_skip_36 2 rfl rfl rfl ?_
          refine j_lconst E 0 38 dX8_skip_37 rfl rfl ?_
          refine j_lcmp E 39 dX8_skip_38 rfl ?_
          refine j_if_le E 175 42 dX8_skip_39 (by decide) rfl (fun h39 => ?_) (fun h39 => ?_)
          · have q2 := (fa_le64 _ _).mp ((lg_cmp_le _ _).mp h39)
            rw [lN_tiB (by omega), show (0 : Int64).toInt = 0 by decide] at q2
            have u0 : u = 0 := by omega
            rw [u0, skV_0] at hr
            rw [hr, show oI (some k) = nI k from rfl] at B
            refine j_lload E 177 dX8_skip_175 rfl rfl ?_
            refine j_aload_n E 178 dX8_skip_177 0 rfl rfl rfl ?_
            refine j_getf E 181 dX8_skip_178 fl_X8_88 (by repeat (first | with_reducible exact pick_0 | with_reducible apply pick_s)) (by rfl) rfl ?_
            refine j_i2l E 182 dX8_skip_181 rfl ?_
            refine j_eql (nI_l (by omega)) ?_
            refine j_lcmp E 183 dX8_skip_182 rfl ?_
            refine j_if_le E 190 186 dX8_skip_183 (by decide) rfl (fun h183 => ?_) (fun h183 => ?_)
            · refine j_lload E 192 dX8_skip_190 rfl rfl ?_
              refine j_l2i E 193 dX8_skip_192 rfl ?_
              rw [lN_i]
              refine mga_close r 0 np cd pl pg (pm + 3001) (by repeat (first | with_reducible exact pick_0 | with_reducible apply pick_s | exact sel_0 | apply sel_s)) ?_ ⟨hgd, hRl, hmk, by omega⟩ ?_
              · exact ⟨rfl, rfl, rfl, rfl, rfl, rfl, rfl, rfl, rfl⟩
              · exact j_iret E B rfl 0 0 dX8_skip_193 (by repeat (first | with_reducible exact pick_0 | with_reducible apply pick_s | exact sel_0 | apply sel_s)) ⟨rfl, rfl, rfl, rfl⟩ (by omega) (by omega) (by omega) (by omega)
            · exact absurd ((lg_cmp_le _ _).mpr ((fa_le64 _ _).mpr (by rw [lN_tiB (by omega), lN_tiB (by omega)]; omega))) h183
          · have q2 : ¬ (lN u).toInt ≤ (0 : Int64).toInt := fun y => h39 ((lg_cmp_le _ _).mpr ((fa_le64 _ _).mpr y))
            rw [lN_tiB (by omega), show (0 : Int64).toInt = 0 by decide] at q2
            rw [skV, if_neg (by omega)] at hr
            refine j_lload E 44 dX8_skip_42 rfl rfl ?_
            refine j_aload_n E 45 dX8_skip_44 0 rfl rfl rfl ?_
            refine j_getf E 48 dX8_skip_45 fl_X8_88 (by repeat (first | with_reducible exact pick_0 | with_reducible apply pick_s)) (by rfl) rfl ?_
            refine j_i2l E 49 dX8_skip_48 rfl ?_
            refine j_eql (nI_l (by omega)) ?_
            refine j_lcmp E 50 dX8_skip_49 rfl ?_
            refine j_if_lt E 55 53 dX8_skip_50 (by decide) rfl (fun h50 => ?_) (fun h50 => ?_)
            · have q3 := (fa_lt64 _ _).mp ((lg_cmp_lt _ _).mp h50)
              rw [lN_tiB (by omega), lN_tiB (by omega)] at q3
              omega
            · refine j_iconst E (-1) 54 dX8_skip_53 (by decide) rfl ?_
              exact bad54 _ _ _ _ _ hr
        | succ f ih =>
          intro u k l6 l7 l8 hf hk hu hr
          refine j_lload_n E 37 dX8_skip_36 2 rfl rfl rfl ?_
          refine j_lconst E 0 38 dX8_skip_37 rfl rfl ?_
          refine j_lcmp E 39 dX8_skip_38 rfl ?_
          refine j_if_le E 175 42 dX8_skip_39 (by decide) rfl (fun h39 => ?_) (fun h39 => ?_)
          · have q2 := (fa_le64 _ _).mp ((lg_cmp_le _ _).mp h39)
            rw [lN_tiB (by omega), show (0 : Int64).toInt = 0 by decide] at q2
            have u0 : u = 0 := by omega
            rw [u0, skV_0] at hr
            rw [hr, show oI (some k) = nI k from rfl] at B
            refine j_lload E 177 dX8_skip_175 rfl rfl ?_
            refine j_aload_n E 178 dX8_skip_177 0 rfl rfl rfl ?_
            refine j_getf E 181 dX8_skip_178 fl_X8_88 (by repeat (first | with_reducible exact pick_0 | with_reducible apply pick_s)) (by rfl) rfl ?_
            refine j_i2l E 182 dX8_skip_181 rfl ?_
            refine j_eql (nI_l (by omega)) ?_
            refine j_lcmp E 183 dX8_skip_182 rfl ?_
            refine j_if_le E 190 186 dX8_skip_183 (by decide) rfl (fun h183 => ?_) (fun h183 => ?_)
            · refine j_lload E 192 dX8_skip_190 rfl rfl ?_
              refine j_l2i E 193 dX8_skip_192 rfl ?_
              rw [lN_i]
              refine mga_close r 0 np cd pl pg (pm + 3001) (by repeat (first | with_reducible exact pick_0 | with_reducible apply pick_s | exact sel_0 | apply sel_s)) ?_ ⟨hgd, hRl, hmk, by omega⟩ ?_
              · exact ⟨rfl, rfl, rfl, rfl, rfl, rfl, rfl, rfl, rfl⟩
              · exact j_iret E B rfl 0 0 dX8_skip_193 (by repeat (first | with_reducible exact pick_0 | with_reducible apply pick_s | exact sel_0 | apply sel_s)) ⟨rfl, rfl, rfl, rfl⟩ (by omega) (by omega) (by omega) (by omega)
            · exact absurd ((lg_cmp_le _ _).mpr ((fa_le64 _ _).mpr (by rw [lN_tiB (by omega), lN_tiB (by omega)]; omega))) h183
          · have q2 : ¬ (lN u).toInt ≤ (0 : Int64).toInt := fun y => h39 ((lg_cmp_le _ _).mpr ((fa_le64 _ _).mpr y))
            rw [lN_tiB (by omega), show (0 : Int64).toInt = 0 by decide] at q2
            rw [skV_s (by omega)] at hr
            refine j_lload E 44 dX8_skip_42 rfl rfl ?_
            refine j_aload_n E 45 dX8_skip_44 0 rfl rfl rfl ?_
            refine j_getf E 48 dX8_skip_45 fl_X8_88 (by repeat (first | with_reducible exact pick_0 | with_reducible apply pick_s)) (by rfl) rfl ?_
            refine j_i2l E 49 dX8_skip_48 rfl ?_
            refine j_eql (nI_l (by omega)) ?_
            refine j_lcmp E 50 dX8_skip_49 rfl ?_
            refine j_if_lt E 55 53 dX8_skip_50 (by decide) rfl (fun h50 => ?_) (fun h50 => ?_)
            · have q3 := (fa_lt64 _ _).mp ((lg_cmp_lt _ _).mp h50)
              rw [lN_tiB (by omega), lN_tiB (by omega)] at q3
              have hkt : k < tape.length := by omega
              rw [if_neg (by omega)] at hr
              obtain ⟨lb, hlb⟩ : ∃ lb, lb = bN tape k := ⟨_, rfl⟩
              have hl : lb < 256 := by rw [hlb]; exact bN_lt tape k
              have hkle := kOle hl
              have hhO := hO_le hl
              refine j_aload_n E 56 dX8_skip_55 0 rfl rfl rfl ?_
              refine j_getf E 59 dX8_skip_56 fl_X8_8 (by repeat (first | with_reducible exact pick_0 | with_reducible apply pick_s)) (by rfl) rfl ?_
              refine j_lload E 61 dX8_skip_59 rfl rfl ?_
              refine j_l2i E 62 dX8_skip_61 rfl ?_
              rw [lN_i]
              refine j_baldBA E 63 dX8_skip_62 (by repeat (first | with_reducible exact pick_0 | with_reducible apply pick_s)) hkt rfl ?_
              refine j_sipush E (255) 66 dX8_skip_63 (by decide) rfl ?_
              refine j_iand E 67 dX8_skip_66 rfl ?_
              refine j_eqi (by8_bN tape k) ?_
              rw [← hlb]
              refine j_istore E 69 dX8_skip_67 (Nat.le_of_ble_eq_true rfl) rfl rfl ?_
              dsimp only [List.set]
              refine j_iload E 71 dX8_skip_69 rfl rfl ?_
              refine j_callS E (c_m_kind hG (d-1) lb hl) 74 dX8_skip_71 iv_X8_77 rfl rfl (by repeat (first | with_reducible exact pick_0 | with_reducible apply pick_s | exact sel_0 | apply sel_s)) (by omega) (by omega) (by omega) (Nat.le_of_ble_eq_true rfl) rfl ?_
              rintro _ _ _ _ ⟨rfl, rfl, rfl, rfl⟩
              dsimp only [List.cons_append, List.nil_append, Option.toList]
              refine j_istore E 76 dX8_skip_74 (Nat.le_of_ble_eq_true rfl) rfl rfl ?_
              dsimp only [List.set]
              refine j_iload E 78 dX8_skip_76 rfl rfl ?_
              refine j_if_lt E 99 81 dX8_skip_78 (by decide) rfl (fun h78 => ?_) (fun h78 => ?_)
              · have h12 : kO lb = 12 := by
                  by_cases q : kO lb = 12
                  · exact q
                  · rw [kI_nI (by omega)] at h78
                    exact absurd h78 (nI_pos (by omega))
                rw [if_pos (lead_12.mpr (by rw [← hlb]; exact h12))] at hr
                refine j_iconst E (-1) 100 dX8_skip_99 (by decide) rfl ?_
                exact j_sel (by repeat (first | with_reducible exact pick_0 | with_reducible apply pick_s | exact sel_0 | apply sel_s)) (bad100 _ _ _ _ _ hr)
              · have h12 : ¬ kO lb = 12 := fun q => by
                  rw [q] at h78
                  exact absurd h78 (by decide)
                have hkn : kI (kO lb) = nI (kO lb) := kI_nI (by omega)
                rw [hkn]
                rw [if_neg (fun q => h12 (by rw [hlb]; exact lead_12.mp q))] at hr
                refine j_lload E 83 dX8_skip_81 rfl rfl ?_
                refine j_iload E 85 dX8_skip_83 rfl rfl ?_
                refine j_callS E (c_m_head hG (d-1) lb (by omega) hl) 88 dX8_skip_85 iv_X8_91 rfl rfl (by repeat (first | with_reducible exact pick_0 | with_reducible apply pick_s | exact sel_0 | apply sel_s)) (by omega) (by omega) (by omega) (Nat.le_of_ble_eq_true rfl) rfl ?_
                rintro _ _ _ _ ⟨rfl, rfl, rfl, rfl⟩
                dsimp only [List.cons_append, List.nil_append, Option.toList]
                refine j_i2l E 89 dX8_skip_88 rfl ?_
                refine j_eql (nI_l (by omega)) ?_
                refine j_ladd E 90 dX8_skip_89 rfl ?_
                refine j_eql (lN_add k (hO lb)) ?_
                refine j_aload_n E 91 dX8_skip_90 0 rfl rfl rfl ?_
                refine j_getf E 94 dX8_skip_91 fl_X8_88 (by repeat (first | with_reducible exact pick_0 | with_reducible apply pick_s)) (by rfl) rfl ?_
                refine j_i2l E 95 dX8_skip_94 rfl ?_
                refine j_eql (nI_l (by omega)) ?_
                refine j_lcmp E 96 dX8_skip_95 rfl ?_
                refine j_if_le E 101 99 dX8_skip_96 (by decide) rfl (fun h96 => ?_) (fun h96 => ?_)
                · have q4 := (fa_le64 _ _).mp ((lg_cmp_le _ _).mp h96)
                  rw [lN_tiB (by omega), lN_tiB (by omega)] at q4
                  have hh : k + hO (bN tape k) ≤ tape.length := by rw [← hlb]; omega
                  have h12' : ¬ kO (bN tape k) = 12 := by rw [← hlb]; exact h12
                  have hlead := lead_mm h12' hh
                  have hown := own_m h12' hh
                  have h1w : 1 + wO lb ≤ hO lb := by unfold hO; omega
                  have hlok := (lead_ok tape k).2.2.2
                  obtain ⟨mm, hmm⟩ : ∃ mm, mm = mO tape k := ⟨_, rfl⟩
                  have hmo : mm < 2 ^ 33 := by
                    have e1 := hlok
                    rw [hlead] at e1
                    dsimp only at e1
                    rw [hmm]
                    by_cases q : kO (bN tape k) ≤ 4
                    · rw [mO_4 q]
                      decide
                    · rw [if_neg q] at e1
                      by_cases q8 : kO (bN tape k) = 8
                      · rw [if_pos q8] at e1
                        omega
                      · rw [if_neg q8] at e1
                        exact e1
                  have hi1 : k + (1 + wO (bN tape k)) ≤ tape.length := by rw [← hlb]; omega
                  rw [hown, ← hlb, ← hmm] at hr
                  have hgr : ((lead tape k).1 = 7 ∨ (lead tape k).1 = 8) ↔ (kO lb = 7 ∨ kO lb = 8) := by
                    rw [hlead]
                    dsimp only
                    rw [← hlb]
                    by_cases q : kO lb = 9
                    · rw [if_pos q]
                      have : ¬ (tyK (by8 (tape.getD (k + (1 + wO lb)) 0)) = 7 ∨ tyK (by8 (tape.getD (k + (1 + wO lb)) 0)) = 8) := by
                        unfold tyK
                        repeat' (first | omega | split)
                      exact ⟨fun y => absurd y this, fun y => by omega⟩
                    · rw [if_neg q]
                  have hl3 : (kO lb = 7 ∨ kO lb = 8) → (lead tape k).2.2.1 = if kO lb = 8 then 2 * mm else mm := fun q => by
                    rw [hlead]
                    dsimp only
                    rw [← hlb, ← hmm, if_neg (by omega)]
                  refine j_aload_n E 102 dX8_skip_101 0 rfl rfl rfl ?_
                  refine j_iload E 104 dX8_skip_102 rfl rfl ?_
                  refine j_lload E 106 dX8_skip_104 rfl rfl ?_
                  refine j_l2i E 107 dX8_skip_106 rfl ?_
                  rw [lN_i, hlb]
                  refine j_callV E (c_m_many hG (d-1) m r k tape (by omega) hi1) 110 dX8_skip_107 _ _ _ iv_X8_94 rfl rfl rfl (by repeat (first | with_reducible exact pick_0 | with_reducible apply pick_s | exact sel_0 | apply sel_s)) (by omega) (by omega) (by omega) (Nat.le_of_ble_eq_true rfl) rfl ?_
                  rintro _ _ _ _ ⟨rfl, rfl, rfl, rfl⟩
                  dsimp only [List.cons_append, List.nil_append, Option.toList]
                  refine j_lstore E 112 dX8_skip_110 (Nat.le_of_ble_eq_true rfl) rfl rfl ?_
                  dsimp only [List.set]
                  rw [← hlb, ← hmm]
                  refine j_lload_n E 113 dX8_skip_112 2 rfl rfl rfl ?_
                  refine j_lconst E 1 114 dX8_skip_113 rfl rfl ?_
                  have hsub : lN u - 1 = lN (u - 1) := by
                    rw [show (1 : Int64) = lN 1 from rfl, lN_sub (by omega)]
                  refine j_lsub E 115 dX8_skip_114 rfl ?_
                  refine j_eql hsub ?_
                  have at144 : ∀ a : Nat, a = (if kO lb = 7 then mm else if kO lb = 8 then 2 * mm else 0) → J X 10 [MF m r 0 (nI tape.length) (nI out.length) (nI us.length) (nI R.length) (nI nb) pkd (nI pg) cm fu op (nI cd) (nI pl) at_ bgc got pr, BA X.1 (r 1) tape, BA X.1 (r 3) out, BA X.1 (r 18) [], BA X.1 (r 19) [], TB X.1 r us zs R nb mk, GS X.1 r gs, OD X.1 r [], PL X.1 r [], F] 0 0 144 [some (.ref m), some (.int (nI j)), some (.long (lN (u))), none, some (.long (lN (k))), none, some (.int (nI lb)), some (.int (nI (kO lb))), some (.long (lN mm)), none] [.long (lN a), .long (lN (u - 1))] := by
                    intro a ha
                    have hkb : a < 2 ^ 34 := by
                      rw [ha]
                      split
                      · omega
                      · split <;> omega
                    refine j_ladd E 145 dX8_skip_144 rfl ?_
                    refine j_eql (lN_add (u - 1) a) ?_
                    refine j_lstore_n E 146 dX8_skip_145 2 rfl (Nat.le_of_ble_eq_true rfl) rfl rfl ?_
                    dsimp only [List.set]
                    refine j_lload E 148 dX8_skip_146 rfl rfl ?_
                    refine j_iload E 150 dX8_skip_148 rfl rfl ?_
                    refine j_callS E (c_m_head hG (d-1) lb (by omega) hl) 153 dX8_skip_150 iv_X8_91 rfl rfl (by repeat (first | with_reducible exact pick_0 | with_reducible apply pick_s | exact sel_0 | apply sel_s)) (by omega) (by omega) (by omega) (Nat.le_of_ble_eq_true rfl) rfl ?_
                    rintro _ _ _ _ ⟨rfl, rfl, rfl, rfl⟩
                    dsimp only [List.cons_append, List.nil_append, Option.toList]
                    refine j_i2l E 154 dX8_skip_153 rfl ?_
                    refine j_eql (nI_l (by omega)) ?_
                    refine j_ladd E 155 dX8_skip_154 rfl ?_
                    refine j_eql (lN_add k (hO lb)) ?_
                    refine j_iload E 157 dX8_skip_155 rfl rfl ?_
                    refine j_callS E (c_m_isGroup hG (d-1) (nI (kO lb))) 160 dX8_skip_157 iv_X8_100 rfl rfl (by repeat (first | with_reducible exact pick_0 | with_reducible apply pick_s | exact sel_0 | apply sel_s)) (by omega) (by omega) (by omega) (Nat.le_of_ble_eq_true rfl) rfl ?_
                    rintro _ _ _ _ ⟨rfl, rfl, rfl, rfl⟩
                    dsimp only [List.cons_append, List.nil_append, Option.toList]
                    by_cases hg : kO lb = 7 ∨ kO lb = 8
                    · rw [if_pos (show nI (kO lb) = 7 ∨ nI (kO lb) = 8 from hg.elim (fun q => Or.inl (by rw [q]; rfl)) (fun q => Or.inr (by rw [q]; rfl)))]
                      rw [if_pos hg, if_pos (hgr.mpr hg), if_neg (by omega), hl3 hg] at hr
                      have ha2 : a = (if kO lb = 8 then 2 * mm else mm) := by
                        rw [ha]
                        by_cases q : kO lb = 8
                        · rw [if_neg (by omega), if_pos q, if_pos q]
                        · rw [if_pos (by omega), if_neg q]
                      rw [← ha2] at hr
                      have hab : a < 2 ^ 33 := by
                        rw [ha2, ← hl3 hg]
                        exact hlok
                      refine j_if_eq E 167 163 dX8_skip_160 (by decide) rfl (fun h160 => ?_) (fun h160 => ?_)
                      · exact absurd h160 (by decide)
                      · refine j_lconst E 0 164 dX8_skip_163 rfl rfl ?_
                        refine j_goto E 169 dX8_skip_164 (by decide) ?_
                        refine j_ladd E 170 dX8_skip_169 rfl ?_
                        refine j_eql (y := lN (k + hO lb)) (lN_add (k + hO lb) 0) ?_
                        refine j_lstore E 172 dX8_skip_170 (Nat.le_of_ble_eq_true rfl) rfl rfl ?_
                        dsimp only [List.set]
                        refine j_goto E 36 dX8_skip_172 (by decide) ?_
                        exact j_sel (by repeat (first | with_reducible exact pick_0 | with_reducible apply pick_s | exact sel_0 | apply sel_s)) (ih (u - 1 + a) (k + hO lb) _ _ _ (by omega) (by omega) (by omega) hr)
                    · rw [if_neg (fun q => hg (q.elim (fun q => Or.inl ((nI_eq (b := 7) (by omega) (by decide)).mp q)) (fun q => Or.inr ((nI_eq (b := 8) (by omega) (by decide)).mp q))))]
                      have ha0 : a = 0 := by rw [ha, if_neg (by omega), if_neg (by omega)]
                      rw [if_neg hg, if_neg (fun y => hg (hgr.mp y))] at hr
                      refine j_if_eq E 167 163 dX8_skip_160 (by decide) rfl (fun h160 => ?_) (fun h160 => ?_)
                      · refine j_lload E 169 dX8_skip_167 rfl rfl ?_
                        refine j_ladd E 170 dX8_skip_169 rfl ?_
                        refine j_eql (lN_add (k + hO lb) mm) ?_
                        refine j_lstore E 172 dX8_skip_170 (Nat.le_of_ble_eq_true rfl) rfl rfl ?_
                        dsimp only [List.set]
                        refine j_goto E 36 dX8_skip_172 (by decide) ?_
                        rw [ha0, Nat.add_zero]
                        by_cases hov : k + hO lb + mm ≤ tape.length
                        · rw [if_neg (by omega), ← Nat.add_assoc] at hr
                          exact j_sel (by repeat (first | with_reducible exact pick_0 | with_reducible apply pick_s | exact sel_0 | apply sel_s)) (ih (u - 1) (k + hO lb + mm) _ _ _ (by omega) hov (by omega) hr)
                        · rw [if_pos (by omega)] at hr
                          exact j_sel (by repeat (first | with_reducible exact pick_0 | with_reducible apply pick_s | exact sel_0 | apply sel_s)) (over (u - 1) (k + hO lb + mm) _ _ _ (by omega) (by omega) (by omega) hr)
                      · exact absurd rfl h160
                  refine j_iload E 117 dX8_skip_115 rfl rfl ?_
                  refine j_bipush E (7) 119 dX8_skip_117 (by decide) rfl ?_
                  refine j_icmp_ne E 127 122 dX8_skip_119 (by decide) rfl (fun h119 => ?_) (fun h119 => ?_)
                  · have q7 : ¬ kO lb = 7 := fun q => h119 (by rw [q]; rfl)
                    refine j_iload E 129 dX8_skip_127 rfl rfl ?_
                    refine j_bipush E (8) 131 dX8_skip_129 (by decide) rfl ?_
                    refine j_icmp_ne E 143 134 dX8_skip_131 (by decide) rfl (fun h131 => ?_) (fun h131 => ?_)
                    · have q8 : ¬ kO lb = 8 := fun q => h131 (by rw [q]; rfl)
                      refine j_lconst E 0 144 dX8_skip_143 rfl rfl ?_
                      exact j_sel (by repeat (first | with_reducible exact pick_0 | with_reducible apply pick_s | exact sel_0 | apply sel_s)) (at144 0 (by rw [if_neg q7, if_neg q8]))
                    · have q8 : kO lb = 8 := (nI_eq (b := 8) (by omega) (by decide)).mp h131
                      refine j_ldcL E _ 137 dX8_skip_134 kc_X8_98 rfl ?_
                      refine j_lload E 139 dX8_skip_137 rfl rfl ?_
                      refine j_lmul E 140 dX8_skip_139 rfl ?_
                      refine j_eql (y := lN (2 * mm)) ((fa_litL 2).symm ▸ (lN_mul 2 mm)) ?_
                      refine j_goto E 144 dX8_skip_140 (by decide) ?_
                      exact j_sel (by repeat (first | with_reducible exact pick_0 | with_reducible apply pick_s | exact sel_0 | apply sel_s)) (at144 (2 * mm) (by rw [if_neg q7, if_pos q8]))
                  · have q7 : kO lb = 7 := (nI_eq (b := 7) (by omega) (by decide)).mp h119
                    refine j_lload E 124 dX8_skip_122 rfl rfl ?_
                    refine j_goto E 144 dX8_skip_124 (by decide) ?_
                    exact j_sel (by repeat (first | with_reducible exact pick_0 | with_reducible apply pick_s | exact sel_0 | apply sel_s)) (at144 mm (by rw [if_pos q7]))
                · have q4 : ¬ (lN (k + hO lb)).toInt ≤ (lN tape.length).toInt := fun y => h96 ((lg_cmp_le _ _).mpr ((fa_le64 _ _).mpr y))
                  rw [lN_tiB (by omega), lN_tiB (by omega)] at q4
                  have hge := own_ge (bs := tape) (i := k) (by rw [← hlb]; exact h12)
                  rw [← hlb] at hge
                  rw [if_pos (by omega)] at hr
                  refine j_iconst E (-1) 100 dX8_skip_99 (by decide) rfl ?_
                  exact j_sel (by repeat (first | with_reducible exact pick_0 | with_reducible apply pick_s | exact sel_0 | apply sel_s)) (bad100 _ _ _ _ _ hr)
            · have q3 : ¬ (lN k).toInt < (lN tape.length).toInt := fun y => h50 ((lg_cmp_lt _ _).mpr ((fa_lt64 _ _).mpr y))
              rw [lN_tiB (by omega), lN_tiB (by omega)] at q3
              rw [if_pos (by omega)] at hr
              refine j_iconst E (-1) 54 dX8_skip_53 (by decide) rfl ?_
              exact bad54 _ _ _ _ _ hr
      refine j_iconst E (0) 14 dX8_skip_13 (by decide) rfl ?_
      refine j_goto E 18 dX8_skip_14 (by decide) ?_
      refine j_putf E 21 dX8_skip_18 fl_X8_71 (by repeat (first | with_reducible exact pick_0 | with_reducible apply pick_s)) rfl rfl (Nat.le_of_ble_eq_true rfl) rfl ?_
      dsimp only [List.set]
      refine j_aload_n E 22 dX8_skip_21 0 rfl rfl rfl ?_
      refine j_getf E 25 dX8_skip_22 fl_X8_71 (by repeat (first | with_reducible exact pick_0 | with_reducible apply pick_s)) (by rfl) rfl ?_
      refine j_if_le E 30 28 dX8_skip_25 (by decide) rfl (fun h25 => ?_) (fun h25 => ?_)
      · refine j_lconst E 1 31 dX8_skip_30 rfl rfl ?_
        refine j_lstore_n E 32 dX8_skip_31 2 rfl (Nat.le_of_ble_eq_true rfl) rfl rfl ?_
        dsimp only [List.set]
        refine j_iload_n E 33 dX8_skip_32 1 rfl rfl rfl ?_
        refine j_i2l E 34 dX8_skip_33 rfl ?_
        refine j_eql (nI_l (by omega)) ?_
        refine j_lstore E 36 dX8_skip_34 (Nat.le_of_ble_eq_true rfl) rfl rfl ?_
        dsimp only [List.set]
        exact j_sel (by repeat (first | with_reducible exact pick_0 | with_reducible apply pick_s | exact sel_0 | apply sel_s)) (main (tape.length - j) 1 j none none none (Nat.le_refl _) (by omega) (by omega) hR9)
      · exact absurd (by decide) h25

/-! the model: integers, extensions, times -/
theorem cnt_hd (n c : Nat) (hc : 0 < c) : cntE n 0 0 c (c + 1) (c + 2) = hdE none c n := by
  unfold cntE hdE wid
  rw [if_neg (Nat.not_lt_zero n)]
  by_cases q : n < 256
  · rw [if_pos ⟨q, hc⟩, if_pos q]
    rfl
  · rw [if_neg (fun q2 => q q2.1), if_neg q]
    by_cases q3 : n < 65536
    · rw [if_pos q3, if_pos q3]
    · rw [if_neg q3, if_neg q3]
theorem cnt_text (n : Nat) : cntE n 32 160 217 218 219 = hdE (if n < 32 then some (160 + n) else none) 217 n := by
  by_cases q0 : n < 32
  · rw [if_pos q0, cntE, if_pos q0]
    rfl
  · rw [if_neg q0, ← cnt_hd n 217 (by decide)]
    unfold cntE
    rw [if_neg q0, if_neg (Nat.not_lt_zero n)]
theorem cnt_grp {n ld x2 x4 : Nat} (hn : n < 65536) : cntE n 16 ld 0 x2 x4 = if n < 16 then b1 (ld + n) else b1 x2 ++ beB (lN n) 2 := by
  unfold cntE
  by_cases q0 : n < 16
  · rw [if_pos q0, if_pos q0]
  · rw [if_neg q0, if_neg q0, if_neg (fun q => absurd q.2 (by decide)), if_pos hn]
set_option maxHeartbeats 8000000 in
theorem c_m_int {g : GT} (hG : GLB g) (d m : Nat) (r : Nat → Nat) {th ts os vc lc bc pkg cm op fc fp at_ bgc got : Int32} {pr : Int64} (a : Nat) (v : Int64) (hb : Bool) (st : Option (List UInt8)) (hd : 3 ≤ d) : CtrV g mX8_integerTo 7 d 0 0 m [.ref a, .long v, .int (bI hb)] [MF m r th ts os vc lc bc (pkP st) pkg cm (fuP st) op fc fp at_ bgc got pr, BF g a st] (fun o dc ds ws' => o = none ∧ dc = 0 ∧ ds = 0 ∧ ws' = [MF m r th ts os vc lc bc (pkP (wr 65536 st (intE v hb))) pkg cm (fuP (wr 65536 st (intE v hb))) op fc fp at_ bgc got pr, BF g a (wr 65536 st (intE v hb))]) noX := by
  refine ⟨rcv_pt, ?_⟩
  refine ctr_intro hG (by decide +kernel) (Nat.le_of_ble_eq_true rfl) ?_
  rintro X F rfl E B hI T
  replace E : JE X RX8 cX8_integerTo 7 d 0 0 := E
  show J X _ [MF m r th ts os vc lc bc (pkP st) pkg cm (fuP st) op fc fp at_ bgc got pr, BF X.1 a st, F] 0 0 0 [some (.ref m), some (.ref a), some (.long v), none, some (.int (bI hb)), none, none] []
  have hs4 := stN_le v hb
  refine j_lload_n E 1 dX8_integerTo_0 2 rfl rfl rfl ?_
  refine j_iload E 3 dX8_integerTo_1 rfl rfl ?_
  refine j_callS E (c_m_size hG (d-1) v hb) 6 dX8_integerTo_3 iv_X8_221 rfl rfl (by repeat (first | with_reducible exact pick_0 | with_reducible apply pick_s | exact sel_0 | apply sel_s)) (by omega) (by omega) (by omega) (Nat.le_of_ble_eq_true rfl) rfl ?_
  rintro _ _ _ _ ⟨rfl, rfl, rfl, rfl⟩
  dsimp only [List.cons_append, List.nil_append, Option.toList]
  refine j_istore E 8 dX8_integerTo_6 (Nat.le_of_ble_eq_true rfl) rfl rfl ?_
  dsimp only [List.set]
  by_cases e4 : stN v hb = 4
  · rw [show intL v hb = 1 from if_pos e4]
    rw [intE, if_pos e4, show beB v 1 = [lo8 v.toInt32] by rw [← low0]; rfl] at B
    refine j_iload E 10 dX8_integerTo_8 rfl rfl ?_
    refine j_iconst E (1) 11 dX8_integerTo_10 (by decide) rfl ?_
    refine j_icmp_ne E 22 14 dX8_integerTo_11 (by decide) rfl (fun h11 => ?_) (fun h11 => ?_)
    · exact absurd rfl h11
    · refine j_aload_n E 15 dX8_integerTo_14 0 rfl rfl rfl ?_
      refine j_aload_n E 16 dX8_integerTo_15 1 rfl rfl rfl ?_
      refine j_lload_n E 17 dX8_integerTo_16 2 rfl rfl rfl ?_
      refine j_l2i E 18 dX8_integerTo_17 rfl ?_
      refine j_callV E (c_m_byte hG (d-1) m r a v.toInt32 st) 21 dX8_integerTo_18 _ _ _ iv_X8_209 rfl rfl rfl (by repeat (first | with_reducible exact pick_0 | with_reducible apply pick_s | exact sel_0 | apply sel_s)) (by omega) (by omega) (by omega) (Nat.le_of_ble_eq_true rfl) rfl ?_
      rintro _ _ _ _ ⟨rfl, rfl, rfl, rfl⟩
      dsimp only [List.cons_append, List.nil_append, Option.toList]
      exact j_vret E B rfl 0 0 dX8_integerTo_21 (by repeat (first | with_reducible exact pick_0 | with_reducible apply pick_s | exact sel_0 | apply sel_s)) ⟨rfl, rfl, rfl, rfl⟩ (by omega) (by omega) (by omega) (by omega)
  · rw [intE, if_neg e4] at B
    have tail : ∀ (s : Nat), s ≤ 3 → s = stN v hb → J X 7 [MF m r th ts os vc lc bc (pkP st) pkg cm (fuP st) op fc fp at_ bgc got pr, BF X.1 a st, F] (0 + 0) (0 + 0) 53 [some (.ref m), some (.ref a), some (.long v), none, some (.int (bI hb)), some (.int (nI (1 + 2 ^ s))), none] [.int (nI s)] := by
      intro s hs3 hs
      rw [← hs] at B
      have low : ∀ L : Nat, L = (if hb = true ∨ 0 ≤ v.toInt then 204 else 208) → J X 7 [MF m r th ts os vc lc bc (pkP st) pkg cm (fuP st) op fc fp at_ bgc got pr, BF X.1 a st, F] (0 + 0) (0 + 0) 77 [some (.ref m), some (.ref a), some (.long v), none, some (.int (bI hb)), some (.int (nI (1 + 2 ^ s))), some (.int (nI s))] [.int (nI L), .ref a, .ref m] := by
        intro L hL
        rw [← hL] at B
        refine j_iload E 79 dX8_integerTo_77 rfl rfl ?_
        refine j_iadd E 80 dX8_integerTo_79 rfl ?_
        refine j_eqi (nI_add L s) ?_
        refine j_callV E (c_m_byte hG (d-1) m r a (nI (L + s)) st) 83 dX8_integerTo_80 _ _ _ iv_X8_209 rfl rfl rfl (by repeat (first | with_reducible exact pick_0 | with_reducible apply pick_s | exact sel_0 | apply sel_s)) (by omega) (by omega) (by omega) (Nat.le_of_ble_eq_true rfl) rfl ?_
        rintro _ _ _ _ ⟨rfl, rfl, rfl, rfl⟩
        dsimp only [List.cons_append, List.nil_append, Option.toList]
        refine j_aload_n E 84 dX8_integerTo_83 0 rfl rfl rfl ?_
        refine j_aload_n E 85 dX8_integerTo_84 1 rfl rfl rfl ?_
        refine j_lload_n E 86 dX8_integerTo_85 2 rfl rfl rfl ?_
        refine j_iload E 88 dX8_integerTo_86 rfl rfl ?_
        refine j_iconst E (1) 89 dX8_integerTo_88 (by decide) rfl ?_
        refine j_isub E 90 dX8_integerTo_89 rfl ?_
        refine j_eqi (y := nI (2 ^ s)) (by rw [Nat.add_comm]; exact nI_pred (2 ^ s)) ?_
        refine j_callV E (c_m_num hG (d-1) m r a (2 ^ s) v _ (by omega) (p2_le (by omega))) 93 dX8_integerTo_90 _ _ _ iv_X8_213 rfl rfl rfl (by repeat (first | with_reducible exact pick_0 | with_reducible apply pick_s | exact sel_0 | apply sel_s)) (by omega) (by omega) (by omega) (Nat.le_of_ble_eq_true rfl) rfl ?_
        rintro _ _ _ _ ⟨rfl, rfl, rfl, rfl⟩
        dsimp only [List.cons_append, List.nil_append, Option.toList]
        rw [wr_app, ← b1_lo]
        exact j_vret E B rfl 0 0 dX8_integerTo_93 (by repeat (first | with_reducible exact pick_0 | with_reducible apply pick_s | exact sel_0 | apply sel_s)) ⟨rfl, rfl, rfl, rfl⟩ (by omega) (by omega) (by omega) (by omega)
      refine j_istore E 55 dX8_integerTo_53 (Nat.le_of_ble_eq_true rfl) rfl rfl ?_
      dsimp only [List.set]
      refine j_aload_n E 56 dX8_integerTo_55 0 rfl rfl rfl ?_
      refine j_aload_n E 57 dX8_integerTo_56 1 rfl rfl rfl ?_
      refine j_lload_n E 58 dX8_integerTo_57 2 rfl rfl rfl ?_
      refine j_lconst E 0 59 dX8_integerTo_58 rfl rfl ?_
      refine j_lcmp E 60 dX8_integerTo_59 rfl ?_
      refine j_if_ge E 68 63 dX8_integerTo_60 (by decide) rfl (fun h60 => ?_) (fun h60 => ?_)
      · have q : 0 ≤ v.toInt := (fa_le64 _ _).mp ((lg_cmp_ge _ _).mp h60)
        refine j_sipush E (204) 71 dX8_integerTo_68 (by decide) rfl ?_
        refine j_goto E 77 dX8_integerTo_71 (by decide) ?_
        exact low 204 (by rw [if_pos (Or.inr q)])
      · have q : ¬ 0 ≤ v.toInt := fun q => h60 ((lg_cmp_ge _ _).mpr ((fa_le64 0 v).mpr q))
        refine j_iload E 65 dX8_integerTo_63 rfl rfl ?_
        refine j_if_eq E 74 68 dX8_integerTo_65 (by decide) rfl (fun h65 => ?_) (fun h65 => ?_)
        · have hbf : hb = false := by
            rcases hb with _ | _
            · rfl
            · exact absurd h65 (by decide)
          refine j_sipush E (208) 77 dX8_integerTo_74 (by decide) rfl ?_
          exact low 208 (by rw [if_neg (by rw [hbf]; simp; omega)])
        · have hbt : hb = true := by
            rcases hb with _ | _
            · exact absurd rfl h65
            · rfl
          refine j_sipush E (204) 71 dX8_integerTo_68 (by decide) rfl ?_
          refine j_goto E 77 dX8_integerTo_71 (by decide) ?_
          exact low 204 (by rw [if_pos (Or.inl hbt)])
    have es : stN v hb = 0 ∨ stN v hb = 1 ∨ stN v hb = 2 ∨ stN v hb = 3 := by omega
    rcases es with es | es | es | es
    · rw [show intL v hb = 2 by rw [intL, es]; rfl]
      refine j_iload E 10 dX8_integerTo_8 rfl rfl ?_
      refine j_iconst E (1) 11 dX8_integerTo_10 (by decide) rfl ?_
      refine j_icmp_ne E 22 14 dX8_integerTo_11 (by decide) rfl (fun h11 => ?_) (fun h11 => ?_)
      · refine j_iload E 24 dX8_integerTo_22 rfl rfl ?_
        refine j_iconst E (2) 25 dX8_integerTo_24 (by decide) rfl ?_
        refine j_icmp_ne E 32 28 dX8_integerTo_25 (by decide) rfl (fun h25 => ?_) (fun h25 => ?_)
        · exact absurd rfl h25
        · refine j_iconst E (0) 29 dX8_integerTo_28 (by decide) rfl ?_
          refine j_goto E 53 dX8_integerTo_29 (by decide) ?_
          exact tail 0 (by decide) es.symm
      · exact absurd h11 (by decide)
    · rw [show intL v hb = 3 by rw [intL, es]; rfl]
      refine j_iload E 10 dX8_integerTo_8 rfl rfl ?_
      refine j_iconst E (1) 11 dX8_integerTo_10 (by decide) rfl ?_
      refine j_icmp_ne E 22 14 dX8_integerTo_11 (by decide) rfl (fun h11 => ?_) (fun h11 => ?_)
      · refine j_iload E 24 dX8_integerTo_22 rfl rfl ?_
        refine j_iconst E (2) 25 dX8_integerTo_24 (by decide) rfl ?_
        refine j_icmp_ne E 32 28 dX8_integerTo_25 (by decide) rfl (fun h25 => ?_) (fun h25 => ?_)
        · refine j_iload E 34 dX8_integerTo_32 rfl rfl ?_
          refine j_iconst E (3) 35 dX8_integerTo_34 (by decide) rfl ?_
          refine j_icmp_ne E 42 38 dX8_integerTo_35 (by decide) rfl (fun h35 => ?_) (fun h35 => ?_)
          · exact absurd rfl h35
          · refine j_iconst E (1) 39 dX8_integerTo_38 (by decide) rfl ?_
            refine j_goto E 53 dX8_integerTo_39 (by decide) ?_
            exact tail 1 (by decide) es.symm
        · exact absurd h25 (by decide)
      · exact absurd h11 (by decide)
    · rw [show intL v hb = 5 by rw [intL, es]; rfl]
      refine j_iload E 10 dX8_integerTo_8 rfl rfl ?_
      refine j_iconst E (1) 11 dX8_integerTo_10 (by decide) rfl ?_
      refine j_icmp_ne E 22 14 dX8_integerTo_11 (by decide) rfl (fun h11 => ?_) (fun h11 => ?_)
      · refine j_iload E 24 dX8_integerTo_22 rfl rfl ?_
        refine j_iconst E (2) 25 dX8_integerTo_24 (by decide) rfl ?_
        refine j_icmp_ne E 32 28 dX8_integerTo_25 (by decide) rfl (fun h25 => ?_) (fun h25 => ?_)
        · refine j_iload E 34 dX8_integerTo_32 rfl rfl ?_
          refine j_iconst E (3) 35 dX8_integerTo_34 (by decide) rfl ?_
          refine j_icmp_ne E 42 38 dX8_integerTo_35 (by decide) rfl (fun h35 => ?_) (fun h35 => ?_)
          · refine j_iload E 44 dX8_integerTo_42 rfl rfl ?_
            refine j_iconst E (5) 45 dX8_integerTo_44 (by decide) rfl ?_
            refine j_icmp_ne E 52 48 dX8_integerTo_45 (by decide) rfl (fun h45 => ?_) (fun h45 => ?_)
            · exact absurd rfl h45
            · refine j_iconst E (2) 49 dX8_integerTo_48 (by decide) rfl ?_
              refine j_goto E 53 dX8_integerTo_49 (by decide) ?_
              exact tail 2 (by decide) es.symm
          · exact absurd h35 (by decide)
        · exact absurd h25 (by decide)
      · exact absurd h11 (by decide)
    · rw [show intL v hb = 9 by rw [intL, es]; rfl]
      refine j_iload E 10 dX8_integerTo_8 rfl rfl ?_
      refine j_iconst E (1) 11 dX8_integerTo_10 (by decide) rfl ?_
      refine j_icmp_ne E 22 14 dX8_integerTo_11 (by decide) rfl (fun h11 => ?_) (fun h11 => ?_)
      · refine j_iload E 24 dX8_integerTo_22 rfl rfl ?_
        refine j_iconst E (2) 25 dX8_integerTo_24 (by decide) rfl ?_
        refine j_icmp_ne E 32 28 dX8_integerTo_25 (by decide) rfl (fun h25 => ?_) (fun h25 => ?_)
        · refine j_iload E 34 dX8_integerTo_32 rfl rfl ?_
          refine j_iconst E (3) 35 dX8_integerTo_34 (by decide) rfl ?_
          refine j_icmp_ne E 42 38 dX8_integerTo_35 (by decide) rfl (fun h35 => ?_) (fun h35 => ?_)
          · refine j_iload E 44 dX8_integerTo_42 rfl rfl ?_
            refine j_iconst E (5) 45 dX8_integerTo_44 (by decide) rfl ?_
            refine j_icmp_ne E 52 48 dX8_integerTo_45 (by decide) rfl (fun h45 => ?_) (fun h45 => ?_)
            · refine j_iconst E (3) 53 dX8_integerTo_52 (by decide) rfl ?_
              exact tail 3 (by decide) es.symm
            · exact absurd h45 (by decide)
          · exact absurd h35 (by decide)
        · exact absurd h25 (by decide)
      · exact absurd h11 (by decide)
set_option maxHeartbeats 8000000 in
theorem c_m_ext {g : GT} (hG : GLB g) (d m : Nat) (r : Nat → Nat) {th ts os vc lc bc pkg cm op fc fp at_ bgc got : Int32} {pr : Int64} (a n : Nat) (ty : Int32) (st : Option (List UInt8)) (hd : 5 ≤ d) (hn : n < 2 ^ 30) : CtrV g mX8_extensionTo 7 d 0 0 m [.ref a, .int (nI n), .int ty] [MF m r th ts os vc lc bc (pkP st) pkg cm (fuP st) op fc fp at_ bgc got pr, BF g a st] (fun o dc ds ws' => o = none ∧ dc = 0 ∧ ds = 0 ∧ ws' = [MF m r th ts os vc lc bc (pkP (wr 65536 st (hdE (xl n) 199 n ++ [lo8 ty]))) pkg cm (fuP (wr 65536 st (hdE (xl n) 199 n ++ [lo8 ty]))) op fc fp at_ bgc got pr, BF g a (wr 65536 st (hdE (xl n) 199 n ++ [lo8 ty]))]) noX := by
  refine ⟨rcv_pt, ?_⟩
  refine ctr_intro hG (by decide +kernel) (Nat.le_of_ble_eq_true rfl) ?_
  rintro X F rfl E B hI T
  replace E : JE X RX8 cX8_extensionTo 5 d 0 0 := E
  show J X _ [MF m r th ts os vc lc bc (pkP st) pkg cm (fuP st) op fc fp at_ bgc got pr, BF X.1 a st, F] 0 0 0 [some (.ref m), some (.ref a), some (.int (nI n)), some (.int ty), none] []
  have fin : ∀ (hdb : List UInt8) (l4 : Option Value), hdE (xl n) 199 n = hdb → J X 5 [MF m r th ts os vc lc bc (pkP (wr 65536 st hdb)) pkg cm (fuP (wr 65536 st hdb)) op fc fp at_ bgc got pr, BF X.1 a (wr 65536 st hdb), F] 0 0 112 [some (.ref m), some (.ref a), some (.int (nI n)), some (.int ty), l4] [] := by
    intro hdb l4 e
    rw [e] at B
    refine j_aload_n E 113 dX8_extensionTo_112 0 rfl rfl rfl ?_
    refine j_aload_n E 114 dX8_extensionTo_113 1 rfl rfl rfl ?_
    refine j_iload_n E 115 dX8_extensionTo_114 3 rfl rfl rfl ?_
    refine j_callV E (c_m_byte hG (d-1) m r a ty (wr 65536 st hdb)) 118 dX8_extensionTo_115 _ _ _ iv_X8_209 rfl rfl rfl (by repeat (first | with_reducible exact pick_0 | with_reducible apply pick_s | exact sel_0 | apply sel_s)) (by omega) (by omega) (by omega) (Nat.le_of_ble_eq_true rfl) rfl ?_
    rintro _ _ _ _ ⟨rfl, rfl, rfl, rfl⟩
    dsimp only [List.cons_append, List.nil_append, Option.toList]
    rw [wr_app]
    exact j_vret E B rfl 0 0 dX8_extensionTo_118 (by repeat (first | with_reducible exact pick_0 | with_reducible apply pick_s | exact sel_0 | apply sel_s)) ⟨rfl, rfl, rfl, rfl⟩ (by omega) (by omega) (by omega) (by omega)
  have one : ∀ K : Nat, hdE (xl n) 199 n = b1 K → J X 5 [MF m r th ts os vc lc bc (pkP st) pkg cm (fuP st) op fc fp at_ bgc got pr, BF X.1 a st, F] 0 0 89 [some (.ref m), some (.ref a), some (.int (nI n)), some (.int ty), some (.int 1)] [.int (nI K), .ref a, .ref m] := by
    intro K e
    refine j_callV E (c_m_byte hG (d-1) m r a (nI K) st) 92 dX8_extensionTo_89 _ _ _ iv_X8_209 rfl rfl rfl (by repeat (first | with_reducible exact pick_0 | with_reducible apply pick_s | exact sel_0 | apply sel_s)) (by omega) (by omega) (by omega) (Nat.le_of_ble_eq_true rfl) rfl ?_
    rintro _ _ _ _ ⟨rfl, rfl, rfl, rfl⟩
    dsimp only [List.cons_append, List.nil_append, Option.toList]
    refine j_goto E 112 dX8_extensionTo_92 (by decide) ?_
    rw [← b1_lo]
    exact j_sel (by repeat (first | with_reducible exact pick_0 | with_reducible apply pick_s | exact sel_0 | apply sel_s)) (fin _ _ e)
  have mul : J X 5 [MF m r th ts os vc lc bc (pkP st) pkg cm (fuP st) op fc fp at_ bgc got pr, BF X.1 a st, F] 0 0 27 [some (.ref m), some (.ref a), some (.int (nI n)), some (.int ty), none] [] → J X 5 [MF m r th ts os vc lc bc (pkP st) pkg cm (fuP st) op fc fp at_ bgc got pr, BF X.1 a st, F] 0 0 27 [some (.ref m), some (.ref a), some (.int (nI n)), some (.int ty), none] [] := fun h => h
  by_cases q : n = 1 ∨ n = 2 ∨ n = 4 ∨ n = 8 ∨ n = 16
  · rcases q with rfl | rfl | rfl | rfl | rfl
    · have t27 : J X 5 [MF m r th ts os vc lc bc (pkP st) pkg cm (fuP st) op fc fp at_ bgc got pr, BF X.1 a st, F] 0 0 27 [some (.ref m), some (.ref a), some (.int (nI 1)), some (.int ty), none] [] := by
        refine j_iconst E (1) 28 dX8_extensionTo_27 (by decide) rfl ?_
        refine j_goto E 32 dX8_extensionTo_28 (by decide) ?_
        refine j_istore E 34 dX8_extensionTo_32 (Nat.le_of_ble_eq_true rfl) rfl rfl ?_
        dsimp only [List.set]
        refine j_iload E 36 dX8_extensionTo_34 rfl rfl ?_
        refine j_if_eq E 95 39 dX8_extensionTo_36 (by decide) rfl (fun h36 => ?_) (fun h36 => ?_)
        · exact absurd h36 (by decide)
        · refine j_aload_n E 40 dX8_extensionTo_39 0 rfl rfl rfl ?_
          refine j_aload_n E 41 dX8_extensionTo_40 1 rfl rfl rfl ?_
          refine j_iload_n E 42 dX8_extensionTo_41 2 rfl rfl rfl ?_
          refine j_iconst E (1) 43 dX8_extensionTo_42 (by decide) rfl ?_
          refine j_icmp_ne E 52 46 dX8_extensionTo_43 (by decide) rfl (fun h43 => ?_) (fun h43 => ?_)
          · exact absurd rfl h43
          · refine j_sipush E (212) 49 dX8_extensionTo_46 (by decide) rfl ?_
            refine j_goto E 89 dX8_extensionTo_49 (by decide) ?_
            exact one 212 rfl
      refine j_iload_n E 1 dX8_extensionTo_0 2 rfl rfl rfl ?_
      refine j_iconst E (1) 2 dX8_extensionTo_1 (by decide) rfl ?_
      refine j_icmp_eq E 27 5 dX8_extensionTo_2 (by decide) rfl (fun h2 => ?_) (fun h2 => ?_)
      · exact t27
      · exact absurd rfl h2
    · have t27 : J X 5 [MF m r th ts os vc lc bc (pkP st) pkg cm (fuP st) op fc fp at_ bgc got pr, BF X.1 a st, F] 0 0 27 [some (.ref m), some (.ref a), some (.int (nI 2)), some (.int ty), none] [] := by
        refine j_iconst E (1) 28 dX8_extensionTo_27 (by decide) rfl ?_
        refine j_goto E 32 dX8_extensionTo_28 (by decide) ?_
        refine j_istore E 34 dX8_extensionTo_32 (Nat.le_of_ble_eq_true rfl) rfl rfl ?_
        dsimp only [List.set]
        refine j_iload E 36 dX8_extensionTo_34 rfl rfl ?_
        refine j_if_eq E 95 39 dX8_extensionTo_36 (by decide) rfl (fun h36 => ?_) (fun h36 => ?_)
        · exact absurd h36 (by decide)
        · refine j_aload_n E 40 dX8_extensionTo_39 0 rfl rfl rfl ?_
          refine j_aload_n E 41 dX8_extensionTo_40 1 rfl rfl rfl ?_
          refine j_iload_n E 42 dX8_extensionTo_41 2 rfl rfl rfl ?_
          refine j_iconst E (1) 43 dX8_extensionTo_42 (by decide) rfl ?_
          refine j_icmp_ne E 52 46 dX8_extensionTo_43 (by decide) rfl (fun h43 => ?_) (fun h43 => ?_)
          · refine j_iload_n E 53 dX8_extensionTo_52 2 rfl rfl rfl ?_
            refine j_iconst E (2) 54 dX8_extensionTo_53 (by decide) rfl ?_
            refine j_icmp_ne E 63 57 dX8_extensionTo_54 (by decide) rfl (fun h54 => ?_) (fun h54 => ?_)
            · exact absurd rfl h54
            · refine j_sipush E (213) 60 dX8_extensionTo_57 (by decide) rfl ?_
              refine j_goto E 89 dX8_extensionTo_60 (by decide) ?_
              exact one 213 rfl
          · exact absurd h43 (by decide)
      refine j_iload_n E 1 dX8_extensionTo_0 2 rfl rfl rfl ?_
      refine j_iconst E (1) 2 dX8_extensionTo_1 (by decide) rfl ?_
      refine j_icmp_eq E 27 5 dX8_extensionTo_2 (by decide) rfl (fun h2 => ?_) (fun h2 => ?_)
      · exact absurd h2 (by decide)
      · refine j_iload_n E 6 dX8_extensionTo_5 2 rfl rfl rfl ?_
        refine j_iconst E (2) 7 dX8_extensionTo_6 (by decide) rfl ?_
        refine j_icmp_eq E 27 10 dX8_extensionTo_7 (by decide) rfl (fun h7 => ?_) (fun h7 => ?_)
        · exact t27
        · exact absurd rfl h7
    · have t27 : J X 5 [MF m r th ts os vc lc bc (pkP st) pkg cm (fuP st) op fc fp at_ bgc got pr, BF X.1 a st, F] 0 0 27 [some (.ref m), some (.ref a), some (.int (nI 4)), some (.int ty), none] [] := by
        refine j_iconst E (1) 28 dX8_extensionTo_27 (by decide) rfl ?_
        refine j_goto E 32 dX8_extensionTo_28 (by decide) ?_
        refine j_istore E 34 dX8_extensionTo_32 (Nat.le_of_ble_eq_true rfl) rfl rfl ?_
        dsimp only [List.set]
        refine j_iload E 36 dX8_extensionTo_34 rfl rfl ?_
        refine j_if_eq E 95 39 dX8_extensionTo_36 (by decide) rfl (fun h36 => ?_) (fun h36 => ?_)
        · exact absurd h36 (by decide)
        · refine j_aload_n E 40 dX8_extensionTo_39 0 rfl rfl rfl ?_
          refine j_aload_n E 41 dX8_extensionTo_40 1 rfl rfl rfl ?_
          refine j_iload_n E 42 dX8_extensionTo_41 2 rfl rfl rfl ?_
          refine j_iconst E (1) 43 dX8_extensionTo_42 (by decide) rfl ?_
          refine j_icmp_ne E 52 46 dX8_extensionTo_43 (by decide) rfl (fun h43 => ?_) (fun h43 => ?_)
          · refine j_iload_n E 53 dX8_extensionTo_52 2 rfl rfl rfl ?_
            refine j_iconst E (2) 54 dX8_extensionTo_53 (by decide) rfl ?_
            refine j_icmp_ne E 63 57 dX8_extensionTo_54 (by decide) rfl (fun h54 => ?_) (fun h54 => ?_)
            · refine j_iload_n E 64 dX8_extensionTo_63 2 rfl rfl rfl ?_
              refine j_iconst E (4) 65 dX8_extensionTo_64 (by decide) rfl ?_
              refine j_icmp_ne E 74 68 dX8_extensionTo_65 (by decide) rfl (fun h65 => ?_) (fun h65 => ?_)
              · exact absurd rfl h65
              · refine j_sipush E (214) 71 dX8_extensionTo_68 (by decide) rfl ?_
                refine j_goto E 89 dX8_extensionTo_71 (by decide) ?_
                exact one 214 rfl
            · exact absurd h54 (by decide)
          · exact absurd h43 (by decide)
      refine j_iload_n E 1 dX8_extensionTo_0 2 rfl rfl rfl ?_
      refine j_iconst E (1) 2 dX8_extensionTo_1 (by decide) rfl ?_
      refine j_icmp_eq E 27 5 dX8_extensionTo_2 (by decide) rfl (fun h2 => ?_) (fun h2 => ?_)
      · exact absurd h2 (by decide)
      · refine j_iload_n E 6 dX8_extensionTo_5 2 rfl rfl rfl ?_
        refine j_iconst E (2) 7 dX8_extensionTo_6 (by decide) rfl ?_
        refine j_icmp_eq E 27 10 dX8_extensionTo_7 (by decide) rfl (fun h7 => ?_) (fun h7 => ?_)
        · exact absurd h7 (by decide)
        · refine j_iload_n E 11 dX8_extensionTo_10 2 rfl rfl rfl ?_
          refine j_iconst E (4) 12 dX8_extensionTo_11 (by decide) rfl ?_
          refine j_icmp_eq E 27 15 dX8_extensionTo_12 (by decide) rfl (fun h12 => ?_) (fun h12 => ?_)
          · exact t27
          · exact absurd rfl h12
    · have t27 : J X 5 [MF m r th ts os vc lc bc (pkP st) pkg cm (fuP st) op fc fp at_ bgc got pr, BF X.1 a st, F] 0 0 27 [some (.ref m), some (.ref a), some (.int (nI 8)), some (.int ty), none] [] := by
        refine j_iconst E (1) 28 dX8_extensionTo_27 (by decide) rfl ?_
        refine j_goto E 32 dX8_extensionTo_28 (by decide) ?_
        refine j_istore E 34 dX8_extensionTo_32 (Nat.le_of_ble_eq_true rfl) rfl rfl ?_
        dsimp only [List.set]
        refine j_iload E 36 dX8_extensionTo_34 rfl rfl ?_
        refine j_if_eq E 95 39 dX8_extensionTo_36 (by decide) rfl (fun h36 => ?_) (fun h36 => ?_)
        · exact absurd h36 (by decide)
        · refine j_aload_n E 40 dX8_extensionTo_39 0 rfl rfl rfl ?_
          refine j_aload_n E 41 dX8_extensionTo_40 1 rfl rfl rfl ?_
          refine j_iload_n E 42 dX8_extensionTo_41 2 rfl rfl rfl ?_
          refine j_iconst E (1) 43 dX8_extensionTo_42 (by decide) rfl ?_
          refine j_icmp_ne E 52 46 dX8_extensionTo_43 (by decide) rfl (fun h43 => ?_) (fun h43 => ?_)
          · refine j_iload_n E 53 dX8_extensionTo_52 2 rfl rfl rfl ?_
            refine j_iconst E (2) 54 dX8_extensionTo_53 (by decide) rfl ?_
            refine j_icmp_ne E 63 57 dX8_extensionTo_54 (by decide) rfl (fun h54 => ?_) (fun h54 => ?_)
            · refine j_iload_n E 64 dX8_extensionTo_63 2 rfl rfl rfl ?_
              refine j_iconst E (4) 65 dX8_extensionTo_64 (by decide) rfl ?_
              refine j_icmp_ne E 74 68 dX8_extensionTo_65 (by decide) rfl (fun h65 => ?_) (fun h65 => ?_)
              · refine j_iload_n E 75 dX8_extensionTo_74 2 rfl rfl rfl ?_
                refine j_bipush E (8) 77 dX8_extensionTo_75 (by decide) rfl ?_
                refine j_icmp_ne E 86 80 dX8_extensionTo_77 (by decide) rfl (fun h77 => ?_) (fun h77 => ?_)
                · exact absurd rfl h77
                · refine j_sipush E (215) 83 dX8_extensionTo_80 (by decide) rfl ?_
                  refine j_goto E 89 dX8_extensionTo_83 (by decide) ?_
                  exact one 215 rfl
              · exact absurd h65 (by decide)
            · exact absurd h54 (by decide)
          · exact absurd h43 (by decide)
      refine j_iload_n E 1 dX8_extensionTo_0 2 rfl rfl rfl ?_
      refine j_iconst E (1) 2 dX8_extensionTo_1 (by decide) rfl ?_
      refine j_icmp_eq E 27 5 dX8_extensionTo_2 (by decide) rfl (fun h2 => ?_) (fun h2 => ?_)
      · exact absurd h2 (by decide)
      · refine j_iload_n E 6 dX8_extensionTo_5 2 rfl rfl rfl ?_
        refine j_iconst E (2) 7 dX8_extensionTo_6 (by decide) rfl ?_
        refine j_icmp_eq E 27 10 dX8_extensionTo_7 (by decide) rfl (fun h7 => ?_) (fun h7 => ?_)
        · exact absurd h7 (by decide)
        · refine j_iload_n E 11 dX8_extensionTo_10 2 rfl rfl rfl ?_
          refine j_iconst E (4) 12 dX8_extensionTo_11 (by decide) rfl ?_
          refine j_icmp_eq E 27 15 dX8_extensionTo_12 (by decide) rfl (fun h12 => ?_) (fun h12 => ?_)
          · exact absurd h12 (by decide)
          · refine j_iload_n E 16 dX8_extensionTo_15 2 rfl rfl rfl ?_
            refine j_bipush E (8) 18 dX8_extensionTo_16 (by decide) rfl ?_
            refine j_icmp_eq E 27 21 dX8_extensionTo_18 (by decide) rfl (fun h18 => ?_) (fun h18 => ?_)
            · exact t27
            · exact absurd rfl h18
    · have t27 : J X 5 [MF m r th ts os vc lc bc (pkP st) pkg cm (fuP st) op fc fp at_ bgc got pr, BF X.1 a st, F] 0 0 27 [some (.ref m), some (.ref a), some (.int (nI 16)), some (.int ty), none] [] := by
        refine j_iconst E (1) 28 dX8_extensionTo_27 (by decide) rfl ?_
        refine j_goto E 32 dX8_extensionTo_28 (by decide) ?_
        refine j_istore E 34 dX8_extensionTo_32 (Nat.le_of_ble_eq_true rfl) rfl rfl ?_
        dsimp only [List.set]
        refine j_iload E 36 dX8_extensionTo_34 rfl rfl ?_
        refine j_if_eq E 95 39 dX8_extensionTo_36 (by decide) rfl (fun h36 => ?_) (fun h36 => ?_)
        · exact absurd h36 (by decide)
        · refine j_aload_n E 40 dX8_extensionTo_39 0 rfl rfl rfl ?_
          refine j_aload_n E 41 dX8_extensionTo_40 1 rfl rfl rfl ?_
          refine j_iload_n E 42 dX8_extensionTo_41 2 rfl rfl rfl ?_
          refine j_iconst E (1) 43 dX8_extensionTo_42 (by decide) rfl ?_
          refine j_icmp_ne E 52 46 dX8_extensionTo_43 (by decide) rfl (fun h43 => ?_) (fun h43 => ?_)
          · refine j_iload_n E 53 dX8_extensionTo_52 2 rfl rfl rfl ?_
            refine j_iconst E (2) 54 dX8_extensionTo_53 (by decide) rfl ?_
            refine j_icmp_ne E 63 57 dX8_extensionTo_54 (by decide) rfl (fun h54 => ?_) (fun h54 => ?_)
            · refine j_iload_n E 64 dX8_extensionTo_63 2 rfl rfl rfl ?_
              refine j_iconst E (4) 65 dX8_extensionTo_64 (by decide) rfl ?_
              refine j_icmp_ne E 74 68 dX8_extensionTo_65 (by decide) rfl (fun h65 => ?_) (fun h65 => ?_)
              · refine j_iload_n E 75 dX8_extensionTo_74 2 rfl rfl rfl ?_
                refine j_bipush E (8) 77 dX8_extensionTo_75 (by decide) rfl ?_
                refine j_icmp_ne E 86 80 dX8_extensionTo_77 (by decide) rfl (fun h77 => ?_) (fun h77 => ?_)
                · refine j_sipush E (216) 89 dX8_extensionTo_86 (by decide) rfl ?_
                  exact one 216 rfl
                · exact absurd h77 (by decide)
              · exact absurd h65 (by decide)
            · exact absurd h54 (by decide)
          · exact absurd h43 (by decide)
      refine j_iload_n E 1 dX8_extensionTo_0 2 rfl rfl rfl ?_
      refine j_iconst E (1) 2 dX8_extensionTo_1 (by decide) rfl ?_
      refine j_icmp_eq E 27 5 dX8_extensionTo_2 (by decide) rfl (fun h2 => ?_) (fun h2 => ?_)
      · exact absurd h2 (by decide)
      · refine j_iload_n E 6 dX8_extensionTo_5 2 rfl rfl rfl ?_
        refine j_iconst E (2) 7 dX8_extensionTo_6 (by decide) rfl ?_
        refine j_icmp_eq E 27 10 dX8_extensionTo_7 (by decide) rfl (fun h7 => ?_) (fun h7 => ?_)
        · exact absurd h7 (by decide)
        · refine j_iload_n E 11 dX8_extensionTo_10 2 rfl rfl rfl ?_
          refine j_iconst E (4) 12 dX8_extensionTo_11 (by decide) rfl ?_
          refine j_icmp_eq E 27 15 dX8_extensionTo_12 (by decide) rfl (fun h12 => ?_) (fun h12 => ?_)
          · exact absurd h12 (by decide)
          · refine j_iload_n E 16 dX8_extensionTo_15 2 rfl rfl rfl ?_
            refine j_bipush E (8) 18 dX8_extensionTo_16 (by decide) rfl ?_
            refine j_icmp_eq E 27 21 dX8_extensionTo_18 (by decide) rfl (fun h18 => ?_) (fun h18 => ?_)
            · exact absurd h18 (by decide)
            · refine j_iload_n E 22 dX8_extensionTo_21 2 rfl rfl rfl ?_
              refine j_bipush E (16) 24 dX8_extensionTo_22 (by decide) rfl ?_
              refine j_icmp_ne E 31 27 dX8_extensionTo_24 (by decide) rfl (fun h24 => ?_) (fun h24 => ?_)
              · exact absurd rfl h24
              · exact t27
  · have ne : ∀ k, (k = 1 ∨ k = 2 ∨ k = 4 ∨ k = 8 ∨ k = 16) → ¬ nI n = nI k := fun k hk e => q (by
      have := (nI_eq (by omega) (by omega)).mp e
      omega)
    have ex : hdE (xl n) 199 n = cntE n 0 0 199 200 201 := by
      rw [xl, if_neg (fun e => q (by omega)), if_neg (fun e => q (by omega)), if_neg (fun e => q (by omega)), if_neg (fun e => q (by omega)), if_neg (fun e => q (by omega))]
      exact (cnt_hd n 199 (by decide)).symm
    refine j_iload_n E 1 dX8_extensionTo_0 2 rfl rfl rfl ?_
    refine j_iconst E (1) 2 dX8_extensionTo_1 (by decide) rfl ?_
    refine j_icmp_eq E 27 5 dX8_extensionTo_2 (by decide) rfl (fun h2 => ?_) (fun h2 => ?_)
    · exact absurd h2 (ne 1 (by decide))
    · refine j_iload_n E 6 dX8_extensionTo_5 2 rfl rfl rfl ?_
      refine j_iconst E (2) 7 dX8_extensionTo_6 (by decide) rfl ?_
      refine j_icmp_eq E 27 10 dX8_extensionTo_7 (by decide) rfl (fun h7 => ?_) (fun h7 => ?_)
      · exact absurd h7 (ne 2 (by decide))
      · refine j_iload_n E 11 dX8_extensionTo_10 2 rfl rfl rfl ?_
        refine j_iconst E (4) 12 dX8_extensionTo_11 (by decide) rfl ?_
        refine j_icmp_eq E 27 15 dX8_extensionTo_12 (by decide) rfl (fun h12 => ?_) (fun h12 => ?_)
        · exact absurd h12 (ne 4 (by decide))
        · refine j_iload_n E 16 dX8_extensionTo_15 2 rfl rfl rfl ?_
          refine j_bipush E (8) 18 dX8_extensionTo_16 (by decide) rfl ?_
          refine j_icmp_eq E 27 21 dX8_extensionTo_18 (by decide) rfl (fun h18 => ?_) (fun h18 => ?_)
          · exact absurd h18 (ne 8 (by decide))
          · refine j_iload_n E 22 dX8_extensionTo_21 2 rfl rfl rfl ?_
            refine j_bipush E (16) 24 dX8_extensionTo_22 (by decide) rfl ?_
            refine j_icmp_ne E 31 27 dX8_extensionTo_24 (by decide) rfl (fun h24 => ?_) (fun h24 => ?_)
            · refine j_iconst E (0) 32 dX8_extensionTo_31 (by decide) rfl ?_
              refine j_istore E 34 dX8_extensionTo_32 (Nat.le_of_ble_eq_true rfl) rfl rfl ?_
              dsimp only [List.set]
              refine j_iload E 36 dX8_extensionTo_34 rfl rfl ?_
              refine j_if_eq E 95 39 dX8_extensionTo_36 (by decide) rfl (fun h36 => ?_) (fun h36 => ?_)
              · refine j_aload_n E 96 dX8_extensionTo_95 0 rfl rfl rfl ?_
                refine j_aload_n E 97 dX8_extensionTo_96 1 rfl rfl rfl ?_
                refine j_iload_n E 98 dX8_extensionTo_97 2 rfl rfl rfl ?_
                refine j_iconst E (0) 99 dX8_extensionTo_98 (by decide) rfl ?_
                refine j_iconst E (0) 100 dX8_extensionTo_99 (by decide) rfl ?_
                refine j_sipush E (199) 103 dX8_extensionTo_100 (by decide) rfl ?_
                refine j_sipush E (200) 106 dX8_extensionTo_103 (by decide) rfl ?_
                refine j_sipush E (201) 109 dX8_extensionTo_106 (by decide) rfl ?_
                refine j_callV E (c_m_count hG (d-1) m r a n 0 0 199 200 201 st (by omega) hn (by decide) (by decide)) 112 dX8_extensionTo_109 _ _ _ iv_X8_225 rfl rfl rfl (by repeat (first | with_reducible exact pick_0 | with_reducible apply pick_s | exact sel_0 | apply sel_s)) (by omega) (by omega) (by omega) (Nat.le_of_ble_eq_true rfl) rfl ?_
                rintro _ _ _ _ ⟨rfl, rfl, rfl, rfl⟩
                dsimp only [List.cons_append, List.nil_append, Option.toList]
                exact j_sel (by repeat (first | with_reducible exact pick_0 | with_reducible apply pick_s | exact sel_0 | apply sel_s)) (fin _ _ ex)
              · exact absurd rfl h36
            · exact absurd h24 (ne 16 (by decide))
set_option maxHeartbeats 8000000 in
theorem c_m_time {g : GT} (hG : GLB g) (d m : Nat) (r : Nat → Nat) {th ts os vc lc bc pkg cm op fc fp at_ bgc got : Int32} {pr : Int64} (a q : Nat) (sec : Int64) (st : Option (List UInt8)) (hd : 7 ≤ d) (hq : q ≤ 999999999) : CtrV g mX8_timeTo 7 d 0 0 m [.ref a, .long sec, .int (nI q)] [MF m r th ts os vc lc bc (pkP st) pkg cm (fuP st) op fc fp at_ bgc got pr, BF g a st] (fun o dc ds ws' => o = none ∧ dc = 0 ∧ ds = 0 ∧ ws' = [MF m r th ts os vc lc bc (pkP (wr 65536 st (timeE sec (nI q)))) pkg cm (fuP (wr 65536 st (timeE sec (nI q)))) op fc fp at_ bgc got pr, BF g a (wr 65536 st (timeE sec (nI q)))]) noX := by
  refine ⟨rcv_pt, ?_⟩
  refine ctr_intro hG (by decide +kernel) (Nat.le_of_ble_eq_true rfl) ?_
  rintro X F rfl E B hI T
  replace E : JE X RX8 cX8_timeTo 5 d 0 0 := E
  show J X _ [MF m r th ts os vc lc bc (pkP st) pkg cm (fuP st) op fc fp at_ bgc got pr, BF X.1 a st, F] 0 0 0 [some (.ref m), some (.ref a), some (.long sec), none, some (.int (nI q))] []
  have em : [lo8 (-1)] = beB (-1) 1 := by
    show _ = [lowB (-1) 0]
    rw [low0]
    rfl
  rw [timeE, ← em] at B
  have t36 : ¬ (nI q = 0 ∧ 0 ≤ sec.toInt ∧ sec.toInt < 4294967296) → J X 5 [MF m r th ts os vc lc bc (pkP st) pkg cm (fuP st) op fc fp at_ bgc got pr, BF X.1 a st, F] 0 0 36 [some (.ref m), some (.ref a), some (.long sec), none, some (.int (nI q))] [] := by
    intro n4
    have t76 : ¬ (0 ≤ sec.toInt ∧ sec.toInt < 17179869184) → J X 5 [MF m r th ts os vc lc bc (pkP st) pkg cm (fuP st) op fc fp at_ bgc got pr, BF X.1 a st, F] 0 0 76 [some (.ref m), some (.ref a), some (.long sec), none, some (.int (nI q))] [] := by
      intro n8
      have e : timeN sec (nI q) = 12 := by rw [timeN, if_neg n4, if_neg n8]
      rw [e, if_neg (by decide), if_neg (by decide)] at B
      refine j_aload_n E 77 dX8_timeTo_76 0 rfl rfl rfl ?_
      refine j_aload_n E 78 dX8_timeTo_77 1 rfl rfl rfl ?_
      refine j_bipush E (12) 80 dX8_timeTo_78 (by decide) rfl ?_
      refine j_iconst E (-1) 81 dX8_timeTo_80 (by decide) rfl ?_
      refine j_callV E (c_m_ext hG (d-1) m r a 12 (-1) st (by omega) (by decide)) 84 dX8_timeTo_81 _ _ _ iv_X8_236 rfl rfl rfl (by repeat (first | with_reducible exact pick_0 | with_reducible apply pick_s | exact sel_0 | apply sel_s)) (by omega) (by omega) (by omega) (Nat.le_of_ble_eq_true rfl) rfl ?_
      rintro _ _ _ _ ⟨rfl, rfl, rfl, rfl⟩
      dsimp only [List.cons_append, List.nil_append, Option.toList]
      refine j_aload_n E 85 dX8_timeTo_84 0 rfl rfl rfl ?_
      refine j_aload_n E 86 dX8_timeTo_85 1 rfl rfl rfl ?_
      refine j_iload E 88 dX8_timeTo_86 rfl rfl ?_
      refine j_i2l E 89 dX8_timeTo_88 rfl ?_
      refine j_iconst E (4) 90 dX8_timeTo_89 (by decide) rfl ?_
      refine j_callV E (c_m_num hG (d-1) m r a 4 (nI q).toInt64 _ (by omega) (by decide)) 93 dX8_timeTo_90 _ _ _ iv_X8_213 rfl rfl rfl (by repeat (first | with_reducible exact pick_0 | with_reducible apply pick_s | exact sel_0 | apply sel_s)) (by omega) (by omega) (by omega) (Nat.le_of_ble_eq_true rfl) rfl ?_
      rintro _ _ _ _ ⟨rfl, rfl, rfl, rfl⟩
      dsimp only [List.cons_append, List.nil_append, Option.toList]
      rw [wr_app]
      refine j_aload_n E 94 dX8_timeTo_93 0 rfl rfl rfl ?_
      refine j_aload_n E 95 dX8_timeTo_94 1 rfl rfl rfl ?_
      refine j_lload_n E 96 dX8_timeTo_95 2 rfl rfl rfl ?_
      refine j_bipush E (8) 98 dX8_timeTo_96 (by decide) rfl ?_
      refine j_callV E (c_m_num hG (d-1) m r a 8 sec _ (by omega) (by decide)) 101 dX8_timeTo_98 _ _ _ iv_X8_213 rfl rfl rfl (by repeat (first | with_reducible exact pick_0 | with_reducible apply pick_s | exact sel_0 | apply sel_s)) (by omega) (by omega) (by omega) (Nat.le_of_ble_eq_true rfl) rfl ?_
      rintro _ _ _ _ ⟨rfl, rfl, rfl, rfl⟩
      dsimp only [List.cons_append, List.nil_append, Option.toList]
      rw [wr_app]
      simp only [List.append_assoc] at B ⊢
      exact j_vret E B rfl 0 0 dX8_timeTo_101 (by repeat (first | with_reducible exact pick_0 | with_reducible apply pick_s | exact sel_0 | apply sel_s)) ⟨rfl, rfl, rfl, rfl⟩ (by omega) (by omega) (by omega) (by omega)
    refine j_lload_n E 37 dX8_timeTo_36 2 rfl rfl rfl ?_
    refine j_lconst E 0 38 dX8_timeTo_37 rfl rfl ?_
    refine j_lcmp E 39 dX8_timeTo_38 rfl ?_
    refine j_if_lt E 76 42 dX8_timeTo_39 (by decide) rfl (fun h39 => ?_) (fun h39 => ?_)
    · have p1 : sec.toInt < 0 := (fa_lt64 _ _).mp ((lg_cmp_lt _ _).mp h39)
      exact t76 (by omega)
    · have p1 : ¬ sec.toInt < 0 := fun x => h39 ((lg_cmp_lt _ _).mpr ((fa_lt64 sec 0).mpr x))
      refine j_lload_n E 43 dX8_timeTo_42 2 rfl rfl rfl ?_
      refine j_ldcL E _ 46 dX8_timeTo_43 kc_X8_245 rfl ?_
      refine j_lcmp E 47 dX8_timeTo_46 rfl ?_
      refine j_if_ge E 76 50 dX8_timeTo_47 (by decide) rfl (fun h47 => ?_) (fun h47 => ?_)
      · have p2 : (17179869184 : Int) ≤ sec.toInt := (fa_le64 _ _).mp ((lg_cmp_ge _ _).mp h47)
        exact t76 (by omega)
      · have p2 : ¬ (17179869184 : Int) ≤ sec.toInt := fun x => h47 ((lg_cmp_ge _ _).mpr ((fa_le64 17179869184 sec).mpr x))
        have e : timeN sec (nI q) = 8 := by rw [timeN, if_neg n4, if_pos (by omega)]
        rw [e, if_neg (by decide), if_pos rfl] at B
        obtain ⟨y, hy, rfl⟩ : ∃ y, y < 17179869184 ∧ sec = lN y := by
          obtain ⟨y, hy, rfl⟩ := pk_lOf (x := sec) (fun x => p1 ((fa_lt64 _ _).mp x))
          rw [pk_lT hy] at p2
          exact ⟨y, by omega, rfl⟩
        refine j_aload_n E 51 dX8_timeTo_50 0 rfl rfl rfl ?_
        refine j_aload_n E 52 dX8_timeTo_51 1 rfl rfl rfl ?_
        refine j_bipush E (8) 54 dX8_timeTo_52 (by decide) rfl ?_
        refine j_iconst E (-1) 55 dX8_timeTo_54 (by decide) rfl ?_
        refine j_callV E (c_m_ext hG (d-1) m r a 8 (-1) st (by omega) (by decide)) 58 dX8_timeTo_55 _ _ _ iv_X8_236 rfl rfl rfl (by repeat (first | with_reducible exact pick_0 | with_reducible apply pick_s | exact sel_0 | apply sel_s)) (by omega) (by omega) (by omega) (Nat.le_of_ble_eq_true rfl) rfl ?_
        rintro _ _ _ _ ⟨rfl, rfl, rfl, rfl⟩
        dsimp only [List.cons_append, List.nil_append, Option.toList]
        refine j_aload_n E 59 dX8_timeTo_58 0 rfl rfl rfl ?_
        refine j_aload_n E 60 dX8_timeTo_59 1 rfl rfl rfl ?_
        refine j_iload E 62 dX8_timeTo_60 rfl rfl ?_
        refine j_i2l E 63 dX8_timeTo_62 rfl ?_
        refine j_bipush E (34) 65 dX8_timeTo_63 (by decide) rfl ?_
        refine j_lshl E 66 dX8_timeTo_65 rfl ?_
        refine j_lload_n E 67 dX8_timeTo_66 2 rfl rfl rfl ?_
        refine j_ladd E 68 dX8_timeTo_67 rfl ?_
        refine j_eql (y := ((nI q).toInt64 <<< ((34 : Int32).toInt64 &&& 63)) ||| lN y) ?_ ?_
        · rw [nI_l (by omega)]
          have e1 : lN q <<< ((34 : Int32).toInt64 &&& 63) = lN (q * 17179869184) := g_shl (k := 34) (by decide) (by decide) (by decide) (by omega)
          rw [e1, g_or (k := 34) (by decide) hy (by omega), lN_add]
        refine j_bipush E (8) 70 dX8_timeTo_68 (by decide) rfl ?_
        refine j_callV E (c_m_num hG (d-1) m r a 8 _ _ (by omega) (by decide)) 73 dX8_timeTo_70 _ _ _ iv_X8_213 rfl rfl rfl (by repeat (first | with_reducible exact pick_0 | with_reducible apply pick_s | exact sel_0 | apply sel_s)) (by omega) (by omega) (by omega) (Nat.le_of_ble_eq_true rfl) rfl ?_
        rintro _ _ _ _ ⟨rfl, rfl, rfl, rfl⟩
        dsimp only [List.cons_append, List.nil_append, Option.toList]
        rw [wr_app]
        simp only [List.append_assoc] at B ⊢
        refine j_goto E 101 dX8_timeTo_73 (by decide) ?_
        exact j_vret E B rfl 0 0 dX8_timeTo_101 (by repeat (first | with_reducible exact pick_0 | with_reducible apply pick_s | exact sel_0 | apply sel_s)) ⟨rfl, rfl, rfl, rfl⟩ (by omega) (by omega) (by omega) (by omega)
  refine j_lload_n E 1 dX8_timeTo_0 2 rfl rfl rfl ?_
  refine j_lconst E 0 2 dX8_timeTo_1 rfl rfl ?_
  refine j_lcmp E 3 dX8_timeTo_2 rfl ?_
  refine j_if_lt E 36 6 dX8_timeTo_3 (by decide) rfl (fun h3 => ?_) (fun h3 => ?_)
  · have p1 : sec.toInt < 0 := (fa_lt64 _ _).mp ((lg_cmp_lt _ _).mp h3)
    exact t36 (by omega)
  · have p1 : ¬ sec.toInt < 0 := fun x => h3 ((lg_cmp_lt _ _).mpr ((fa_lt64 sec 0).mpr x))
    refine j_lload_n E 7 dX8_timeTo_6 2 rfl rfl rfl ?_
    refine j_ldcL E _ 10 dX8_timeTo_7 kc_X8_243 rfl ?_
    refine j_lcmp E 11 dX8_timeTo_10 rfl ?_
    refine j_if_ge E 36 14 dX8_timeTo_11 (by decide) rfl (fun h11 => ?_) (fun h11 => ?_)
    · have p2 : (4294967296 : Int) ≤ sec.toInt := (fa_le64 _ _).mp ((lg_cmp_ge _ _).mp h11)
      exact t36 (by omega)
    · have p2 : ¬ (4294967296 : Int) ≤ sec.toInt := fun x => h11 ((lg_cmp_ge _ _).mpr ((fa_le64 4294967296 sec).mpr x))
      refine j_iload E 16 dX8_timeTo_14 rfl rfl ?_
      refine j_if_ne E 36 19 dX8_timeTo_16 (by decide) rfl (fun h16 => ?_) (fun h16 => ?_)
      · exact t36 (fun x => h16 x.1)
      · have e : timeN sec (nI q) = 4 := by rw [timeN, if_pos ⟨h16, by omega, by omega⟩]
        rw [e, if_pos rfl] at B
        refine j_aload_n E 20 dX8_timeTo_19 0 rfl rfl rfl ?_
        refine j_aload_n E 21 dX8_timeTo_20 1 rfl rfl rfl ?_
        refine j_iconst E (4) 22 dX8_timeTo_21 (by decide) rfl ?_
        refine j_iconst E (-1) 23 dX8_timeTo_22 (by decide) rfl ?_
        refine j_callV E (c_m_ext hG (d-1) m r a 4 (-1) st (by omega) (by decide)) 26 dX8_timeTo_23 _ _ _ iv_X8_236 rfl rfl rfl (by repeat (first | with_reducible exact pick_0 | with_reducible apply pick_s | exact sel_0 | apply sel_s)) (by omega) (by omega) (by omega) (Nat.le_of_ble_eq_true rfl) rfl ?_
        rintro _ _ _ _ ⟨rfl, rfl, rfl, rfl⟩
        dsimp only [List.cons_append, List.nil_append, Option.toList]
        refine j_aload_n E 27 dX8_timeTo_26 0 rfl rfl rfl ?_
        refine j_aload_n E 28 dX8_timeTo_27 1 rfl rfl rfl ?_
        refine j_lload_n E 29 dX8_timeTo_28 2 rfl rfl rfl ?_
        refine j_iconst E (4) 30 dX8_timeTo_29 (by decide) rfl ?_
        refine j_callV E (c_m_num hG (d-1) m r a 4 sec _ (by omega) (by decide)) 33 dX8_timeTo_30 _ _ _ iv_X8_213 rfl rfl rfl (by repeat (first | with_reducible exact pick_0 | with_reducible apply pick_s | exact sel_0 | apply sel_s)) (by omega) (by omega) (by omega) (Nat.le_of_ble_eq_true rfl) rfl ?_
        rintro _ _ _ _ ⟨rfl, rfl, rfl, rfl⟩
        dsimp only [List.cons_append, List.nil_append, Option.toList]
        rw [wr_app]
        simp only [List.append_assoc] at B ⊢
        refine j_goto E 101 dX8_timeTo_33 (by decide) ?_
        exact j_vret E B rfl 0 0 dX8_timeTo_101 (by repeat (first | with_reducible exact pick_0 | with_reducible apply pick_s | exact sel_0 | apply sel_s)) ⟨rfl, rfl, rfl, rfl⟩ (by omega) (by omega) (by omega) (by omega)

/-! Packer: times, rows -/
set_option maxHeartbeats 8000000 in
theorem c_pk_time {g : GT} (hG : GLB g) (d M N pk pr cm most cap : Nat) (sec : Int64) (na : Int32) (st : Option (List UInt8)) (hd : 8 ≤ d) (hm : most ≤ 65536) (hM : 131136 ≤ 64 * M + cap) (hN : 393216 ≤ N + 2 * cap) : CtrV g mX3_writeTime 2 d M N pk [.long sec, .int na] [PKO g pk pr cm most st cap] (fun o dc ds ws' => ∃ xcap, o = none ∧ ws' = [PKO g pk pr cm most (wr most st (timeE sec na)) xcap] ∧ 64 * dc + cap ≤ xcap ∧ ds + 2 * cap ≤ 2 * xcap ∧ dc ≤ M ∧ ds ≤ N) noX := by
  refine ⟨pko_rcv, ?_⟩
  refine ctr_intro hG (by decide +kernel) (Nat.le_of_ble_eq_true rfl) ?_
  rintro X F rfl E B hI T
  replace E : JE X RX3 cX3_writeTime 7 d M N := E
  show J X _ [PKO X.1 pk pr cm most st cap, F] 0 0 0 [some (.ref pk), some (.long sec), none, some (.int na), none, none, none] []
  have t59 : ∀ (a b : Bool) (n : Nat), (n = 4 ∨ n = 8 ∨ n = 12) → timeN sec na = n → (n = 4 ↔ b = true) → (n = 12 ↔ (b = false ∧ a = false)) → J X 7 [PKO X.1 pk pr cm most st cap, F] 0 0 57 [some (.ref pk), some (.long sec), none, some (.int na), some (.int (bI a)), some (.int (bI b)), none] [.int (nI n)] := by
    intro a b n hn hq q4 q12
    rw [timeE, hq] at B
    refine j_istore E 59 dX3_writeTime_57 (Nat.le_of_ble_eq_true rfl) rfl rfl ?_
    dsimp only [List.set]
    refine j_aload_n E 60 dX3_writeTime_59 0 rfl rfl rfl ?_
    refine j_iload E 62 dX3_writeTime_60 rfl rfl ?_
    refine j_callS E (c_pk_xl hG (d-1) n (by omega)) 65 dX3_writeTime_62 iv_X3_127 rfl rfl (by repeat (first | with_reducible exact pick_0 | with_reducible apply pick_s | exact sel_0 | apply sel_s)) (by omega) (by omega) (by omega) (Nat.le_of_ble_eq_true rfl) rfl ?_
    rintro _ _ _ _ ⟨rfl, rfl, rfl, rfl⟩
    dsimp only [List.cons_append, List.nil_append, Option.toList]
    refine j_sipush E (199) 68 dX3_writeTime_65 (by decide) rfl ?_
    refine j_iload E 70 dX3_writeTime_68 rfl rfl ?_
    refine j_callV E (c_pk_head hG (d-1) M N pk pr cm most cap 199 n (xl n) st (by omega) xl_lt (by decide) (by omega) hm hM hN) 73 dX3_writeTime_70 _ _ _ iv_X3_131 rfl rfl rfl (by repeat (first | with_reducible exact pick_0 | with_reducible apply pick_s | exact sel_0 | apply sel_s)) (by omega) (by omega) (by omega) (Nat.le_of_ble_eq_true rfl) rfl ?_
    rintro _ xadc xads _ ⟨xacap, rfl, rfl, xa1, xa2, xa3, xa4⟩
    dsimp only [List.cons_append, List.nil_append, Option.toList]
    refine j_aload_n E 74 dX3_writeTime_73 0 rfl rfl rfl ?_
    refine j_ldcL E _ 77 dX3_writeTime_74 kc_X3_135 rfl ?_
    refine j_iconst E (1) 78 dX3_writeTime_77 (by decide) rfl ?_
    refine j_callV E (c_pk_bytes hG (d-1) (M - xadc) (N - xads) pk pr cm most xacap 1 _ (-1) (by omega) (by omega) hm (by omega) (by omega)) 81 dX3_writeTime_78 _ _ _ iv_X3_71 rfl rfl rfl (by repeat (first | with_reducible exact pick_0 | with_reducible apply pick_s | exact sel_0 | apply sel_s)) (by omega) (by omega) (by omega) (Nat.le_of_ble_eq_true rfl) rfl ?_
    rintro _ xbdc xbds _ ⟨xbcap, rfl, rfl, xb1, xb2, xb3, xb4⟩
    dsimp only [List.cons_append, List.nil_append, Option.toList]
    rw [wr_app]
    rcases b with _ | _
    · have n4 : ¬ n = 4 := fun q => absurd (q4.mp q) (by decide)
      rw [if_neg n4] at B
      refine j_iload E 83 dX3_writeTime_81 rfl rfl ?_
      refine j_if_eq E 95 86 dX3_writeTime_83 (by decide) rfl (fun h83 => ?_) (fun h83 => ?_)
      · rcases a with _ | _
        · have n12 : n = 12 := q12.mpr ⟨rfl, rfl⟩
          rw [if_neg (by omega)] at B
          refine j_iload E 97 dX3_writeTime_95 rfl rfl ?_
          refine j_if_eq E 116 100 dX3_writeTime_97 (by decide) rfl (fun h97 => ?_) (fun h97 => ?_)
          · refine j_aload_n E 117 dX3_writeTime_116 0 rfl rfl rfl ?_
            refine j_iload_n E 118 dX3_writeTime_117 3 rfl rfl rfl ?_
            refine j_i2l E 119 dX3_writeTime_118 rfl ?_
            refine j_iconst E (4) 120 dX3_writeTime_119 (by decide) rfl ?_
            refine j_callV E (c_pk_bytes hG (d-1) (M - xadc - xbdc) (N - xads - xbds) pk pr cm most xbcap 4 _ na.toInt64 (by omega) (by omega) hm (by omega) (by omega)) 123 dX3_writeTime_120 _ _ _ iv_X3_71 rfl rfl rfl (by repeat (first | with_reducible exact pick_0 | with_reducible apply pick_s | exact sel_0 | apply sel_s)) (by omega) (by omega) (by omega) (Nat.le_of_ble_eq_true rfl) rfl ?_
            rintro _ xcdc xcds _ ⟨xccap, rfl, rfl, xc1, xc2, xc3, xc4⟩
            dsimp only [List.cons_append, List.nil_append, Option.toList]
            rw [wr_app]
            refine j_aload_n E 124 dX3_writeTime_123 0 rfl rfl rfl ?_
            refine j_lload_n E 125 dX3_writeTime_124 1 rfl rfl rfl ?_
            refine j_bipush E (8) 127 dX3_writeTime_125 (by decide) rfl ?_
            refine j_callV E (c_pk_bytes hG (d-1) (M - xadc - xbdc - xcdc) (N - xads - xbds - xcds) pk pr cm most xccap 8 _ sec (by omega) (by omega) hm (by omega) (by omega)) 130 dX3_writeTime_127 _ _ _ iv_X3_71 rfl rfl rfl (by repeat (first | with_reducible exact pick_0 | with_reducible apply pick_s | exact sel_0 | apply sel_s)) (by omega) (by omega) (by omega) (Nat.le_of_ble_eq_true rfl) rfl ?_
            rintro _ xddc xdds _ ⟨xdcap, rfl, rfl, xd1, xd2, xd3, xd4⟩
            dsimp only [List.cons_append, List.nil_append, Option.toList]
            rw [wr_app, List.append_assoc, List.append_assoc]
            exact j_vret E B rfl (0 + 0 + xadc + xbdc + xcdc + xddc) (0 + 0 + xads + xbds + xcds + xdds) dX3_writeTime_130 (by repeat (first | with_reducible exact pick_0 | with_reducible apply pick_s | exact sel_0 | apply sel_s)) ⟨xdcap, rfl, rfl, by omega, by omega, by omega, by omega⟩ (by omega) (by omega) (by omega) (by omega)
          · exact absurd rfl h97
        · have n12 : ¬ n = 12 := fun q => absurd (q12.mp q).2 (by decide)
          rw [if_pos (by omega)] at B
          refine j_iload E 97 dX3_writeTime_95 rfl rfl ?_
          refine j_if_eq E 116 100 dX3_writeTime_97 (by decide) rfl (fun h97 => ?_) (fun h97 => ?_)
          · exact absurd h97 (by decide)
          · refine j_aload_n E 101 dX3_writeTime_100 0 rfl rfl rfl ?_
            refine j_iload_n E 102 dX3_writeTime_101 3 rfl rfl rfl ?_
            refine j_i2l E 103 dX3_writeTime_102 rfl ?_
            refine j_bipush E (34) 105 dX3_writeTime_103 (by decide) rfl ?_
            refine j_lshl E 106 dX3_writeTime_105 rfl ?_
            refine j_lload_n E 107 dX3_writeTime_106 1 rfl rfl rfl ?_
            refine j_lor E 108 dX3_writeTime_107 rfl ?_
            refine j_bipush E (8) 110 dX3_writeTime_108 (by decide) rfl ?_
            refine j_callV E (c_pk_bytes hG (d-1) (M - xadc - xbdc) (N - xads - xbds) pk pr cm most xbcap 8 _ ((na.toInt64 <<< ((34 : Int32).toInt64 &&& 63)) ||| sec) (by omega) (by omega) hm (by omega) (by omega)) 113 dX3_writeTime_110 _ _ _ iv_X3_71 rfl rfl rfl (by repeat (first | with_reducible exact pick_0 | with_reducible apply pick_s | exact sel_0 | apply sel_s)) (by omega) (by omega) (by omega) (Nat.le_of_ble_eq_true rfl) rfl ?_
            rintro _ xcdc xcds _ ⟨xccap, rfl, rfl, xc1, xc2, xc3, xc4⟩
            dsimp only [List.cons_append, List.nil_append, Option.toList]
            rw [wr_app, List.append_assoc]
            refine j_goto E 130 dX3_writeTime_113 (by decide) ?_
            exact j_vret E B rfl (0 + 0 + xadc + xbdc + xcdc) (0 + 0 + xads + xbds + xcds) dX3_writeTime_130 (by repeat (first | with_reducible exact pick_0 | with_reducible apply pick_s | exact sel_0 | apply sel_s)) ⟨xccap, rfl, rfl, by omega, by omega, by omega, by omega⟩ (by omega) (by omega) (by omega) (by omega)
      · exact absurd rfl h83
    · have n4 : n = 4 := q4.mpr rfl
      rw [if_pos n4] at B
      refine j_iload E 83 dX3_writeTime_81 rfl rfl ?_
      refine j_if_eq E 95 86 dX3_writeTime_83 (by decide) rfl (fun h83 => ?_) (fun h83 => ?_)
      · exact absurd h83 (by decide)
      · refine j_aload_n E 87 dX3_writeTime_86 0 rfl rfl rfl ?_
        refine j_lload_n E 88 dX3_writeTime_87 1 rfl rfl rfl ?_
        refine j_iconst E (4) 89 dX3_writeTime_88 (by decide) rfl ?_
        refine j_callV E (c_pk_bytes hG (d-1) (M - xadc - xbdc) (N - xads - xbds) pk pr cm most xbcap 4 _ sec (by omega) (by omega) hm (by omega) (by omega)) 92 dX3_writeTime_89 _ _ _ iv_X3_71 rfl rfl rfl (by repeat (first | with_reducible exact pick_0 | with_reducible apply pick_s | exact sel_0 | apply sel_s)) (by omega) (by omega) (by omega) (Nat.le_of_ble_eq_true rfl) rfl ?_
        rintro _ xcdc xcds _ ⟨xccap, rfl, rfl, xc1, xc2, xc3, xc4⟩
        dsimp only [List.cons_append, List.nil_append, Option.toList]
        rw [wr_app, List.append_assoc]
        refine j_goto E 130 dX3_writeTime_92 (by decide) ?_
        exact j_vret E B rfl (0 + 0 + xadc + xbdc + xcdc) (0 + 0 + xads + xbds + xcds) dX3_writeTime_130 (by repeat (first | with_reducible exact pick_0 | with_reducible apply pick_s | exact sel_0 | apply sel_s)) ⟨xccap, rfl, rfl, by omega, by omega, by omega, by omega⟩ (by omega) (by omega) (by omega) (by omega)
  have t34 : ∀ (a b : Bool), (a = true ↔ (0 ≤ sec.toInt ∧ sec.toInt < 17179869184)) → (b = true ↔ (na = 0 ∧ 0 ≤ sec.toInt ∧ sec.toInt < 4294967296)) → J X 7 [PKO X.1 pk pr cm most st cap, F] 0 0 34 [some (.ref pk), some (.long sec), none, some (.int na), some (.int (bI a)), none, none] [.int (bI b)] := by
    intro a b ha hb
    rcases b with _ | _
    · have nb : ¬ (na = 0 ∧ 0 ≤ sec.toInt ∧ sec.toInt < 4294967296) := fun q => absurd (hb.mpr q) (by decide)
      refine j_istore E 36 dX3_writeTime_34 (Nat.le_of_ble_eq_true rfl) rfl rfl ?_
      dsimp only [List.set]
      refine j_iload E 38 dX3_writeTime_36 rfl rfl ?_
      refine j_if_eq E 45 41 dX3_writeTime_38 (by decide) rfl (fun h38 => ?_) (fun h38 => ?_)
      · rcases a with _ | _
        · have e : timeN sec na = 12 := by rw [timeN, if_neg nb, if_neg (fun q => absurd (ha.mpr q) (by decide))]
          refine j_iload E 47 dX3_writeTime_45 rfl rfl ?_
          refine j_if_eq E 55 50 dX3_writeTime_47 (by decide) rfl (fun h47 => ?_) (fun h47 => ?_)
          · refine j_bipush E (12) 57 dX3_writeTime_55 (by decide) rfl ?_
            exact t59 false false 12 (by decide) e (by decide) (by decide)
          · exact absurd rfl h47
        · have e : timeN sec na = 8 := by rw [timeN, if_neg nb, if_pos (ha.mp rfl)]
          refine j_iload E 47 dX3_writeTime_45 rfl rfl ?_
          refine j_if_eq E 55 50 dX3_writeTime_47 (by decide) rfl (fun h47 => ?_) (fun h47 => ?_)
          · exact absurd h47 (by decide)
          · refine j_bipush E (8) 52 dX3_writeTime_50 (by decide) rfl ?_
            refine j_goto E 57 dX3_writeTime_52 (by decide) ?_
            exact t59 true false 8 (by decide) e (by decide) (by decide)
      · exact absurd rfl h38
    · have e : timeN sec na = 4 := by rw [timeN, if_pos (hb.mp rfl)]
      refine j_istore E 36 dX3_writeTime_34 (Nat.le_of_ble_eq_true rfl) rfl rfl ?_
      dsimp only [List.set]
      refine j_iload E 38 dX3_writeTime_36 rfl rfl ?_
      refine j_if_eq E 45 41 dX3_writeTime_38 (by decide) rfl (fun h38 => ?_) (fun h38 => ?_)
      · exact absurd h38 (by decide)
      · refine j_iconst E (4) 42 dX3_writeTime_41 (by decide) rfl ?_
        refine j_goto E 57 dX3_writeTime_42 (by decide) ?_
        exact t59 a true 4 (by decide) e (by decide) (by simp)
  have e34 := shr0 (b := sec) (k := 34) (by decide)
  have e32 := shr0 (b := sec) (k := 32) (by decide)
  have t14 : ∀ (a : Bool), (a = true ↔ (0 ≤ sec.toInt ∧ sec.toInt < 17179869184)) → J X 7 [PKO X.1 pk pr cm most st cap, F] 0 0 14 [some (.ref pk), some (.long sec), none, some (.int na), none, none, none] [.int (bI a)] := by
    intro a ha
    refine j_istore E 16 dX3_writeTime_14 (Nat.le_of_ble_eq_true rfl) rfl rfl ?_
    dsimp only [List.set]
    refine j_iload_n E 17 dX3_writeTime_16 3 rfl rfl rfl ?_
    refine j_if_ne E 33 20 dX3_writeTime_17 (by decide) rfl (fun h17 => ?_) (fun h17 => ?_)
    · refine j_iconst E (0) 34 dX3_writeTime_33 (by decide) rfl ?_
      exact t34 a false ha ⟨fun q => absurd q (by decide), fun q => absurd q.1 h17⟩
    · refine j_lload_n E 21 dX3_writeTime_20 1 rfl rfl rfl ?_
      refine j_bipush E (32) 23 dX3_writeTime_21 (by decide) rfl ?_
      refine j_lshr E 24 dX3_writeTime_23 rfl ?_
      refine j_lconst E 0 25 dX3_writeTime_24 rfl rfl ?_
      refine j_lcmp E 26 dX3_writeTime_25 rfl ?_
      refine j_if_ne E 33 29 dX3_writeTime_26 (by decide) rfl (fun h26 => ?_) (fun h26 => ?_)
      · have q32 : ¬ (0 ≤ sec.toInt ∧ sec.toInt < 4294967296) := fun q => h26 ((lg_cmp_eq _ _).mpr (e32.mpr q))
        refine j_iconst E (0) 34 dX3_writeTime_33 (by decide) rfl ?_
        exact t34 a false ha ⟨fun q => absurd q (by decide), fun q => absurd q.2 q32⟩
      · have q32 := e32.mp ((lg_cmp_eq _ _).mp h26)
        refine j_iconst E (1) 30 dX3_writeTime_29 (by decide) rfl ?_
        refine j_goto E 34 dX3_writeTime_30 (by decide) ?_
        exact t34 a true ha ⟨fun _ => ⟨h17, q32⟩, fun _ => rfl⟩
  refine j_lload_n E 1 dX3_writeTime_0 1 rfl rfl rfl ?_
  refine j_bipush E (34) 3 dX3_writeTime_1 (by decide) rfl ?_
  refine j_lshr E 4 dX3_writeTime_3 rfl ?_
  refine j_lconst E 0 5 dX3_writeTime_4 rfl rfl ?_
  refine j_lcmp E 6 dX3_writeTime_5 rfl ?_
  refine j_if_ne E 13 9 dX3_writeTime_6 (by decide) rfl (fun h6 => ?_) (fun h6 => ?_)
  · have q34 : ¬ (0 ≤ sec.toInt ∧ sec.toInt < 17179869184) := fun q => h6 ((lg_cmp_eq _ _).mpr (e34.mpr q))
    refine j_iconst E (0) 14 dX3_writeTime_13 (by decide) rfl ?_
    exact t14 false ⟨fun q => absurd q (by decide), fun q => absurd q q34⟩
  · have q34 := e34.mp ((lg_cmp_eq _ _).mp h6)
    refine j_iconst E (1) 10 dX3_writeTime_9 (by decide) rfl ?_
    refine j_goto E 14 dX3_writeTime_10 (by decide) ?_
    exact t14 true ⟨fun _ => q34, fun _ => rfl⟩
set_option maxHeartbeats 8000000 in
theorem c_pk_row {g : GT} {z : Nat → Nat} (hA : GA g z) (d M N pk pr cm most cap a i capP : Nat) (v : VT) (t : Int32) (st : Option (List UInt8)) (hd : 8 ≤ d) (hk : v.1 < 2 ^ 31) (hl : v.2.2.2.1.length ≤ 65536) (hm : most ≤ 65536) (hM : 131136 ≤ 64 * M + cap) (hN : 393216 ≤ N + 2 * cap) : CtrV g mX3_writeRow 2 d M N pk [.ref a] [PKO g pk pr cm most st cap, VALc g z a i v t capP] (fun o dc ds ws' => ∃ xcap, o = none ∧ ws' = [PKO g pk pr cm most (wr most st (rowE v)) xcap, VALc g z a i v t capP] ∧ 64 * dc + cap ≤ xcap ∧ ds + 2 * cap ≤ 2 * xcap ∧ dc ≤ M ∧ ds ≤ N) noX := by
  refine ⟨pko_rcv, ?_⟩
  have hG := hA.1
  refine ctr_intro hG (by decide +kernel) (Nat.le_of_ble_eq_true rfl) ?_
  rintro X F rfl E B hI T
  replace E : JE X RX3 cX3_writeRow 3 d M N := E
  show J X _ [PKO X.1 pk pr cm most st cap, VALc X.1 z a i v t capP, F] 0 0 0 [some (.ref pk), some (.ref a), none] []
  refine j_open (by repeat (first | with_reducible exact pick_0 | with_reducible apply pick_s)) valc_open ?_
  rintro ⟨bq, pq, xf⟩ hx
  dsimp only [VALo, List.cons_append, List.nil_append] at hx ⊢
  refine j_aload_n E 1 dX3_writeRow_0 1 rfl rfl rfl ?_
  refine j_getfF E 4 dX3_writeRow_1 fl_X3_137 (by repeat (first | with_reducible exact pick_0 | with_reducible apply pick_s)) (by rfl) rfl ?_
  refine j_lenBys hA E 5 dX3_writeRow_4 (by repeat (first | with_reducible exact pick_0 | with_reducible apply pick_s)) rfl ?_
  obtain ⟨n, hn⟩ : ∃ n, n = v.2.2.2.1.length := ⟨_, rfl⟩
  rw [← hn] at hl ⊢
  have tail : ∀ (hdb : List UInt8) (ydc yds ycap : Nat), rowE v = hdb ++ v.2.2.2.1 → 64 * ydc + cap ≤ ycap → yds + 2 * cap ≤ 2 * ycap → ydc ≤ M → yds ≤ N → J X 3 [PKO X.1 pk pr cm most (wr most st hdb) ycap, BYS X.1 z bq v.2.2.2.1, pt a (.inr (4, [.int (nI v.1), .int (nI i), .long v.2.1, .int v.2.2.1, .ref bq, .ref pq, .int (nI v.2.2.2.2.length), .int t])), PRT X.1 z pq capP xf, F] ydc yds 83 [some (.ref pk), some (.ref a), some (.int (nI n))] [] := by
    intro hdb ydc yds ycap hr h1 h2 h3 h4
    refine j_know (pick_know (P := PKO X.1 pk pr cm most (wr most st hdb) ycap) (by repeat (first | with_reducible exact pick_0 | with_reducible apply pick_s)) pko_know) (fun hcap => ?_)
    rw [hr, ← wr_app] at B
    obtain ⟨so, hso⟩ : ∃ so, so = wr most st hdb := ⟨_, rfl⟩
    rw [← hso] at B ⊢
    refine j_aload_n E 84 dX3_writeRow_83 0 rfl rfl rfl ?_
    refine j_iload_n E 85 dX3_writeRow_84 2 rfl rfl rfl ?_
    refine j_callV E (c_pk_fits hG (d-1) pk pr cm most ycap n so (by omega) (by omega)) 88 dX3_writeRow_85 _ _ _ iv_X3_141 rfl rfl rfl (by repeat (first | with_reducible exact pick_0 | with_reducible apply pick_s | exact sel_0 | apply sel_s)) (by omega) (by omega) (by omega) (Nat.le_of_ble_eq_true rfl) rfl ?_
    rintro _ _ _ _ ⟨rfl, rfl, rfl, rfl⟩
    dsimp only [List.cons_append, List.nil_append, Option.toList]
    rcases hw : wrF most so n with _ | p
    · rw [wr_none (bs := v.2.2.2.1) (by rw [← hn]; exact hw)] at B
      dsimp only
      refine j_if_eq E 102 91 dX3_writeRow_88 (by decide) rfl (fun h88 => ?_) (fun h88 => ?_)
      · refine valc_close v _ (by repeat (first | with_reducible exact pick_0 | with_reducible apply pick_s | exact sel_0 | apply sel_s)) rfl hx ?_
        refine j_mono (ws' := [PKO X.1 pk pr cm most none ycap, VALc X.1 z a i v t capP, F]) (fun w hw => ?_) ?_
        · have hs : Sel [VALc X.1 z a i v t capP, PKO X.1 pk pr cm most none ycap, F] [PKO X.1 pk pr cm most none ycap, VALc X.1 z a i v t capP, F] [] := sel_s (pick_s pick_0) (sel_s pick_0 (sel_s pick_0 sel_0))
          obtain ⟨w1, w2, hp, a1, a2⟩ := hs w hw
          have h3 : w2 = [] := a2
          subst h3
          rw [List.append_nil] at hp
          exact sepL_perm hp a1
        exact j_vret E B rfl ydc yds dX3_writeRow_102 (by repeat (first | with_reducible exact pick_0 | with_reducible apply pick_s | exact sel_0 | apply sel_s)) ⟨ycap, rfl, rfl, by omega, by omega, by omega, by omega⟩ (by omega) (by omega) (by omega) (by omega)
      · exact absurd rfl h88
    · rw [wr_some (bs := v.2.2.2.1) (by rw [← hn]; exact hw)] at B
      have h9 := wrF_some hw
      dsimp only
      refine j_if_eq E 102 91 dX3_writeRow_88 (by decide) rfl (fun h88 => ?_) (fun h88 => ?_)
      · exact absurd h88 (by decide)
      · refine j_open (by repeat (first | with_reducible exact pick_0 | with_reducible apply pick_s)) pko_open ?_
        rintro bs ⟨rfl, hb2⟩
        dsimp only [List.cons_append, List.nil_append, stF]
        refine j_aload_n E 92 dX3_writeRow_91 0 rfl rfl rfl ?_
        refine j_getf E 95 dX3_writeRow_92 fl_X3_12 (by repeat (first | with_reducible exact pick_0 | with_reducible apply pick_s)) (by rfl) rfl ?_
        refine j_aload_n E 96 dX3_writeRow_95 1 rfl rfl rfl ?_
        refine j_getfF E 99 dX3_writeRow_96 fl_X3_137 (by repeat (first | with_reducible exact pick_0 | with_reducible apply pick_s)) (by rfl) rfl ?_
        refine j_callV E (c_row_all hA (d-1) (by omega) pr ycap bq bs v.2.2.2.1 (by omega)) 102 dX3_writeRow_99 _ _ _ iv_X3_145 rfl rfl rfl (by repeat (first | with_reducible exact pick_0 | with_reducible apply pick_s | exact sel_0 | apply sel_s)) (by omega) (by omega) (by omega) (Nat.le_of_ble_eq_true rfl) rfl ?_
        rintro _ xdc xds _ ⟨xcap, rfl, rfl, g1, g2, g3, g4, g5⟩
        dsimp only [List.cons_append, List.nil_append, Option.toList]
        refine valc_close v _ (by repeat (first | with_reducible exact pick_0 | with_reducible apply pick_s | exact sel_0 | apply sel_s)) rfl hx ?_
        refine pko_close (some (bs ++ v.2.2.2.1)) _ (by repeat (first | with_reducible exact pick_0 | with_reducible apply pick_s | exact sel_0 | apply sel_s)) (by rfl) ⟨rfl, by rw [List.length_append, ← hn]; exact h9.2⟩ ?_
        exact j_vret E B rfl (ydc + xdc) (yds + xds) dX3_writeRow_102 (by repeat (first | with_reducible exact pick_0 | with_reducible apply pick_s | exact sel_0 | apply sel_s)) ⟨xcap, rfl, rfl, by omega, by omega, by omega, by omega⟩ (by omega) (by omega) (by omega) (by omega)
  refine j_istore_n E 6 dX3_writeRow_5 2 rfl (Nat.le_of_ble_eq_true rfl) rfl rfl ?_
  dsimp only [List.set]
  refine j_aload_n E 7 dX3_writeRow_6 1 rfl rfl rfl ?_
  refine j_getfF E 10 dX3_writeRow_7 fl_X3_66 (by repeat (first | with_reducible exact pick_0 | with_reducible apply pick_s)) (by rfl) rfl ?_
  refine j_iconst E (5) 11 dX3_writeRow_10 (by decide) rfl ?_
  refine j_icmp_ne E 40 14 dX3_writeRow_11 (by decide) rfl (fun h11 => ?_) (fun h11 => ?_)
  · have e5 : ¬ v.1 = 5 := fun q => h11 (congrArg nI q)
    refine j_aload_n E 41 dX3_writeRow_40 1 rfl rfl rfl ?_
    refine j_getfF E 44 dX3_writeRow_41 fl_X3_66 (by repeat (first | with_reducible exact pick_0 | with_reducible apply pick_s)) (by rfl) rfl ?_
    refine j_bipush E (6) 46 dX3_writeRow_44 (by decide) rfl ?_
    refine j_icmp_ne E 61 49 dX3_writeRow_46 (by decide) rfl (fun h46 => ?_) (fun h46 => ?_)
    · have e6 : ¬ v.1 = 6 := fun q => h46 (congrArg nI q)
      refine j_aload_n E 62 dX3_writeRow_61 0 rfl rfl rfl ?_
      refine j_iload_n E 63 dX3_writeRow_62 2 rfl rfl rfl ?_
      refine j_callS E (c_pk_xl hG (d-1) n (by omega)) 66 dX3_writeRow_63 iv_X3_127 rfl rfl (by repeat (first | with_reducible exact pick_0 | with_reducible apply pick_s | exact sel_0 | apply sel_s)) (by omega) (by omega) (by omega) (Nat.le_of_ble_eq_true rfl) rfl ?_
      rintro _ _ _ _ ⟨rfl, rfl, rfl, rfl⟩
      dsimp only [List.cons_append, List.nil_append, Option.toList]
      refine j_sipush E (199) 69 dX3_writeRow_66 (by decide) rfl ?_
      refine j_iload_n E 70 dX3_writeRow_69 2 rfl rfl rfl ?_
      refine j_callV E (c_pk_head hG (d-1) M N pk pr cm most cap 199 n (xl n) st (by omega) xl_lt (by decide) (by omega) hm hM hN) 73 dX3_writeRow_70 _ _ _ iv_X3_131 rfl rfl rfl (by repeat (first | with_reducible exact pick_0 | with_reducible apply pick_s | exact sel_0 | apply sel_s)) (by omega) (by omega) (by omega) (Nat.le_of_ble_eq_true rfl) rfl ?_
      rintro _ xadc xads _ ⟨xacap, rfl, rfl, xa1, xa2, xa3, xa4⟩
      dsimp only [List.cons_append, List.nil_append, Option.toList]
      refine j_aload_n E 74 dX3_writeRow_73 0 rfl rfl rfl ?_
      refine j_aload_n E 75 dX3_writeRow_74 1 rfl rfl rfl ?_
      refine j_getfF E 78 dX3_writeRow_75 fl_X3_75 (by repeat (first | with_reducible exact pick_0 | with_reducible apply pick_s)) (by rfl) rfl ?_
      refine j_i2l E 79 dX3_writeRow_78 rfl ?_
      refine j_iconst E (1) 80 dX3_writeRow_79 (by decide) rfl ?_
      refine j_callV E (c_pk_bytes hG (d-1) (M - xadc) (N - xads) pk pr cm most xacap 1 _ v.2.2.1.toInt64 (by omega) (by omega) hm (by omega) (by omega)) 83 dX3_writeRow_80 _ _ _ iv_X3_71 rfl rfl rfl (by repeat (first | with_reducible exact pick_0 | with_reducible apply pick_s | exact sel_0 | apply sel_s)) (by omega) (by omega) (by omega) (Nat.le_of_ble_eq_true rfl) rfl ?_
      rintro _ xbdc xbds _ ⟨xbcap, rfl, rfl, xb1, xb2, xb3, xb4⟩
      dsimp only [List.cons_append, List.nil_append, Option.toList]
      rw [wr_app]
      exact j_sel (by repeat (first | with_reducible exact pick_0 | with_reducible apply pick_s | exact sel_0 | apply sel_s)) (tail _ _ _ _ (by rw [rowE, if_neg e5, if_neg e6, ← hn]) (by omega) (by omega) (by omega) (by omega))
    · have e6 : v.1 = 6 := (nI_eq hk (by decide)).mp h46
      refine j_aload_n E 50 dX3_writeRow_49 0 rfl rfl rfl ?_
      refine j_iconst E (-1) 51 dX3_writeRow_50 (by decide) rfl ?_
      refine j_sipush E (196) 54 dX3_writeRow_51 (by decide) rfl ?_
      refine j_iload_n E 55 dX3_writeRow_54 2 rfl rfl rfl ?_
      refine j_callV E (c_pk_head hG (d-1) M N pk pr cm most cap 196 n none st (by omega) (fun w h => by cases h) (by decide) (by omega) hm hM hN) 58 dX3_writeRow_55 _ _ _ iv_X3_131 rfl rfl rfl (by repeat (first | with_reducible exact pick_0 | with_reducible apply pick_s | exact sel_0 | apply sel_s)) (by omega) (by omega) (by omega) (Nat.le_of_ble_eq_true rfl) rfl ?_
      rintro _ xadc xads _ ⟨xacap, rfl, rfl, xa1, xa2, xa3, xa4⟩
      dsimp only [List.cons_append, List.nil_append, Option.toList]
      refine j_goto E 83 dX3_writeRow_58 (by decide) ?_
      exact j_sel (by repeat (first | with_reducible exact pick_0 | with_reducible apply pick_s | exact sel_0 | apply sel_s)) (tail _ _ _ _ (by rw [rowE, if_neg e5, if_pos e6, ← hn]) (by omega) (by omega) (by omega) (by omega))
  · have e5 : v.1 = 5 := (nI_eq hk (by decide)).mp h11
    refine j_aload_n E 15 dX3_writeRow_14 0 rfl rfl rfl ?_
    refine j_iload_n E 16 dX3_writeRow_15 2 rfl rfl rfl ?_
    refine j_bipush E (32) 18 dX3_writeRow_16 (by decide) rfl ?_
    refine j_icmp_ge E 29 21 dX3_writeRow_18 (by decide) rfl (fun h18 => ?_) (fun h18 => ?_)
    · have qn : ¬ n < 32 := fun q => absurd (show nI 32 ≤ nI n from h18) (nI_ge q (by decide))
      refine j_iconst E (-1) 30 dX3_writeRow_29 (by decide) rfl ?_
      refine j_sipush E (217) 33 dX3_writeRow_30 (by decide) rfl ?_
      refine j_iload_n E 34 dX3_writeRow_33 2 rfl rfl rfl ?_
      refine j_callV E (c_pk_head hG (d-1) M N pk pr cm most cap 217 n none st (by omega) (fun w h => by cases h) (by decide) (by omega) hm hM hN) 37 dX3_writeRow_34 _ _ _ iv_X3_131 rfl rfl rfl (by repeat (first | with_reducible exact pick_0 | with_reducible apply pick_s | exact sel_0 | apply sel_s)) (by omega) (by omega) (by omega) (Nat.le_of_ble_eq_true rfl) rfl ?_
      rintro _ xadc xads _ ⟨xacap, rfl, rfl, xa1, xa2, xa3, xa4⟩
      dsimp only [List.cons_append, List.nil_append, Option.toList]
      refine j_goto E 83 dX3_writeRow_37 (by decide) ?_
      exact j_sel (by repeat (first | with_reducible exact pick_0 | with_reducible apply pick_s | exact sel_0 | apply sel_s)) (tail _ _ _ _ (by rw [rowE, if_pos e5, ← hn, if_neg qn]) (by omega) (by omega) (by omega) (by omega))
    · have qn : n < 32 := Nat.lt_of_not_le fun q => h18 (nI_le (a := 32) q (by omega))
      refine j_sipush E (160) 24 dX3_writeRow_21 (by decide) rfl ?_
      refine j_iload_n E 25 dX3_writeRow_24 2 rfl rfl rfl ?_
      refine j_iadd E 26 dX3_writeRow_25 rfl ?_
      refine j_eqi (nI_add 160 n) ?_
      refine j_goto E 30 dX3_writeRow_26 (by decide) ?_
      refine j_sipush E (217) 33 dX3_writeRow_30 (by decide) rfl ?_
      refine j_iload_n E 34 dX3_writeRow_33 2 rfl rfl rfl ?_
      refine j_callV E (c_pk_head hG (d-1) M N pk pr cm most cap 217 n (some (160 + n)) st (by omega) (fun w h => by cases h; omega) (by decide) (by omega) hm hM hN) 37 dX3_writeRow_34 _ _ _ iv_X3_131 rfl rfl rfl (by repeat (first | with_reducible exact pick_0 | with_reducible apply pick_s | exact sel_0 | apply sel_s)) (by omega) (by omega) (by omega) (Nat.le_of_ble_eq_true rfl) rfl ?_
      rintro _ xadc xads _ ⟨xacap, rfl, rfl, xa1, xa2, xa3, xa4⟩
      dsimp only [List.cons_append, List.nil_append, Option.toList]
      refine j_goto E 83 dX3_writeRow_37 (by decide) ?_
      exact j_sel (by repeat (first | with_reducible exact pick_0 | with_reducible apply pick_s | exact sel_0 | apply sel_s)) (tail _ _ _ _ (by rw [rowE, if_pos e5, ← hn, if_pos qn]) (by omega) (by omega) (by omega) (by omega))

/-! Characters: lengthAt, firstWrong -/
theorem ws_c : ∀ k, k < 32 → (nI k &&& 31) = nI k := by decide +kernel
theorem ws_sm : ∀ k, k < 32 → (BitVec.ofNat 32 k).smod 32 = BitVec.ofNat 32 k := by decide +kernel
theorem ws_shl (n : Nat) {k : Nat} (hk : k < 32) : nI n <<< (nI k &&& 31) = nI (n * 2 ^ k) := by
  rw [ws_c k hk]
  apply Int32.toBitVec_inj.mp
  rw [Int32.toBitVec_shiftLeft]
  show BitVec.ofNat 32 n <<< (BitVec.ofNat 32 k).smod 32 = BitVec.ofNat 32 (n * 2 ^ k)
  rw [ws_sm k hk]
  apply BitVec.eq_of_toNat_eq
  rw [BitVec.shiftLeft_eq', BitVec.toNat_shiftLeft, BitVec.toNat_ofNat, BitVec.toNat_ofNat, BitVec.toNat_ofNat, Nat.mod_eq_of_lt (show k < 2 ^ 32 by omega), Nat.shiftLeft_eq, Nat.mul_mod, Nat.mod_mod, ← Nat.mul_mod]
theorem ch_bits : ∀ i : Fin 256, (nI i.val &&& 192 = 128) ↔ i.val / 64 = 2 := by decide +kernel
theorem ch_cont {l : Nat} (h : l < 256) : (nI l &&& 192 = 128) ↔ l / 64 = 2 := ch_bits ⟨l, h⟩
theorem ch_first {l n : Nat} (h1 : 2 ≤ n) (h2 : n ≤ 4) : nI l &&& ((127 : Int32) >>> (nI n &&& 31)) = nI (l % 2 ^ (7 - n)) := by
  have e : n = 2 ∨ n = 3 ∨ n = 4 := by omega
  rcases e with e | e | e
  · subst e
    exact fa_mask l 5
  · subst e
    exact fa_mask l 4
  · subst e
    exact fa_mask l 3
theorem ch_next (c x : Nat) : (nI c <<< ((6 : Int32) &&& 31)) ||| (nI x &&& 63) = nI (c * 64 + x % 64) := by
  rw [show nI c <<< ((6 : Int32) &&& 31) = nI (c * 2 ^ 6) from ws_shl c (by decide), show nI x &&& 63 = nI (x % 2 ^ 6) from fa_mask x 6, Nat.mul_comm c (2 ^ 6), fa_or_sum c (Nat.mod_lt _ (by decide)), Nat.mul_comm (2 ^ 6) c]
theorem chV_lt (bs : List UInt8) (i n : Nat) : ∀ j, chV bs i n j < 128 * 64 ^ j
  | 0 => by
    show bN bs i % 2 ^ (7 - n) < 128 * 1
    have h1 : 2 ^ (7 - n) ≤ 2 ^ 7 := Nat.pow_le_pow_right (by decide) (by omega)
    have h2 := Nat.mod_lt (bN bs i) (Nat.two_pow_pos (7 - n))
    omega
  | j + 1 => by
    have h := chV_lt bs i n j
    rw [chV, Nat.pow_succ]
    omega
theorem chV_lt2 {bs : List UInt8} {i n j : Nat} (h : j ≤ 3) : chV bs i n j < 2 ^ 26 := Nat.lt_of_lt_of_le (chV_lt bs i n j) (Nat.le_trans (Nat.mul_le_mul_left 128 (Nat.pow_le_pow_right (by decide) h)) (by decide))
set_option maxHeartbeats 4000000 in
theorem c_ch_len {g : GT} (hG : GLB g) (d r cap i t : Nat) (hd : 2 ≤ d) (bs : List UInt8) (hi : i < t) (ht : t ≤ bs.length) (hb : bs.length ≤ 100000) : Ctr g mX1_lengthAt d 0 0 [.ref r, .int (nI i), .int (nI t)] [ROW g r bs cap] (fun o dc ds ws' => o = some (.int (nI (chLen bs i t))) ∧ dc = 0 ∧ ds = 0 ∧ ws' = [ROW g r bs cap]) noX := by
  refine ctr_intro hG (by decide +kernel) (Nat.le_of_ble_eq_true rfl) ?_
  rintro X F rfl E B hI T
  replace E : JE X RX1 cX1_lengthAt 8 d 0 0 := E
  show J X _ [ROW X.1 r bs cap, F] 0 0 0 [some (.ref r), some (.int (nI i)), some (.int (nI t)), none, none, none, none, none] []
  refine j_aload_n E 1 dX1_lengthAt_0 0 rfl rfl rfl ?_
  refine j_iload_n E 2 dX1_lengthAt_1 1 rfl rfl rfl ?_
  refine j_callV E (c_row_at hG (d-1) r cap i bs (by omega)) 5 dX1_lengthAt_2 _ _ _ iv_X1_15 rfl rfl rfl (by repeat (first | with_reducible exact pick_0 | with_reducible apply pick_s | exact sel_0 | apply sel_s)) (by omega) (by omega) (by omega) (Nat.le_of_ble_eq_true rfl) rfl ?_
  rintro _ _ _ _ ⟨rfl, rfl, rfl, rfl⟩
  dsimp only [List.cons_append, List.nil_append, Option.toList]
  obtain ⟨lb, hlb⟩ : ∃ lb, lb = bN bs i := ⟨_, rfl⟩
  have hl : lb < 256 := by rw [hlb]; exact bN_lt bs i
  rw [show (bs.getD i 0).toNat = lb from hlb.symm]
  refine j_istore_n E 6 dX1_lengthAt_5 3 rfl (Nat.le_of_ble_eq_true rfl) rfl rfl ?_
  dsimp only [List.set]
  refine j_iload_n E 7 dX1_lengthAt_6 3 rfl rfl rfl ?_
  refine j_callS E (c_ch_said hG (d-1) lb hl) 10 dX1_lengthAt_7 iv_X1_21 rfl rfl (by repeat (first | with_reducible exact pick_0 | with_reducible apply pick_s | exact sel_0 | apply sel_s)) (by omega) (by omega) (by omega) (Nat.le_of_ble_eq_true rfl) rfl ?_
  rintro _ _ _ _ ⟨rfl, rfl, rfl, rfl⟩
  dsimp only [List.cons_append, List.nil_append, Option.toList]
  obtain ⟨sn, hsn⟩ : ∃ sn, sn = sLen lb := ⟨_, rfl⟩
  have hs4 : sn ≤ 4 := by rw [hsn]; exact sLen_le lb
  rw [← hsn]
  have hch : chLen bs i t = if sn ≤ 1 then sn else if t - i < sn then 0 else if chR bs i (sn - 1) = true then (if chS (chV bs i sn (sn - 1)) = sn then sn else 0) else 0 := by rw [chLen, ← hlb, ← hsn]
  have small : (sn ≤ 1 ∨ t - i < sn) → J X 8 [ROW X.1 r bs cap, F] 0 0 26 [some (.ref r), some (.int (nI i)), some (.int (nI t)), some (.int (nI lb)), some (.int (nI sn)), none, none, none] [] := by
    intro hsm
    refine j_iload E 28 dX1_lengthAt_26 rfl rfl ?_
    refine j_iconst E (1) 29 dX1_lengthAt_28 (by decide) rfl ?_
    refine j_icmp_ne E 36 32 dX1_lengthAt_29 (by decide) rfl (fun h29 => ?_) (fun h29 => ?_)
    · have q29 : sn ≠ 1 := fun q => h29 (congrArg nI q)
      have e : chLen bs i t = 0 := by
        rw [hch]
        repeat' (first | omega | split)
      refine j_iconst E (0) 37 dX1_lengthAt_36 (by decide) rfl ?_
      exact j_iret E B rfl 0 0 dX1_lengthAt_37 (by repeat (first | with_reducible exact pick_0 | with_reducible apply pick_s | exact sel_0 | apply sel_s)) ⟨by rw [e]; rfl, rfl, rfl, rfl⟩ (by omega) (by omega) (by omega) (by omega)
    · have q29 : sn = 1 := (nI_eq (a := sn) (b := 1) (by omega) (by omega)).mp h29
      have e : chLen bs i t = 1 := by
        rw [hch, q29]
        rfl
      refine j_iconst E (1) 33 dX1_lengthAt_32 (by decide) rfl ?_
      refine j_goto E 37 dX1_lengthAt_33 (by decide) ?_
      exact j_iret E B rfl 0 0 dX1_lengthAt_37 (by repeat (first | with_reducible exact pick_0 | with_reducible apply pick_s | exact sel_0 | apply sel_s)) ⟨by rw [e]; rfl, rfl, rfl, rfl⟩ (by omega) (by omega) (by omega) (by omega)
  refine j_istore E 12 dX1_lengthAt_10 (Nat.le_of_ble_eq_true rfl) rfl rfl ?_
  dsimp only [List.set]
  refine j_iload E 14 dX1_lengthAt_12 rfl rfl ?_
  refine j_iconst E (1) 15 dX1_lengthAt_14 (by decide) rfl ?_
  refine j_icmp_le E 26 18 dX1_lengthAt_15 (by decide) rfl (fun h15 => ?_) (fun h15 => ?_)
  · have q15 : sn ≤ 1 := (nI_leI (a := sn) (b := 1) (by omega) (by omega)).mp h15
    exact small (Or.inl q15)
  · have q15 : ¬ sn ≤ 1 := mt (nI_leI (a := sn) (b := 1) (by omega) (by omega)).mpr h15
    refine j_iload E 20 dX1_lengthAt_18 rfl rfl ?_
    refine j_iload_n E 21 dX1_lengthAt_20 2 rfl rfl rfl ?_
    refine j_iload_n E 22 dX1_lengthAt_21 1 rfl rfl rfl ?_
    refine j_isub E 23 dX1_lengthAt_22 rfl ?_
    refine j_eqi (y := nI (t - i)) (pk_sub (by omega)) ?_
    refine j_icmp_le E 38 26 dX1_lengthAt_23 (by decide) rfl (fun h23 => ?_) (fun h23 => ?_)
    · have q23 : sn ≤ (t - i) := (nI_leI (a := sn) (b := (t - i)) (by omega) (by omega)).mp h23
      refine j_iload_n E 39 dX1_lengthAt_38 3 rfl rfl rfl ?_
      refine j_bipush E (127) 41 dX1_lengthAt_39 (by decide) rfl ?_
      refine j_iload E 43 dX1_lengthAt_41 rfl rfl ?_
      refine j_ishr E 44 dX1_lengthAt_43 rfl ?_
      refine j_iand E 45 dX1_lengthAt_44 rfl ?_
      refine j_eqi (y := nI (chV bs i sn 0)) (by rw [ch_first (by omega) hs4, hlb]; rfl) ?_
      refine j_istore E 47 dX1_lengthAt_45 (Nat.le_of_ble_eq_true rfl) rfl rfl ?_
      dsimp only [List.set]
      refine j_iconst E (1) 48 dX1_lengthAt_47 (by decide) rfl ?_
      refine j_istore E 50 dX1_lengthAt_48 (Nat.le_of_ble_eq_true rfl) rfl rfl ?_
      dsimp only [List.set]
      have loop : ∀ (q j : Nat) (lv7 : Option Value), j + q = sn - 1 → chR bs i j = true → J X 8 [ROW X.1 r bs cap, F] 0 0 50 [some (.ref r), some (.int (nI i)), some (.int (nI t)), some (.int (nI lb)), some (.int (nI sn)), some (.int (nI (chV bs i sn j))), some (.int (nI (j + 1))), lv7] [] := by
        intro q
        induction q with
        | zero =>
          intro j lv7 hj hr
          have ej : j = sn - 1 := by omega
          refine j_iload E 52 dX1_lengthAt_50 rfl rfl ?_
          refine j_iload E 54 dX1_lengthAt_52 rfl rfl ?_
          refine j_icmp_ge E 100 57 dX1_lengthAt_54 (by decide) rfl (fun h54 => ?_) (fun h54 => ?_)
          · refine j_iload E 102 dX1_lengthAt_100 rfl rfl ?_
            refine j_callS E (c_ch_short hG (d-1) (chV bs i sn j) (Nat.lt_trans (chV_lt2 (by omega)) (by decide))) 105 dX1_lengthAt_102 iv_X1_24 rfl rfl (by repeat (first | with_reducible exact pick_0 | with_reducible apply pick_s | exact sel_0 | apply sel_s)) (by omega) (by omega) (by omega) (Nat.le_of_ble_eq_true rfl) rfl ?_
            rintro _ _ _ _ ⟨rfl, rfl, rfl, rfl⟩
            dsimp only [List.cons_append, List.nil_append, Option.toList]
            have hcs : chS (chV bs i sn j) ≤ 4 := by
              unfold chS
              repeat' (first | omega | split)
            have hc2 : chLen bs i t = if chS (chV bs i sn j) = sn then sn else 0 := by
              rw [hch, if_neg q15, if_neg (by omega), ← ej, if_pos hr]
            refine j_iload E 107 dX1_lengthAt_105 rfl rfl ?_
            refine j_icmp_ne E 115 110 dX1_lengthAt_107 (by decide) rfl (fun h107 => ?_) (fun h107 => ?_)
            · have e : chLen bs i t = 0 := by rw [hc2, if_neg (fun q => h107 (congrArg nI q))]
              refine j_iconst E (0) 116 dX1_lengthAt_115 (by decide) rfl ?_
              exact j_iret E B rfl 0 0 dX1_lengthAt_116 (by repeat (first | with_reducible exact pick_0 | with_reducible apply pick_s | exact sel_0 | apply sel_s)) ⟨by rw [e]; rfl, rfl, rfl, rfl⟩ (by omega) (by omega) (by omega) (by omega)
            · have q107 : (chS (chV bs i sn j)) = sn := (nI_eq (a := (chS (chV bs i sn j))) (b := sn) (by omega) (by omega)).mp h107
              have e : chLen bs i t = sn := by rw [hc2, if_pos q107]
              refine j_iload E 112 dX1_lengthAt_110 rfl rfl ?_
              refine j_goto E 116 dX1_lengthAt_112 (by decide) ?_
              exact j_iret E B rfl 0 0 dX1_lengthAt_116 (by repeat (first | with_reducible exact pick_0 | with_reducible apply pick_s | exact sel_0 | apply sel_s)) ⟨by rw [e], rfl, rfl, rfl⟩ (by omega) (by omega) (by omega) (by omega)
          · exact absurd (nI_le (by omega) (by omega)) h54
        | succ q ih =>
          intro j lv7 hj hr
          refine j_iload E 52 dX1_lengthAt_50 rfl rfl ?_
          refine j_iload E 54 dX1_lengthAt_52 rfl rfl ?_
          refine j_icmp_ge E 100 57 dX1_lengthAt_54 (by decide) rfl (fun h54 => ?_) (fun h54 => ?_)
          · exact absurd h54 (nI_ge (by omega) (by omega))
          · refine j_aload_n E 58 dX1_lengthAt_57 0 rfl rfl rfl ?_
            refine j_iload_n E 59 dX1_lengthAt_58 1 rfl rfl rfl ?_
            refine j_iload E 61 dX1_lengthAt_59 rfl rfl ?_
            refine j_iadd E 62 dX1_lengthAt_61 rfl ?_
            refine j_eqi (nI_add i (j + 1)) ?_
            refine j_callV E (c_row_at hG (d-1) r cap (i + (j + 1)) bs (by omega)) 65 dX1_lengthAt_62 _ _ _ iv_X1_15 rfl rfl rfl (by repeat (first | with_reducible exact pick_0 | with_reducible apply pick_s | exact sel_0 | apply sel_s)) (by omega) (by omega) (by omega) (Nat.le_of_ble_eq_true rfl) rfl ?_
            rintro _ _ _ _ ⟨rfl, rfl, rfl, rfl⟩
            dsimp only [List.cons_append, List.nil_append, Option.toList]
            rw [show (bs.getD (i + (j + 1)) 0).toNat = bN bs (i + (j + 1)) from rfl]
            refine j_istore E 67 dX1_lengthAt_65 (Nat.le_of_ble_eq_true rfl) rfl rfl ?_
            dsimp only [List.set]
            refine j_iload E 69 dX1_lengthAt_67 rfl rfl ?_
            refine j_sipush E (192) 72 dX1_lengthAt_69 (by decide) rfl ?_
            refine j_iand E 73 dX1_lengthAt_72 rfl ?_
            refine j_sipush E (128) 76 dX1_lengthAt_73 (by decide) rfl ?_
            refine j_icmp_eq E 81 79 dX1_lengthAt_76 (by decide) rfl (fun h76 => ?_) (fun h76 => ?_)
            · have e2 : bN bs (i + (j + 1)) / 64 = 2 := (ch_cont (bN_lt _ _)).mp h76
              refine j_iload E 83 dX1_lengthAt_81 rfl rfl ?_
              refine j_bipush E (6) 85 dX1_lengthAt_83 (by decide) rfl ?_
              refine j_ishl E 86 dX1_lengthAt_85 rfl ?_
              refine j_iload E 88 dX1_lengthAt_86 rfl rfl ?_
              refine j_bipush E (63) 90 dX1_lengthAt_88 (by decide) rfl ?_
              refine j_iand E 91 dX1_lengthAt_90 rfl ?_
              refine j_ior E 92 dX1_lengthAt_91 rfl ?_
              refine j_eqi (ch_next (chV bs i sn j) (bN bs (i + (j + 1)))) ?_
              refine j_istore E 94 dX1_lengthAt_92 (Nat.le_of_ble_eq_true rfl) rfl rfl ?_
              dsimp only [List.set]
              refine j_iinc E _ 97 dX1_lengthAt_94 rfl rfl (Nat.le_of_ble_eq_true rfl) rfl rfl ?_
              dsimp only [List.set]
              refine j_goto E 50 dX1_lengthAt_97 (by decide) ?_
              have := ih (j + 1) (some (.int (nI (bN bs (i + (j + 1)))))) (by omega) (by rw [chR, hr, Bool.true_and, decide_eq_true_eq]; exact e2)
              rw [← nI_1 (j + 1)] at this
              exact this
            · have e2 : ¬ bN bs (i + (j + 1)) / 64 = 2 := fun q => h76 ((ch_cont (bN_lt _ _)).mpr q)
              have ebad : ∀ m, j + 1 ≤ m → chR bs i m = false := by
                intro m
                induction m with
                | zero => intro hm; omega
                | succ m ihm =>
                  intro hm
                  rw [chR]
                  by_cases em : m = j
                  · subst em
                    rw [decide_eq_false e2, Bool.and_false]
                  · rw [ihm (by omega), Bool.false_and]
              have e : chLen bs i t = 0 := by
                rw [hch, ebad (sn - 1) (by omega), if_neg (show ¬ false = true by decide)]
                repeat' (first | omega | split)
              refine j_iconst E (0) 80 dX1_lengthAt_79 (by decide) rfl ?_
              exact j_iret E B rfl 0 0 dX1_lengthAt_80 (by repeat (first | with_reducible exact pick_0 | with_reducible apply pick_s | exact sel_0 | apply sel_s)) ⟨by rw [e]; rfl, rfl, rfl, rfl⟩ (by omega) (by omega) (by omega) (by omega)
      exact loop (sn - 1) 0 none (by omega) rfl
    · have q23 : ¬ sn ≤ (t - i) := mt (nI_leI (a := sn) (b := (t - i)) (by omega) (by omega)).mpr h23
      exact small (Or.inr (by omega))
theorem chLen_le (bs : List UInt8) {i t : Nat} (h : i < t) : chLen bs i t ≤ 4 ∧ chLen bs i t ≤ t - i := by
  have h4 := sLen_le (bN bs i)
  unfold chLen
  repeat' (first | omega | split)
set_option maxHeartbeats 4000000 in
/-- firstWrong -/
theorem c_ch_wrong {g : GT} (hG : GLB g) (d r cap t : Nat) (hd : 3 ≤ d) (bs : List UInt8) (ht : t ≤ bs.length) (hb : bs.length ≤ 100000) (i : Nat) (hi : i ≤ t) : Ctr g mX1_firstWrong d 0 0 [.ref r, .int (nI i), .int (nI t)] [ROW g r bs cap] (fun o dc ds ws' => o = some (.int (match chBad bs t (t - i) i with | some p => nI p | none => -1)) ∧ dc = 0 ∧ ds = 0 ∧ ws' = [ROW g r bs cap]) noX := by
  refine ctr_intro hG (by decide +kernel) (Nat.le_of_ble_eq_true rfl) ?_
  rintro X F rfl E B hI T
  replace E : JE X RX1 cX1_firstWrong 5 d 0 0 := E
  show J X _ [ROW X.1 r bs cap, F] 0 0 0 [some (.ref r), some (.int (nI i)), some (.int (nI t)), none, none] []
  refine j_iload_n E 1 dX1_firstWrong_0 1 rfl rfl rfl ?_
  refine j_istore_n E 2 dX1_firstWrong_1 3 rfl (Nat.le_of_ble_eq_true rfl) rfl rfl ?_
  dsimp only [List.set]
  have loop : ∀ (q j : Nat) (lv4 : Option Value), t - j ≤ q → j ≤ t → chBad bs t (t - i) i = chBad bs t q j → J X 5 [ROW X.1 r bs cap, F] 0 0 2 [some (.ref r), some (.int (nI i)), some (.int (nI t)), some (.int (nI j)), lv4] [] := by
    intro q
    induction q with
    | zero =>
      intro j lv4 hq hj he
      refine j_iload_n E 3 dX1_firstWrong_2 3 rfl rfl rfl ?_
      refine j_iload_n E 4 dX1_firstWrong_3 2 rfl rfl rfl ?_
      refine j_icmp_ge E 30 7 dX1_firstWrong_4 (by decide) rfl (fun h4 => ?_) (fun h4 => ?_)
      · refine j_iconst E (-1) 31 dX1_firstWrong_30 (by decide) rfl ?_
        exact j_iret E B rfl 0 0 dX1_firstWrong_31 (by repeat (first | with_reducible exact pick_0 | with_reducible apply pick_s | exact sel_0 | apply sel_s)) ⟨by rw [he]; rfl, rfl, rfl, rfl⟩ (by omega) (by omega) (by omega) (by omega)
      · exact absurd (nI_le (by omega) (by omega)) h4
    | succ q ih =>
      intro j lv4 hq hj he
      refine j_iload_n E 3 dX1_firstWrong_2 3 rfl rfl rfl ?_
      refine j_iload_n E 4 dX1_firstWrong_3 2 rfl rfl rfl ?_
      refine j_icmp_ge E 30 7 dX1_firstWrong_4 (by decide) rfl (fun h4 => ?_) (fun h4 => ?_)
      · have q4 : t ≤ j := (nI_leI (a := t) (b := j) (by omega) (by omega)).mp h4
        have e0 : chBad bs t (t - i) i = none := by rw [he, chBad, if_neg (by omega)]
        refine j_iconst E (-1) 31 dX1_firstWrong_30 (by decide) rfl ?_
        exact j_iret E B rfl 0 0 dX1_firstWrong_31 (by repeat (first | with_reducible exact pick_0 | with_reducible apply pick_s | exact sel_0 | apply sel_s)) ⟨by rw [e0], rfl, rfl, rfl⟩ (by omega) (by omega) (by omega) (by omega)
      · have q4 : ¬ t ≤ j := mt (nI_leI (a := t) (b := j) (by omega) (by omega)).mpr h4
        have hc := chLen_le bs (i := j) (t := t) (by omega)
        refine j_aload_n E 8 dX1_firstWrong_7 0 rfl rfl rfl ?_
        refine j_iload_n E 9 dX1_firstWrong_8 3 rfl rfl rfl ?_
        refine j_iload_n E 10 dX1_firstWrong_9 2 rfl rfl rfl ?_
        refine j_callS E (c_ch_len hG (d-1) r cap j t (by omega) bs (by omega) ht hb) 13 dX1_firstWrong_10 iv_X1_9 rfl rfl (by repeat (first | with_reducible exact pick_0 | with_reducible apply pick_s | exact sel_0 | apply sel_s)) (by omega) (by omega) (by omega) (Nat.le_of_ble_eq_true rfl) rfl ?_
        rintro _ _ _ _ ⟨rfl, rfl, rfl, rfl⟩
        dsimp only [List.cons_append, List.nil_append, Option.toList]
        refine j_istore E 15 dX1_firstWrong_13 (Nat.le_of_ble_eq_true rfl) rfl rfl ?_
        dsimp only [List.set]
        refine j_iload E 17 dX1_firstWrong_15 rfl rfl ?_
        refine j_if_gt E 22 20 dX1_firstWrong_17 (by decide) rfl (fun h17 => ?_) (fun h17 => ?_)
        · have q17 : 0 < (chLen bs j t) := (nI_ltI (a := 0) (b := (chLen bs j t)) (by omega) (by omega)).mp h17
          refine j_iload_n E 23 dX1_firstWrong_22 3 rfl rfl rfl ?_
          refine j_iload E 25 dX1_firstWrong_23 rfl rfl ?_
          refine j_iadd E 26 dX1_firstWrong_25 rfl ?_
          refine j_eqi (nI_add j (chLen bs j t)) ?_
          refine j_istore_n E 27 dX1_firstWrong_26 3 rfl (Nat.le_of_ble_eq_true rfl) rfl rfl ?_
          dsimp only [List.set]
          refine j_goto E 2 dX1_firstWrong_27 (by decide) ?_
          exact ih (j + chLen bs j t) _ (by omega) (by omega) (by rw [he, chBad, if_pos (by omega), if_neg (by omega)])
        · have q17 : ¬ 0 < (chLen bs j t) := mt (nI_ltI (a := 0) (b := (chLen bs j t)) (by omega) (by omega)).mpr h17
          have e0 : chBad bs t (t - i) i = some j := by rw [he, chBad, if_pos (by omega), if_pos (by omega)]
          refine j_iload_n E 21 dX1_firstWrong_20 3 rfl rfl rfl ?_
          exact j_iret E B rfl 0 0 dX1_firstWrong_21 (by repeat (first | with_reducible exact pick_0 | with_reducible apply pick_s | exact sel_0 | apply sel_s)) ⟨by rw [e0], rfl, rfl, rfl⟩ (by omega) (by omega) (by omega) (by omega)
  exact loop (t - i) i none (Nat.le_refl _) hi rfl

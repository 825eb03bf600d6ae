/-! the model: integerAt, readPlain, refer -/
theorem sx_bv {s x : Nat} (hs : s < 64) (hx : x * 2 ^ s < 2 ^ 64) : ((BitVec.ofNat 64 x <<< s).sshiftRight s).toInt = (if x * 2 ^ s < 2 ^ 63 then ((x * 2 ^ s : Nat) : Int) else ((x * 2 ^ s : Nat) : Int) - 2 ^ 64) / ((2 ^ s : Nat) : Int) := by
  have h0 : x < 2 ^ 64 := Nat.lt_of_le_of_lt (Nat.le_mul_of_pos_right x (Nat.two_pow_pos s)) hx
  have e : BitVec.ofNat 64 x <<< s = BitVec.ofNat 64 (x * 2 ^ s) := by
    apply BitVec.eq_of_toNat_eq
    rw [BitVec.toNat_shiftLeft, BitVec.toNat_ofNat, BitVec.toNat_ofNat, Nat.mod_eq_of_lt h0, Nat.shiftLeft_eq]
  rw [e, BitVec.toInt_sshiftRight, Int.shiftRight_eq_div_pow]
  have c := BitVec.toInt_eq_toNat_cond (BitVec.ofNat 64 (x * 2 ^ s))
  rw [BitVec.toNat_ofNat, Nat.mod_eq_of_lt hx] at c
  rw [c]
  congr 1
  by_cases q : x * 2 ^ s < 2 ^ 63
  · rw [if_pos q, if_pos (by omega)]
  · rw [if_neg q, if_neg (by omega)]
    rfl
theorem by8_lo : ∀ b : Fin 256, b.val < 128 → by8 (UInt8.ofNat b.val) = nI b.val := by decide +kernel
theorem by8_hi : ∀ b : Fin 256, 224 ≤ b.val → by8 (UInt8.ofNat b.val) = nI b.val - 256 := by decide +kernel
theorem by8_of (b : UInt8) : UInt8.ofNat b.toNat = b := by simp
theorem sx_1 {x : Nat} (hx : x < 256) : (lN x <<< ((nI (64 - 8 * 1)).toInt64 &&& 63)) >>> ((nI (64 - 8 * 1)).toInt64 &&& 63) = if x < 128 then lN x else lN x - 256 := by
  rw [show (nI (64 - 8 * 1)).toInt64 &&& 63 = (56 : Int64) by decide]
  apply Int64.toInt_inj.mp
  have e : ((lN x <<< (56 : Int64)) >>> (56 : Int64)).toInt = ((BitVec.ofNat 64 x <<< 56).sshiftRight 56).toInt := rfl
  rw [e, sx_bv (by decide) (by omega)]
  by_cases q : x < 128
  · rw [if_pos q, if_pos (by omega), lN_tiB (by omega)]
    omega
  · have h8 : (lN x - 256).toInt = (x : Int) - 256 := by
      rw [Int64.toInt_sub, lN_tiB (by omega), show (256 : Int64).toInt = 256 by decide]
      exact Int.bmod_eq_of_le (by omega) (by omega)
    rw [if_neg q, if_neg (by omega), h8]
    omega
theorem sx_2 {x : Nat} (hx : x < 65536) : (lN x <<< ((nI (64 - 8 * 2)).toInt64 &&& 63)) >>> ((nI (64 - 8 * 2)).toInt64 &&& 63) = if x < 32768 then lN x else lN x - 65536 := by
  rw [show (nI (64 - 8 * 2)).toInt64 &&& 63 = (48 : Int64) by decide]
  apply Int64.toInt_inj.mp
  have e : ((lN x <<< (48 : Int64)) >>> (48 : Int64)).toInt = ((BitVec.ofNat 64 x <<< 48).sshiftRight 48).toInt := rfl
  rw [e, sx_bv (by decide) (by omega)]
  by_cases q : x < 32768
  · rw [if_pos q, if_pos (by omega), lN_tiB (by omega)]
    omega
  · have h8 : (lN x - 65536).toInt = (x : Int) - 65536 := by
      rw [Int64.toInt_sub, lN_tiB (by omega), show (65536 : Int64).toInt = 65536 by decide]
      exact Int.bmod_eq_of_le (by omega) (by omega)
    rw [if_neg q, if_neg (by omega), h8]
    omega
theorem sx_4 {x : Nat} (hx : x < 4294967296) : (lN x <<< ((nI (64 - 8 * 4)).toInt64 &&& 63)) >>> ((nI (64 - 8 * 4)).toInt64 &&& 63) = if x < 2147483648 then lN x else lN x - 4294967296 := by
  rw [show (nI (64 - 8 * 4)).toInt64 &&& 63 = (32 : Int64) by decide]
  apply Int64.toInt_inj.mp
  have e : ((lN x <<< (32 : Int64)) >>> (32 : Int64)).toInt = ((BitVec.ofNat 64 x <<< 32).sshiftRight 32).toInt := rfl
  rw [e, sx_bv (by decide) (by omega)]
  by_cases q : x < 2147483648
  · rw [if_pos q, if_pos (by omega), lN_tiB (by omega)]
    omega
  · have h8 : (lN x - 4294967296).toInt = (x : Int) - 4294967296 := by
      rw [Int64.toInt_sub, lN_tiB (by omega), show (4294967296 : Int64).toInt = 4294967296 by decide]
      exact Int.bmod_eq_of_le (by omega) (by omega)
    rw [if_neg q, if_neg (by omega), h8]
    omega
theorem sx_8 {x : Nat} : (lN x <<< ((nI (64 - 8 * 8)).toInt64 &&& 63)) >>> ((nI (64 - 8 * 8)).toInt64 &&& 63) = lN x := by
  rw [show (nI (64 - 8 * 8)).toInt64 &&& 63 = (0 : Int64) by decide]
  apply Int64.toBitVec_inj.mp
  show (BitVec.ofNat 64 x <<< 0).sshiftRight 0 = BitVec.ofNat 64 x
  rw [BitVec.shiftLeft_zero, BitVec.sshiftRight_zero]
set_option maxHeartbeats 4000000 in
theorem c_m_intAt {g : GT} (hG : GLB g) (d m : Nat) (r : Nat → Nat) {th ts os vc lc bc pkd pkg cm fu op fc fp at_ bgc got : Int32} {pr : Int64} (i : Nat) (bs : List UInt8) (hd : 1 ≤ d) (hi : i + (1 + wO (bN bs i)) ≤ bs.length) (hk : kO (bN bs i) = 2) : CtrV g mX8_integerAt 7 d 0 0 m [.int (nI (bN bs i)), .int (nI i)] [MF m r th ts os vc lc bc pkd pkg cm fu op fc fp at_ bgc got pr, BA g (r 1) bs] (fun o dc ds ws' => o = some (.long (intV bs i (wO (bN bs i)))) ∧ dc = 0 ∧ ds = 0 ∧ ws' = [MF m r th ts os vc lc bc pkd pkg cm fu op fc fp at_ bgc got pr, BA g (r 1) bs]) noX := by
  refine ⟨rcv_pt, ?_⟩
  obtain ⟨lb, hlb⟩ : ∃ lb, lb = bN bs i := ⟨_, rfl⟩
  have hl : lb < 256 := by rw [hlb]; exact bN_lt bs i
  have hb8 : UInt8.ofNat lb = bs.getD i 0 := by rw [hlb]; exact by8_of _
  rw [← hlb] at hi hk ⊢
  refine ctr_intro hG (by decide +kernel) (Nat.le_of_ble_eq_true rfl) ?_
  rintro X F rfl E B hI T
  replace E : JE X RX8 cX8_integerAt 6 d 0 0 := E
  show J X _ [MF m r th ts os vc lc bc pkd pkg cm fu op fc fp at_ bgc got pr, BA X.1 (r 1) bs, F] 0 0 0 [some (.ref m), some (.int (nI lb)), some (.int (nI i)), none, none, none] []
  refine j_know (pick_know (P := BA X.1 (r 1) bs) (by repeat (first | with_reducible exact pick_0 | with_reducible apply pick_s)) ba_know) (fun hbl => ?_)
  refine j_iload_n E 1 dX8_integerAt_0 1 rfl rfl rfl ?_
  refine j_sipush E (128) 4 dX8_integerAt_1 (by decide) rfl ?_
  refine j_icmp_ge E 10 7 dX8_integerAt_4 (by decide) rfl (fun h4 => ?_) (fun h4 => ?_)
  · have q4 : 128 ≤ lb := (nI_leI (a := 128) (b := lb) (by omega) (by omega)).mp h4
    refine j_iload_n E 11 dX8_integerAt_10 1 rfl rfl rfl ?_
    refine j_sipush E (224) 14 dX8_integerAt_11 (by decide) rfl ?_
    refine j_icmp_lt E 24 17 dX8_integerAt_14 (by decide) rfl (fun h14 => ?_) (fun h14 => ?_)
    · have q14 : lb < 224 := (nI_ltI (a := lb) (b := 224) (by omega) (by omega)).mp h14
      have hlb2 : 204 ≤ lb ∧ lb ≤ 211 := by
        rcases Nat.lt_or_ge lb 204 with q | q
        · exfalso
          have : ∀ b : Fin 256, 128 ≤ b.val → b.val < 204 → ¬ kO b.val = 2 := by decide +kernel
          exact this ⟨lb, hl⟩ q4 q hk
        · refine ⟨q, ?_⟩
          rcases Nat.lt_or_ge 211 lb with p | p
          · exfalso
            have : ∀ b : Fin 256, 211 < b.val → b.val < 224 → ¬ kO b.val = 2 := by decide +kernel
            exact this ⟨lb, hl⟩ p q14 hk
          · exact p
      have hw := wOle hl
      refine j_iload_n E 25 dX8_integerAt_24 1 rfl rfl rfl ?_
      refine j_callS E (c_m_width hG (d-1) lb hl) 28 dX8_integerAt_25 iv_X8_81 rfl rfl (by repeat (first | with_reducible exact pick_0 | with_reducible apply pick_s | exact sel_0 | apply sel_s)) (by omega) (by omega) (by omega) (Nat.le_of_ble_eq_true rfl) rfl ?_
      rintro _ _ _ _ ⟨rfl, rfl, rfl, rfl⟩
      dsimp only [List.cons_append, List.nil_append, Option.toList]
      refine j_istore_n E 29 dX8_integerAt_28 3 rfl (Nat.le_of_ble_eq_true rfl) rfl rfl ?_
      dsimp only [List.set]
      refine j_aload_n E 30 dX8_integerAt_29 0 rfl rfl rfl ?_
      refine j_aload_n E 31 dX8_integerAt_30 0 rfl rfl rfl ?_
      refine j_getf E 34 dX8_integerAt_31 fl_X8_8 (by repeat (first | with_reducible exact pick_0 | with_reducible apply pick_s)) (by rfl) rfl ?_
      refine j_iload_n E 35 dX8_integerAt_34 2 rfl rfl rfl ?_
      refine j_iconst E (1) 36 dX8_integerAt_35 (by decide) rfl ?_
      refine j_iadd E 37 dX8_integerAt_36 rfl ?_
      refine j_eqi (nI_1 i) ?_
      refine j_iload_n E 38 dX8_integerAt_37 3 rfl rfl rfl ?_
      refine j_callV E (c_m_number hG (d-1) m r (r 1) (i + 1) (wO lb) bs (by omega)) 41 dX8_integerAt_38 _ _ _ iv_X8_84 rfl rfl rfl (by repeat (first | with_reducible exact pick_0 | with_reducible apply pick_s | exact sel_0 | apply sel_s)) (by omega) (by omega) (by omega) (Nat.le_of_ble_eq_true rfl) rfl ?_
      rintro _ _ _ _ ⟨rfl, rfl, rfl, rfl⟩
      dsimp only [List.cons_append, List.nil_append, Option.toList]
      refine j_lstore E 43 dX8_integerAt_41 (Nat.le_of_ble_eq_true rfl) rfl rfl ?_
      dsimp only [List.set]
      have hx := beN_lt bs (i + 1) (wO lb)
      obtain ⟨x, hxx⟩ : ∃ x, x = beN bs (i + 1) (wO lb) := ⟨_, rfl⟩
      rw [← hxx] at hx ⊢
      have hiv : intV bs i (wO lb) = if wO lb = 0 then (by8 (bs.getD i 0)).toInt64 else if 208 ≤ lb then ((lN x) <<< ((nI (64 - 8 * wO lb)).toInt64 &&& 63)) >>> ((nI (64 - 8 * wO lb)).toInt64 &&& 63) else lN x := by rw [intV, ← hlb, ← hxx]
      have hw0 : ∀ b : Fin 256, 204 ≤ b.val → b.val ≤ 211 → ¬ wO b.val = 0 := by decide +kernel
      have hwn := hw0 ⟨lb, hl⟩ hlb2.1 hlb2.2
      dsimp only at hwn
      rw [if_neg hwn] at hiv
      rw [hiv] at B
      have out82 : ∀ R : Int64, R = (if 208 ≤ lb then ((lN x) <<< ((nI (64 - 8 * wO lb)).toInt64 &&& 63)) >>> ((nI (64 - 8 * wO lb)).toInt64 &&& 63) else lN x) → J X 6 [MF m r th ts os vc lc bc pkd pkg cm fu op fc fp at_ bgc got pr, BA X.1 (r 1) bs, F] (0 + 0) (0 + 0) 84 [some (.ref m), some (.int (nI lb)), some (.int (nI i)), some (.int (nI (wO lb))), some (.long (lN x)), none] [.long R] := by
        intro R hR
        rw [← hR] at B
        exact j_lret E B rfl 0 0 dX8_integerAt_84 (by repeat (first | with_reducible exact pick_0 | with_reducible apply pick_s | exact sel_0 | apply sel_s)) ⟨rfl, rfl, rfl, rfl⟩ (by omega) (by omega) (by omega) (by omega)
      refine j_iload_n E 44 dX8_integerAt_43 1 rfl rfl rfl ?_
      refine j_sipush E (208) 47 dX8_integerAt_44 (by decide) rfl ?_
      refine j_icmp_lt E 82 50 dX8_integerAt_47 (by decide) rfl (fun h47 => ?_) (fun h47 => ?_)
      · have q47 : lb < 208 := (nI_ltI (a := lb) (b := 208) (by omega) (by omega)).mp h47
        refine j_lload E 84 dX8_integerAt_82 rfl rfl ?_
        exact out82 _ (by rw [if_neg (by omega)])
      · have q47 : ¬ lb < 208 := mt (nI_ltI (a := lb) (b := 208) (by omega) (by omega)).mpr h47
        refine j_iload_n E 51 dX8_integerAt_50 3 rfl rfl rfl ?_
        refine j_bipush E (8) 53 dX8_integerAt_51 (by decide) rfl ?_
        refine j_icmp_ge E 82 56 dX8_integerAt_53 (by decide) rfl (fun h53 => ?_) (fun h53 => ?_)
        · have q53 : 8 ≤ (wO lb) := (nI_leI (a := 8) (b := (wO lb)) (by omega) (by omega)).mp h53
          have w8 : wO lb = 8 := by omega
          refine j_lload E 84 dX8_integerAt_82 rfl rfl ?_
          exact out82 _ (by rw [if_pos (by omega), w8, sx_8])
        · have q53 : ¬ 8 ≤ (wO lb) := mt (nI_leI (a := 8) (b := (wO lb)) (by omega) (by omega)).mpr h53
          rcases wO_vals ⟨lb, hl⟩ with w | w | w | w | w
          · exact absurd w hwn
          · dsimp only at w
            rw [w] at hx out82 ⊢
            have hxb : x < 256 := hx
            refine j_lload E 58 dX8_integerAt_56 rfl rfl ?_
            refine j_lconst E 1 59 dX8_integerAt_58 rfl rfl ?_
            refine j_bipush E (8) 61 dX8_integerAt_59 (by decide) rfl ?_
            refine j_iload_n E 62 dX8_integerAt_61 3 rfl rfl rfl ?_
            refine j_imul E 63 dX8_integerAt_62 rfl ?_
            refine j_iconst E (1) 64 dX8_integerAt_63 (by decide) rfl ?_
            refine j_isub E 65 dX8_integerAt_64 rfl ?_
            refine j_eqi (y := 7) (by decide) ?_
            refine j_lshl E 66 dX8_integerAt_65 rfl ?_
            refine j_eql (y := 128) (by decide) ?_
            refine j_lcmp E 67 dX8_integerAt_66 rfl ?_
            refine j_if_lt E 82 70 dX8_integerAt_67 (by decide) rfl (fun h67 => ?_) (fun h67 => ?_)
            · have q1 : (lN x).toInt < (128 : Int64).toInt := (fa_lt64 _ _).mp ((lg_cmp_lt _ _).mp h67)
              rw [lN_tiB (by omega), show (128 : Int64).toInt = 128 by decide] at q1
              refine j_lload E 84 dX8_integerAt_82 rfl rfl ?_
              exact out82 _ (by rw [if_pos (by omega), sx_1 hxb, if_pos (by omega)])
            · have q1 : ¬ (lN x).toInt < (128 : Int64).toInt := fun q => h67 ((lg_cmp_lt _ _).mpr ((fa_lt64 _ _).mpr q))
              rw [lN_tiB (by omega), show (128 : Int64).toInt = 128 by decide] at q1
              refine j_lload E 72 dX8_integerAt_70 rfl rfl ?_
              refine j_lconst E 1 73 dX8_integerAt_72 rfl rfl ?_
              refine j_bipush E (8) 75 dX8_integerAt_73 (by decide) rfl ?_
              refine j_iload_n E 76 dX8_integerAt_75 3 rfl rfl rfl ?_
              refine j_imul E 77 dX8_integerAt_76 rfl ?_
              refine j_eqi (y := 8) (by decide) ?_
              refine j_lshl E 78 dX8_integerAt_77 rfl ?_
              refine j_eql (y := 256) (by decide) ?_
              refine j_lsub E 79 dX8_integerAt_78 rfl ?_
              refine j_goto E 84 dX8_integerAt_79 (by decide) ?_
              exact out82 _ (by rw [if_pos (by omega), sx_1 hxb, if_neg (by omega)])
          · dsimp only at w
            rw [w] at hx out82 ⊢
            have hxb : x < 65536 := hx
            refine j_lload E 58 dX8_integerAt_56 rfl rfl ?_
            refine j_lconst E 1 59 dX8_integerAt_58 rfl rfl ?_
            refine j_bipush E (8) 61 dX8_integerAt_59 (by decide) rfl ?_
            refine j_iload_n E 62 dX8_integerAt_61 3 rfl rfl rfl ?_
            refine j_imul E 63 dX8_integerAt_62 rfl ?_
            refine j_iconst E (1) 64 dX8_integerAt_63 (by decide) rfl ?_
            refine j_isub E 65 dX8_integerAt_64 rfl ?_
            refine j_eqi (y := 15) (by decide) ?_
            refine j_lshl E 66 dX8_integerAt_65 rfl ?_
            refine j_eql (y := 32768) (by decide) ?_
            refine j_lcmp E 67 dX8_integerAt_66 rfl ?_
            refine j_if_lt E 82 70 dX8_integerAt_67 (by decide) rfl (fun h67 => ?_) (fun h67 => ?_)
            · have q1 : (lN x).toInt < (32768 : Int64).toInt := (fa_lt64 _ _).mp ((lg_cmp_lt _ _).mp h67)
              rw [lN_tiB (by omega), show (32768 : Int64).toInt = 32768 by decide] at q1
              refine j_lload E 84 dX8_integerAt_82 rfl rfl ?_
              exact out82 _ (by rw [if_pos (by omega), sx_2 hxb, if_pos (by omega)])
            · have q1 : ¬ (lN x).toInt < (32768 : Int64).toInt := fun q => h67 ((lg_cmp_lt _ _).mpr ((fa_lt64 _ _).mpr q))
              rw [lN_tiB (by omega), show (32768 : Int64).toInt = 32768 by decide] at q1
              refine j_lload E 72 dX8_integerAt_70 rfl rfl ?_
              refine j_lconst E 1 73 dX8_integerAt_72 rfl rfl ?_
              refine j_bipush E (8) 75 dX8_integerAt_73 (by decide) rfl ?_
              refine j_iload_n E 76 dX8_integerAt_75 3 rfl rfl rfl ?_
              refine j_imul E 77 dX8_integerAt_76 rfl ?_
              refine j_eqi (y := 16) (by decide) ?_
              refine j_lshl E 78 dX8_integerAt_77 rfl ?_
              refine j_eql (y := 65536) (by decide) ?_
              refine j_lsub E 79 dX8_integerAt_78 rfl ?_
              refine j_goto E 84 dX8_integerAt_79 (by decide) ?_
              exact out82 _ (by rw [if_pos (by omega), sx_2 hxb, if_neg (by omega)])
          · dsimp only at w
            rw [w] at hx out82 ⊢
            have hxb : x < 4294967296 := hx
            refine j_lload E 58 dX8_integerAt_56 rfl rfl ?_
            refine j_lconst E 1 59 dX8_integerAt_58 rfl rfl ?_
            refine j_bipush E (8) 61 dX8_integerAt_59 (by decide) rfl ?_
            refine j_iload_n E 62 dX8_integerAt_61 3 rfl rfl rfl ?_
            refine j_imul E 63 dX8_integerAt_62 rfl ?_
            refine j_iconst E (1) 64 dX8_integerAt_63 (by decide) rfl ?_
            refine j_isub E 65 dX8_integerAt_64 rfl ?_
            refine j_eqi (y := 31) (by decide) ?_
            refine j_lshl E 66 dX8_integerAt_65 rfl ?_
            refine j_eql (y := 2147483648) (by decide) ?_
            refine j_lcmp E 67 dX8_integerAt_66 rfl ?_
            refine j_if_lt E 82 70 dX8_integerAt_67 (by decide) rfl (fun h67 => ?_) (fun h67 => ?_)
            · have q1 : (lN x).toInt < (2147483648 : Int64).toInt := (fa_lt64 _ _).mp ((lg_cmp_lt _ _).mp h67)
              rw [lN_tiB (by omega), show (2147483648 : Int64).toInt = 2147483648 by decide] at q1
              refine j_lload E 84 dX8_integerAt_82 rfl rfl ?_
              exact out82 _ (by rw [if_pos (by omega), sx_4 hxb, if_pos (by omega)])
            · have q1 : ¬ (lN x).toInt < (2147483648 : Int64).toInt := fun q => h67 ((lg_cmp_lt _ _).mpr ((fa_lt64 _ _).mpr q))
              rw [lN_tiB (by omega), show (2147483648 : Int64).toInt = 2147483648 by decide] at q1
              refine j_lload E 72 dX8_integerAt_70 rfl rfl ?_
              refine j_lconst E 1 73 dX8_integerAt_72 rfl rfl ?_
              refine j_bipush E (8) 75 dX8_integerAt_73 (by decide) rfl ?_
              refine j_iload_n E 76 dX8_integerAt_75 3 rfl rfl rfl ?_
              refine j_imul E 77 dX8_integerAt_76 rfl ?_
              refine j_eqi (y := 32) (by decide) ?_
              refine j_lshl E 78 dX8_integerAt_77 rfl ?_
              refine j_eql (y := 4294967296) (by decide) ?_
              refine j_lsub E 79 dX8_integerAt_78 rfl ?_
              refine j_goto E 84 dX8_integerAt_79 (by decide) ?_
              exact out82 _ (by rw [if_pos (by omega), sx_4 hxb, if_neg (by omega)])
          · dsimp only at w
            omega
    · have q14 : ¬ lb < 224 := mt (nI_ltI (a := lb) (b := 224) (by omega) (by omega)).mpr h14
      have e := by8_hi ⟨lb, hl⟩ (by dsimp only; omega)
      dsimp only at e
      rw [hb8] at e
      have w := f_low ⟨lb, hl⟩ (by dsimp only; omega)
      dsimp only at w
      rw [w, intV, if_pos rfl, e] at B
      refine j_iload_n E 18 dX8_integerAt_17 1 rfl rfl rfl ?_
      refine j_sipush E (256) 21 dX8_integerAt_18 (by decide) rfl ?_
      refine j_isub E 22 dX8_integerAt_21 rfl ?_
      refine j_i2l E 23 dX8_integerAt_22 rfl ?_
      exact j_lret E B rfl 0 0 dX8_integerAt_23 (by repeat (first | with_reducible exact pick_0 | with_reducible apply pick_s | exact sel_0 | apply sel_s)) ⟨rfl, rfl, rfl, rfl⟩ (by omega) (by omega) (by omega) (by omega)
  · have q4 : ¬ 128 ≤ lb := mt (nI_leI (a := 128) (b := lb) (by omega) (by omega)).mpr h4
    have e := by8_lo ⟨lb, hl⟩ (by dsimp only; omega)
    dsimp only at e
    rw [hb8] at e
    have w := f_low ⟨lb, hl⟩ (by dsimp only; omega)
    dsimp only at w
    rw [w, intV, if_pos rfl, e] at B
    refine j_iload_n E 8 dX8_integerAt_7 1 rfl rfl rfl ?_
    refine j_i2l E 9 dX8_integerAt_8 rfl ?_
    exact j_lret E B rfl 0 0 dX8_integerAt_9 (by repeat (first | with_reducible exact pick_0 | with_reducible apply pick_s | exact sel_0 | apply sel_s)) ⟨rfl, rfl, rfl, rfl⟩ (by omega) (by omega) (by omega) (by omega)

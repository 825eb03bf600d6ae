/-! Packer: integers, references -/
theorem shr0 {b : Int64} {k : Nat} (hk : k < 64) : b >>> ((nI k).toInt64 &&& 63) = 0 ↔ 0 ≤ b.toInt ∧ b.toInt < ((2 ^ k : Nat) : Int) := by
  have e : (b >>> ((nI k).toInt64 &&& 63)).toInt = b.toInt >>> k := by
    show (b.toBitVec.sshiftRight (((nI k).toInt64 &&& 63).toBitVec.smod 64).toNat).toInt = _
    rw [wb_c k hk, wb_tb, wb_sm k hk, BitVec.toNat_ofNat, Nat.mod_eq_of_lt (Nat.lt_of_lt_of_le hk (by decide)), BitVec.toInt_sshiftRight]
    rfl
  rw [fa_eq64, e, Int.shiftRight_eq_div_pow]
  have hc : (0 : Int) < ((2 ^ k : Nat) : Int) := Int.natCast_pos.mpr (Nat.two_pow_pos k)
  constructor
  · intro h
    have h0 : b.toInt / ((2 ^ k : Nat) : Int) = 0 := h
    have h1 := Int.emod_def b.toInt ((2 ^ k : Nat) : Int)
    rw [h0, Int.mul_zero, Int.sub_zero] at h1
    have h2 := Int.emod_nonneg b.toInt (show ((2 ^ k : Nat) : Int) ≠ 0 by omega)
    have h3 := Int.emod_lt_of_pos b.toInt hc
    omega
  · intro h
    exact Int.ediv_eq_zero_of_lt h.1 h.2
theorem xnot {n : Nat} (hn : n < 2 ^ 64) : lN n ^^^ (-1) = lN (18446744073709551615 - n) := by
  refine wb_inj (BitVec.eq_of_toNat_eq ?_)
  show ((lN n).toBitVec ^^^ BitVec.allOnes 64).toNat = _
  rw [BitVec.xor_allOnes, BitVec.toNat_not, wb_tn hn, wb_tn (by omega)]
theorem xneg {v : Int64} (h : v.toInt < 0) : (-4611686018427387904 ≤ v.toInt → ((v ^^^ (-1)) <<< ((nI 1).toInt64 &&& 63)).toInt = 2 * (-v.toInt - 1)) ∧ (v.toInt < -4611686018427387904 → ((v ^^^ (-1)) <<< ((nI 1).toInt64 &&& 63)).toInt < 0) := by
  obtain ⟨n, hn, rfl⟩ := wb_of v
  have h1 := lN_ti hn
  rw [xnot hn, wb_shl _ (by decide)]
  have h9 : ¬ n < 9223372036854775808 := by
    intro q
    rw [if_pos q] at h1
    omega
  rw [if_neg h9] at h1
  have h2 := lN_ti (m := (18446744073709551615 - n) * 2 ^ 1) (by omega)
  rw [h2]
  constructor
  · intro h3
    rw [if_pos (by omega)]
    omega
  · intro h3
    rw [if_neg (by omega)]
    omega
def stO (v : Int64) (hb : Bool) : Option Nat := if stN v hb = 4 then none else some (stN v hb)
set_option maxHeartbeats 8000000 in
theorem c_pk_step {g : GT} (hG : GLB g) (d : Nat) (v : Int64) (hb : Bool) : Ctr g mX3_integerStep d 0 0 [.long v, .int (bI hb)] [] (fun o dc ds ws' => o = some (.int (oI (stO v hb))) ∧ dc = 0 ∧ ds = 0 ∧ ws' = []) noX := by
  refine ctr_intro hG (by decide +kernel) (Nat.le_of_ble_eq_true rfl) ?_
  rintro X F rfl E B hI T
  replace E : JE X RX3 cX3_integerStep 5 d 0 0 := E
  show J X _ [F] 0 0 0 [some (.long v), none, some (.int (bI hb)), none, none] []
  have tail : ∀ b : Int64, (∀ s, s < 4 → (∀ (h : (s = 0 ∧ 0 ≤ b.toInt ∧ b.toInt < 256) ∨ (s = 1 ∧ ¬ (0 ≤ b.toInt ∧ b.toInt < 256) ∧ 0 ≤ b.toInt ∧ b.toInt < 65536) ∨ (s = 2 ∧ ¬ (0 ≤ b.toInt ∧ b.toInt < 65536) ∧ 0 ≤ b.toInt ∧ b.toInt < 4294967296) ∨ (s = 3 ∧ ¬ (0 ≤ b.toInt ∧ b.toInt < 4294967296))), stN v hb = s)) → J X 5 [F] 0 0 42 [some (.long v), none, some (.int (bI hb)), some (.long b), none] [] := by
    intro b hs
    have e8 := shr0 (b := b) (k := 8) (by decide)
    have e16 := shr0 (b := b) (k := 16) (by decide)
    have e32 := shr0 (b := b) (k := 32) (by decide)
    refine j_lload_n E 43 dX3_integerStep_42 3 rfl rfl rfl ?_
    refine j_bipush E (8) 45 dX3_integerStep_43 (by decide) rfl ?_
    refine j_lshr E 46 dX3_integerStep_45 rfl ?_
    refine j_lconst E 0 47 dX3_integerStep_46 rfl rfl ?_
    refine j_lcmp E 48 dX3_integerStep_47 rfl ?_
    refine j_if_ne E 53 51 dX3_integerStep_48 (by decide) rfl (fun h48 => ?_) (fun h48 => ?_)
    · have q8 : ¬ (0 ≤ b.toInt ∧ b.toInt < 256) := fun q => h48 ((lg_cmp_eq _ _).mpr (e8.mpr q))
      refine j_lload_n E 54 dX3_integerStep_53 3 rfl rfl rfl ?_
      refine j_bipush E (16) 56 dX3_integerStep_54 (by decide) rfl ?_
      refine j_lshr E 57 dX3_integerStep_56 rfl ?_
      refine j_lconst E 0 58 dX3_integerStep_57 rfl rfl ?_
      refine j_lcmp E 59 dX3_integerStep_58 rfl ?_
      refine j_if_ne E 64 62 dX3_integerStep_59 (by decide) rfl (fun h59 => ?_) (fun h59 => ?_)
      · have q16 : ¬ (0 ≤ b.toInt ∧ b.toInt < 65536) := fun q => h59 ((lg_cmp_eq _ _).mpr (e16.mpr q))
        refine j_lload_n E 65 dX3_integerStep_64 3 rfl rfl rfl ?_
        refine j_bipush E (32) 67 dX3_integerStep_65 (by decide) rfl ?_
        refine j_lshr E 68 dX3_integerStep_67 rfl ?_
        refine j_lconst E 0 69 dX3_integerStep_68 rfl rfl ?_
        refine j_lcmp E 70 dX3_integerStep_69 rfl ?_
        refine j_if_ne E 77 73 dX3_integerStep_70 (by decide) rfl (fun h70 => ?_) (fun h70 => ?_)
        · have q32 : ¬ (0 ≤ b.toInt ∧ b.toInt < 4294967296) := fun q => h70 ((lg_cmp_eq _ _).mpr (e32.mpr q))
          have e := hs 3 (by decide) (Or.inr (Or.inr (Or.inr ⟨rfl, q32⟩)))
          rw [stO, e] at B
          refine j_iconst E (3) 78 dX3_integerStep_77 (by decide) rfl ?_
          exact j_iret E B rfl 0 0 dX3_integerStep_78 (by repeat (first | with_reducible exact pick_0 | with_reducible apply pick_s | exact sel_0 | apply sel_s)) ⟨rfl, rfl, rfl, rfl⟩ (by omega) (by omega) (by omega) (by omega)
        · have q32 := e32.mp ((lg_cmp_eq _ _).mp h70)
          have e := hs 2 (by decide) (Or.inr (Or.inr (Or.inl ⟨rfl, q16, q32.1, q32.2⟩)))
          rw [stO, e] at B
          refine j_iconst E (2) 74 dX3_integerStep_73 (by decide) rfl ?_
          refine j_goto E 78 dX3_integerStep_74 (by decide) ?_
          exact j_iret E B rfl 0 0 dX3_integerStep_78 (by repeat (first | with_reducible exact pick_0 | with_reducible apply pick_s | exact sel_0 | apply sel_s)) ⟨rfl, rfl, rfl, rfl⟩ (by omega) (by omega) (by omega) (by omega)
      · have q16 := e16.mp ((lg_cmp_eq _ _).mp h59)
        have e := hs 1 (by decide) (Or.inr (Or.inl ⟨rfl, q8, q16.1, q16.2⟩))
        rw [stO, e] at B
        refine j_iconst E (1) 63 dX3_integerStep_62 (by decide) rfl ?_
        exact j_iret E B rfl 0 0 dX3_integerStep_63 (by repeat (first | with_reducible exact pick_0 | with_reducible apply pick_s | exact sel_0 | apply sel_s)) ⟨rfl, rfl, rfl, rfl⟩ (by omega) (by omega) (by omega) (by omega)
    · have q8 := e8.mp ((lg_cmp_eq _ _).mp h48)
      have e := hs 0 (by decide) (Or.inl ⟨rfl, q8.1, q8.2⟩)
      rw [stO, e] at B
      refine j_iconst E (0) 52 dX3_integerStep_51 (by decide) rfl ?_
      exact j_iret E B rfl 0 0 dX3_integerStep_52 (by repeat (first | with_reducible exact pick_0 | with_reducible apply pick_s | exact sel_0 | apply sel_s)) ⟨rfl, rfl, rfl, rfl⟩ (by omega) (by omega) (by omega) (by omega)
  rcases hb with _ | _
  · have big : ¬ (-32 ≤ v.toInt ∧ v.toInt < 128) → J X 5 [F] 0 0 24 [some (.long v), none, some (.int (bI false)), none, none] [] := by
      intro hbig
      refine j_lload_n E 25 dX3_integerStep_24 0 rfl rfl rfl ?_
      refine j_lconst E 0 26 dX3_integerStep_25 rfl rfl ?_
      refine j_lcmp E 27 dX3_integerStep_26 rfl ?_
      refine j_if_ge E 40 30 dX3_integerStep_27 (by decide) rfl (fun h27 => ?_) (fun h27 => ?_)
      · have q0 : 0 ≤ v.toInt := by
          have q1 := (lg_cmp_ge _ _).mp h27
          exact (fa_le64 _ _).mp q1
        refine j_lload_n E 41 dX3_integerStep_40 0 rfl rfl rfl ?_
        refine j_lstore_n E 42 dX3_integerStep_41 3 rfl (Nat.le_of_ble_eq_true rfl) rfl rfl ?_
        dsimp only [List.set]
        refine tail v (fun s _ h => ?_)
        rw [stN, if_neg (by decide), if_neg hbig, if_pos q0]
        rcases h with ⟨rfl, h⟩ | ⟨rfl, h⟩ | ⟨rfl, h⟩ | ⟨rfl, h⟩
        · rw [if_pos h.2]
        · rw [if_neg (by omega), if_pos (by omega)]
        · rw [if_neg (by omega), if_neg (by omega), if_pos (by omega)]
        · rw [if_neg (by omega), if_neg (by omega), if_neg (by omega)]
      · have q0 : v.toInt < 0 := by
          have q1 : ¬ (0 : Int64) ≤ v := fun q => h27 ((lg_cmp_ge _ _).mpr q)
          have q2 : ¬ (0 : Int) ≤ v.toInt := fun q => q1 ((fa_le64 _ _).mpr q)
          omega
        refine j_lload_n E 31 dX3_integerStep_30 0 rfl rfl rfl ?_
        refine j_ldcL E _ 34 dX3_integerStep_31 kc_X3_135 rfl ?_
        refine j_lxor E 35 dX3_integerStep_34 rfl ?_
        refine j_iconst E (1) 36 dX3_integerStep_35 (by decide) rfl ?_
        refine j_lshl E 37 dX3_integerStep_36 rfl ?_
        refine j_goto E 41 dX3_integerStep_37 (by decide) ?_
        refine j_lstore_n E 42 dX3_integerStep_41 3 rfl (Nat.le_of_ble_eq_true rfl) rfl rfl ?_
        dsimp only [List.set]
        obtain ⟨n1, n2⟩ := xneg q0
        refine tail _ (fun s _ h => ?_)
        replace h : (s = 0 ∧ 0 ≤ ((v ^^^ (-1)) <<< ((nI 1).toInt64 &&& 63)).toInt ∧ ((v ^^^ (-1)) <<< ((nI 1).toInt64 &&& 63)).toInt < 256) ∨ (s = 1 ∧ ¬ (0 ≤ ((v ^^^ (-1)) <<< ((nI 1).toInt64 &&& 63)).toInt ∧ ((v ^^^ (-1)) <<< ((nI 1).toInt64 &&& 63)).toInt < 256) ∧ 0 ≤ ((v ^^^ (-1)) <<< ((nI 1).toInt64 &&& 63)).toInt ∧ ((v ^^^ (-1)) <<< ((nI 1).toInt64 &&& 63)).toInt < 65536) ∨ (s = 2 ∧ ¬ (0 ≤ ((v ^^^ (-1)) <<< ((nI 1).toInt64 &&& 63)).toInt ∧ ((v ^^^ (-1)) <<< ((nI 1).toInt64 &&& 63)).toInt < 65536) ∧ 0 ≤ ((v ^^^ (-1)) <<< ((nI 1).toInt64 &&& 63)).toInt ∧ ((v ^^^ (-1)) <<< ((nI 1).toInt64 &&& 63)).toInt < 4294967296) ∨ (s = 3 ∧ ¬ (0 ≤ ((v ^^^ (-1)) <<< ((nI 1).toInt64 &&& 63)).toInt ∧ ((v ^^^ (-1)) <<< ((nI 1).toInt64 &&& 63)).toInt < 4294967296)) := h
        generalize ((v ^^^ (-1)) <<< ((nI 1).toInt64 &&& 63)).toInt = y at n1 n2 h
        rw [stN, if_neg (by decide), if_neg hbig, if_neg (by omega)]
        have qq : (-4611686018427387904 ≤ v.toInt ∧ y = 2 * (-v.toInt - 1)) ∨ (v.toInt < -4611686018427387904 ∧ y < 0) := by
          by_cases q : -4611686018427387904 ≤ v.toInt
          · exact Or.inl ⟨q, n1 q⟩
          · exact Or.inr ⟨by omega, n2 (by omega)⟩
        rcases h with ⟨rfl, h⟩ | ⟨rfl, h⟩ | ⟨rfl, h⟩ | ⟨rfl, h⟩
        · rw [if_pos (by omega)]
        · rw [if_neg (by omega), if_pos (by omega)]
        · rw [if_neg (by omega), if_neg (by omega), if_pos (by omega)]
        · rw [if_neg (by omega), if_neg (by omega), if_neg (by omega)]
    refine j_iload_n E 1 dX3_integerStep_0 2 rfl rfl rfl ?_
    refine j_if_eq E 6 4 dX3_integerStep_1 (by decide) rfl (fun h1 => ?_) (fun h1 => ?_)
    · refine j_lload_n E 7 dX3_integerStep_6 0 rfl rfl rfl ?_
      refine j_ldcL E _ 10 dX3_integerStep_7 kc_X3_150 rfl ?_
      refine j_lcmp E 11 dX3_integerStep_10 rfl ?_
      refine j_if_lt E 24 14 dX3_integerStep_11 (by decide) rfl (fun h11 => ?_) (fun h11 => ?_)
      · have q1 : v.toInt < -32 := (fa_lt64 _ _).mp ((lg_cmp_lt _ _).mp h11)
        exact big (by omega)
      · have q1 : ¬ v.toInt < -32 := fun q => h11 ((lg_cmp_lt _ _).mpr ((fa_lt64 v (-32)).mpr q))
        refine j_lload_n E 15 dX3_integerStep_14 0 rfl rfl rfl ?_
        refine j_ldcL E _ 18 dX3_integerStep_15 kc_X3_152 rfl ?_
        refine j_lcmp E 19 dX3_integerStep_18 rfl ?_
        refine j_if_ge E 24 22 dX3_integerStep_19 (by decide) rfl (fun h19 => ?_) (fun h19 => ?_)
        · have q2 : (128 : Int) ≤ v.toInt := (fa_le64 _ _).mp ((lg_cmp_ge _ _).mp h19)
          exact big (by omega)
        · have q2 : ¬ (128 : Int) ≤ v.toInt := fun q => h19 ((lg_cmp_ge _ _).mpr ((fa_le64 128 v).mpr q))
          have e : stN v false = 4 := by rw [stN, if_neg (by decide), if_pos (by omega)]
          rw [stO, e] at B
          refine j_iconst E (-1) 23 dX3_integerStep_22 (by decide) rfl ?_
          exact j_iret E B rfl 0 0 dX3_integerStep_23 (by repeat (first | with_reducible exact pick_0 | with_reducible apply pick_s | exact sel_0 | apply sel_s)) ⟨rfl, rfl, rfl, rfl⟩ (by omega) (by omega) (by omega) (by omega)
    · exact absurd rfl h1
  · have e : stN v true = 3 := rfl
    rw [stO, e] at B
    refine j_iload_n E 1 dX3_integerStep_0 2 rfl rfl rfl ?_
    refine j_if_eq E 6 4 dX3_integerStep_1 (by decide) rfl (fun h1 => ?_) (fun h1 => ?_)
    · exact absurd h1 (by decide)
    · refine j_iconst E (3) 5 dX3_integerStep_4 (by decide) rfl ?_
      exact j_iret E B rfl 0 0 dX3_integerStep_5 (by repeat (first | with_reducible exact pick_0 | with_reducible apply pick_s | exact sel_0 | apply sel_s)) ⟨rfl, rfl, rfl, rfl⟩ (by omega) (by omega) (by omega) (by omega)
set_option maxHeartbeats 8000000 in
theorem c_pk_int {g : GT} (hG : GLB g) (d M N pk pr cm most cap : Nat) (v : Int64) (hb : Bool) (st : Option (List UInt8)) (hd : 7 ≤ d) (hm : most ≤ 65536) (hM : 131136 ≤ 64 * M + cap) (hN : 393216 ≤ N + 2 * cap) : CtrV g mX3_writeInteger 2 d M N pk [.long v, .int (bI hb)] [PKO g pk pr cm most st cap] (fun o dc ds ws' => ∃ xcap, o = none ∧ ws' = [PKO g pk pr cm most (wr most st (intE v hb)) xcap] ∧ 64 * dc + cap ≤ xcap ∧ ds + 2 * cap ≤ 2 * xcap ∧ dc ≤ M ∧ ds ≤ N) noX := by
  refine ⟨pko_rcv, ?_⟩
  refine ctr_intro hG (by decide +kernel) (Nat.le_of_ble_eq_true rfl) ?_
  rintro X F rfl E B hI T
  replace E : JE X RX3 cX3_writeInteger 5 d M N := E
  show J X _ [PKO X.1 pk pr cm most st cap, F] 0 0 0 [some (.ref pk), some (.long v), none, some (.int (bI hb)), none] []
  have hs4 := stN_le v hb
  refine j_lload_n E 1 dX3_writeInteger_0 1 rfl rfl rfl ?_
  refine j_iload_n E 2 dX3_writeInteger_1 3 rfl rfl rfl ?_
  refine j_callS E (c_pk_step hG (d-1) v hb) 5 dX3_writeInteger_2 iv_X3_123 rfl rfl (by repeat (first | with_reducible exact pick_0 | with_reducible apply pick_s | exact sel_0 | apply sel_s)) (by omega) (by omega) (by omega) (Nat.le_of_ble_eq_true rfl) rfl ?_
  rintro _ _ _ _ ⟨rfl, rfl, rfl, rfl⟩
  dsimp only [List.cons_append, List.nil_append, Option.toList]
  refine j_istore E 7 dX3_writeInteger_5 (Nat.le_of_ble_eq_true rfl) rfl rfl ?_
  dsimp only [List.set]
  by_cases e4 : stN v hb = 4
  · rw [stO, if_pos e4]
    rw [intE, if_pos e4] at B
    dsimp only [oI]
    refine j_iload E 9 dX3_writeInteger_7 rfl rfl ?_
    refine j_iconst E (-1) 10 dX3_writeInteger_9 (by decide) rfl ?_
    refine j_icmp_ne E 22 13 dX3_writeInteger_10 (by decide) rfl (fun h10 => ?_) (fun h10 => ?_)
    · exact absurd rfl h10
    · refine j_aload_n E 14 dX3_writeInteger_13 0 rfl rfl rfl ?_
      refine j_lload_n E 15 dX3_writeInteger_14 1 rfl rfl rfl ?_
      refine j_iconst E (1) 16 dX3_writeInteger_15 (by decide) rfl ?_
      refine j_callV E (c_pk_bytes hG (d-1) M N pk pr cm most cap 1 st v (by omega) (by omega) hm hM hN) 19 dX3_writeInteger_16 _ _ _ iv_X3_71 rfl rfl rfl (by repeat (first | with_reducible exact pick_0 | with_reducible apply pick_s | exact sel_0 | apply sel_s)) (by omega) (by omega) (by omega) (Nat.le_of_ble_eq_true rfl) rfl ?_
      rintro _ xadc xads _ ⟨xacap, rfl, rfl, xa1, xa2, xa3, xa4⟩
      dsimp only [List.cons_append, List.nil_append, Option.toList]
      refine j_goto E 59 dX3_writeInteger_19 (by decide) ?_
      exact j_vret E B rfl (0 + 0 + xadc) (0 + 0 + xads) dX3_writeInteger_59 (by repeat (first | with_reducible exact pick_0 | with_reducible apply pick_s | exact sel_0 | apply sel_s)) ⟨xacap, rfl, rfl, by omega, by omega, by omega, by omega⟩ (by omega) (by omega) (by omega) (by omega)
  · rw [stO, if_neg e4]
    rw [intE, if_neg e4] at B
    dsimp only [oI]
    obtain ⟨s, hs⟩ : ∃ s, s = stN v hb := ⟨_, rfl⟩
    rw [← hs] at B e4 hs4 ⊢
    have tail : ∀ L : Nat, L ≤ 208 → L = (if hb = true ∨ 0 ≤ v.toInt then 204 else 208) → J X 5 [PKO X.1 pk pr cm most st cap, F] 0 0 42 [some (.ref pk), some (.long v), none, some (.int (bI hb)), some (.int (nI s))] [.int (nI L), .ref pk] := by
      intro L hL9 hL
      rw [← hL] at B
      refine j_iload E 44 dX3_writeInteger_42 rfl rfl ?_
      refine j_iadd E 45 dX3_writeInteger_44 rfl ?_
      refine j_eqi (nI_add L s) ?_
      refine j_i2l E 46 dX3_writeInteger_45 rfl ?_
      rw [nI_l (by omega)]
      refine j_iconst E (1) 47 dX3_writeInteger_46 (by decide) rfl ?_
      refine j_callV E (c_pk_bytes hG (d-1) M N pk pr cm most cap 1 st (lN (L + s)) (by omega) (by omega) hm hM hN) 50 dX3_writeInteger_47 _ _ _ iv_X3_71 rfl rfl rfl (by repeat (first | with_reducible exact pick_0 | with_reducible apply pick_s | exact sel_0 | apply sel_s)) (by omega) (by omega) (by omega) (Nat.le_of_ble_eq_true rfl) rfl ?_
      rintro _ xadc xads _ ⟨xacap, rfl, rfl, xa1, xa2, xa3, xa4⟩
      dsimp only [List.cons_append, List.nil_append, Option.toList]
      refine j_aload_n E 51 dX3_writeInteger_50 0 rfl rfl rfl ?_
      refine j_lload_n E 52 dX3_writeInteger_51 1 rfl rfl rfl ?_
      refine j_iconst E (1) 53 dX3_writeInteger_52 (by decide) rfl ?_
      refine j_iload E 55 dX3_writeInteger_53 rfl rfl ?_
      refine j_ishl E 56 dX3_writeInteger_55 rfl ?_
      refine j_eqi (sh1 (by omega)) ?_
      refine j_callV E (c_pk_bytes hG (d-1) (M - xadc) (N - xads) pk pr cm most xacap (2 ^ s) _ v (by omega) (p2_le (by omega)) hm (by omega) (by omega)) 59 dX3_writeInteger_56 _ _ _ iv_X3_71 rfl rfl rfl (by repeat (first | with_reducible exact pick_0 | with_reducible apply pick_s | exact sel_0 | apply sel_s)) (by omega) (by omega) (by omega) (Nat.le_of_ble_eq_true rfl) rfl ?_
      rintro _ xbdc xbds _ ⟨xbcap, rfl, rfl, xb1, xb2, xb3, xb4⟩
      dsimp only [List.cons_append, List.nil_append, Option.toList]
      rw [wr_app]
      exact j_vret E B rfl (0 + xadc + xbdc) (0 + xads + xbds) dX3_writeInteger_59 (by repeat (first | with_reducible exact pick_0 | with_reducible apply pick_s | exact sel_0 | apply sel_s)) ⟨xbcap, rfl, rfl, by omega, by omega, by omega, by omega⟩ (by omega) (by omega) (by omega) (by omega)
    refine j_iload E 9 dX3_writeInteger_7 rfl rfl ?_
    refine j_iconst E (-1) 10 dX3_writeInteger_9 (by decide) rfl ?_
    refine j_icmp_ne E 22 13 dX3_writeInteger_10 (by decide) rfl (fun h10 => ?_) (fun h10 => ?_)
    · refine j_aload_n E 23 dX3_writeInteger_22 0 rfl rfl rfl ?_
      refine j_iload_n E 24 dX3_writeInteger_23 3 rfl rfl rfl ?_
      refine j_if_ne E 33 27 dX3_writeInteger_24 (by decide) rfl (fun h24 => ?_) (fun h24 => ?_)
      · have q : hb = true := by
          rcases hb with _ | _
          · exact absurd rfl h24
          · rfl
        refine j_sipush E (204) 36 dX3_writeInteger_33 (by decide) rfl ?_
        refine j_goto E 42 dX3_writeInteger_36 (by decide) ?_
        exact tail 204 (by decide) (by rw [if_pos (Or.inl q)])
      · have q : hb = false := by
          rcases hb with _ | _
          · rfl
          · exact absurd h24 (by decide)
        refine j_lload_n E 28 dX3_writeInteger_27 1 rfl rfl rfl ?_
        refine j_lconst E 0 29 dX3_writeInteger_28 rfl rfl ?_
        refine j_lcmp E 30 dX3_writeInteger_29 rfl ?_
        refine j_if_lt E 39 33 dX3_writeInteger_30 (by decide) rfl (fun h30 => ?_) (fun h30 => ?_)
        · have q1 : v.toInt < 0 := (fa_lt64 _ _).mp ((lg_cmp_lt _ _).mp h30)
          refine j_sipush E (208) 42 dX3_writeInteger_39 (by decide) rfl ?_
          exact tail 208 (by decide) (by rw [if_neg (by rw [q]; simp; omega)])
        · have q1 : ¬ v.toInt < 0 := fun q => h30 ((lg_cmp_lt _ _).mpr ((fa_lt64 v 0).mpr q))
          refine j_sipush E (204) 36 dX3_writeInteger_33 (by decide) rfl ?_
          refine j_goto E 42 dX3_writeInteger_36 (by decide) ?_
          exact tail 204 (by decide) (by rw [if_pos (Or.inr (by omega))])
    · exact absurd h10 (nI_m1 (by omega))
theorem xl_lt {n : Nat} : ∀ w, xl n = some w → w < 256 := by
  intro w h
  unfold xl at h
  repeat' (first | (cases h; done) | (cases h; decide) | split at h)
set_option maxHeartbeats 8000000 in
theorem c_pk_ref {g : GT} (hG : GLB g) (d M N pk pr cm most cap t : Nat) (st : Option (List UInt8)) (hd : 8 ≤ d) (ht : t < 2 ^ 30) (hm : most ≤ 65536) (hM : 131136 ≤ 64 * M + cap) (hN : 393216 ≤ N + 2 * cap) : CtrV g mX3_writeReference 2 d M N pk [.int (nI t)] [PKO g pk pr cm most st cap] (fun o dc ds ws' => ∃ xcap, o = none ∧ ws' = [PKO g pk pr cm most (wr most st (refE t)) xcap] ∧ 64 * dc + cap ≤ xcap ∧ ds + 2 * cap ≤ 2 * xcap ∧ dc ≤ M ∧ ds ≤ N) noX := by
  refine ⟨pko_rcv, ?_⟩
  refine ctr_intro hG (by decide +kernel) (Nat.le_of_ble_eq_true rfl) ?_
  rintro X F rfl E B hI T
  replace E : JE X RX3 cX3_writeReference 4 d M N := E
  show J X _ [PKO X.1 pk pr cm most st cap, F] 0 0 0 [some (.ref pk), some (.int (nI t)), none, none] []
  have hs4 := stN_le (lN t) false
  have hil := intL_le (lN t) false
  refine j_iload_n E 1 dX3_writeReference_0 1 rfl rfl rfl ?_
  refine j_i2l E 2 dX3_writeReference_1 rfl ?_
  rw [nI_l (by omega)]
  refine j_iconst E (0) 3 dX3_writeReference_2 (by decide) rfl ?_
  refine j_callS E (c_pk_step hG (d-1) (lN t) false) 6 dX3_writeReference_3 iv_X3_123 rfl rfl (by repeat (first | with_reducible exact pick_0 | with_reducible apply pick_s | exact sel_0 | apply sel_s)) (by omega) (by omega) (by omega) (Nat.le_of_ble_eq_true rfl) rfl ?_
  rintro _ _ _ _ ⟨rfl, rfl, rfl, rfl⟩
  dsimp only [List.cons_append, List.nil_append, Option.toList]
  refine j_istore_n E 7 dX3_writeReference_6 2 rfl (Nat.le_of_ble_eq_true rfl) rfl rfl ?_
  dsimp only [List.set]
  have tail : ∀ l2 : Int32, J X 4 [PKO X.1 pk pr cm most st cap, F] (0 + 0) (0 + 0) 21 [some (.ref pk), some (.int (nI t)), some (.int l2), none] [.int (nI (intL (lN t) false))] := by
    intro l2
    rw [refE] at B
    obtain ⟨L, hL⟩ : ∃ L, L = intL (lN t) false := ⟨_, rfl⟩
    rw [← hL] at B hil ⊢
    refine j_istore_n E 22 dX3_writeReference_21 3 rfl (Nat.le_of_ble_eq_true rfl) rfl rfl ?_
    dsimp only [List.set]
    refine j_aload_n E 23 dX3_writeReference_22 0 rfl rfl rfl ?_
    refine j_iload_n E 24 dX3_writeReference_23 3 rfl rfl rfl ?_
    refine j_callS E (c_pk_xl hG (d-1) L (by omega)) 27 dX3_writeReference_24 iv_X3_127 rfl rfl (by repeat (first | with_reducible exact pick_0 | with_reducible apply pick_s | exact sel_0 | apply sel_s)) (by omega) (by omega) (by omega) (Nat.le_of_ble_eq_true rfl) rfl ?_
    rintro _ _ _ _ ⟨rfl, rfl, rfl, rfl⟩
    dsimp only [List.cons_append, List.nil_append, Option.toList]
    refine j_sipush E (199) 30 dX3_writeReference_27 (by decide) rfl ?_
    refine j_iload_n E 31 dX3_writeReference_30 3 rfl rfl rfl ?_
    refine j_callV E (c_pk_head hG (d-1) M N pk pr cm most cap 199 L (xl L) st (by omega) xl_lt (by decide) (by omega) hm hM hN) 34 dX3_writeReference_31 _ _ _ iv_X3_131 rfl rfl rfl (by repeat (first | with_reducible exact pick_0 | with_reducible apply pick_s | exact sel_0 | apply sel_s)) (by omega) (by omega) (by omega) (Nat.le_of_ble_eq_true rfl) rfl ?_
    rintro _ xadc xads _ ⟨xacap, rfl, rfl, xa1, xa2, xa3, xa4⟩
    dsimp only [List.cons_append, List.nil_append, Option.toList]
    refine j_aload_n E 35 dX3_writeReference_34 0 rfl rfl rfl ?_
    refine j_lconst E 0 36 dX3_writeReference_35 rfl rfl ?_
    refine j_iconst E (1) 37 dX3_writeReference_36 (by decide) rfl ?_
    refine j_callV E (c_pk_bytes hG (d-1) (M - xadc) (N - xads) pk pr cm most xacap 1 _ 0 (by omega) (by omega) hm (by omega) (by omega)) 40 dX3_writeReference_37 _ _ _ iv_X3_71 rfl rfl rfl (by repeat (first | with_reducible exact pick_0 | with_reducible apply pick_s | exact sel_0 | apply sel_s)) (by omega) (by omega) (by omega) (Nat.le_of_ble_eq_true rfl) rfl ?_
    rintro _ xbdc xbds _ ⟨xbcap, rfl, rfl, xb1, xb2, xb3, xb4⟩
    dsimp only [List.cons_append, List.nil_append, Option.toList]
    rw [wr_app]
    refine j_aload_n E 41 dX3_writeReference_40 0 rfl rfl rfl ?_
    refine j_iload_n E 42 dX3_writeReference_41 1 rfl rfl rfl ?_
    refine j_i2l E 43 dX3_writeReference_42 rfl ?_
    rw [nI_l (by omega)]
    refine j_iconst E (0) 44 dX3_writeReference_43 (by decide) rfl ?_
    refine j_callV E (c_pk_int hG (d-1) (M - xadc - xbdc) (N - xads - xbds) pk pr cm most xbcap (lN t) false _ (by omega) hm (by omega) (by omega)) 47 dX3_writeReference_44 _ _ _ iv_X3_86 rfl rfl rfl (by repeat (first | with_reducible exact pick_0 | with_reducible apply pick_s | exact sel_0 | apply sel_s)) (by omega) (by omega) (by omega) (Nat.le_of_ble_eq_true rfl) rfl ?_
    rintro _ xcdc xcds _ ⟨xccap, rfl, rfl, xc1, xc2, xc3, xc4⟩
    dsimp only [List.cons_append, List.nil_append, Option.toList]
    rw [wr_app, List.append_assoc]
    exact j_vret E B rfl (0 + 0 + 0 + xadc + xbdc + xcdc) (0 + 0 + 0 + xads + xbds + xcds) dX3_writeReference_47 (by repeat (first | with_reducible exact pick_0 | with_reducible apply pick_s | exact sel_0 | apply sel_s)) ⟨xccap, rfl, rfl, by omega, by omega, by omega, by omega⟩ (by omega) (by omega) (by omega) (by omega)
  by_cases e4 : stN (lN t) false = 4
  · have eL : intL (lN t) false = 1 := if_pos e4
    rw [eL] at tail
    rw [stO, if_pos e4]
    dsimp only [oI]
    refine j_iload_n E 8 dX3_writeReference_7 2 rfl rfl rfl ?_
    refine j_iconst E (-1) 9 dX3_writeReference_8 (by decide) rfl ?_
    refine j_icmp_ne E 16 12 dX3_writeReference_9 (by decide) rfl (fun h9 => ?_) (fun h9 => ?_)
    · exact absurd rfl h9
    · refine j_iconst E (1) 13 dX3_writeReference_12 (by decide) rfl ?_
      refine j_goto E 21 dX3_writeReference_13 (by decide) ?_
      exact tail _
  · have eL : intL (lN t) false = 1 + 2 ^ stN (lN t) false := if_neg e4
    rw [eL] at tail
    rw [stO, if_neg e4]
    dsimp only [oI]
    refine j_iload_n E 8 dX3_writeReference_7 2 rfl rfl rfl ?_
    refine j_iconst E (-1) 9 dX3_writeReference_8 (by decide) rfl ?_
    refine j_icmp_ne E 16 12 dX3_writeReference_9 (by decide) rfl (fun h9 => ?_) (fun h9 => ?_)
    · refine j_iconst E (1) 17 dX3_writeReference_16 (by decide) rfl ?_
      refine j_iconst E (1) 18 dX3_writeReference_17 (by decide) rfl ?_
      refine j_iload_n E 19 dX3_writeReference_18 2 rfl rfl rfl ?_
      refine j_ishl E 20 dX3_writeReference_19 rfl ?_
      refine j_eqi (sh1 (by omega)) ?_
      refine j_iadd E 21 dX3_writeReference_20 rfl ?_
      refine j_eqi (nI_add 1 (2 ^ stN (lN t) false)) ?_
      exact tail _
    · exact absurd h9 (nI_m1 (by omega))

/-! Lead -/
/-- a kind as the program holds it; 12 is none -/
def kI (k : Nat) : Int32 := if k = 12 then -1 else nI k
theorem kI_all : ∀ a b : Fin 13, kI a.val = kI b.val ↔ a = b := by decide +kernel
theorem kI_eq {a b : Nat} (ha : a ≤ 12) (hb : b ≤ 12) : kI a = kI b ↔ a = b := by
  have h := kI_all ⟨a, by omega⟩ ⟨b, by omega⟩
  rw [h]
  exact ⟨fun q => congrArg Fin.val q, fun q => Fin.ext q⟩
theorem kI_nI {k : Nat} (h : k ≤ 11) : kI k = nI k := if_neg (by omega)
def tbK : List Nat := [0, 12, 1, 1, 6, 6, 6, 9, 9, 9, 3, 4, 2, 2, 2, 2, 2, 2, 2, 2, 9, 9, 9, 9, 9, 5, 5, 5, 7, 7, 8, 8]
theorem tbK_all : ∀ r : Fin 32, nI (tblK.getD r.val 0) = kI (tbK.getD r.val 0) := by decide +kernel
theorem tbK_le : ∀ r : Fin 32, tbK.getD r.val 0 ≤ 12 := by decide +kernel
theorem tblL_le : ∀ r : Fin 32, tblL.getD r.val 0 ≤ 4 := by decide +kernel
theorem tblF_le : ∀ r : Fin 32, tblF.getD r.val 0 ≤ 16 := by decide +kernel
abbrev LEA (ld k h b : Nat) (ty : Int32) : Asn := pt ld (.inr (1, [.int (kI k), .int (nI h), .long (lN b), .int ty]))
/-- the length that is said behind a lead of row r -/
def upLen (bs : List UInt8) (i r : Nat) : Nat := if 0 < tblL.getD r 0 ∧ tblL.getD r 0 < bs.length - i then beN bs (i + 1) (tblL.getD r 0) else tblF.getD r 0
def upBody (bs : List UInt8) (i r : Nat) : Nat := if tbK.getD r 0 = 8 then 2 * upLen bs i r else upLen bs i r
/-- kind, head, body, but for the type of an extension -/
def lead0 (bs : List UInt8) (i : Nat) : Nat × Nat × Nat :=
  if bN bs i < 128 ∨ 224 ≤ bN bs i then (2, 1, 0)
  else if bN bs i < 144 then (8, 1, 2 * (bN bs i % 16))
  else if bN bs i < 160 then (7, 1, bN bs i % 16)
  else if bN bs i < 192 then (5, 1, bN bs i % 32)
  else (tbK.getD (bN bs i - 192) 0, 1 + tblL.getD (bN bs i - 192) 0, upBody bs i (bN bs i - 192))
def tyK (ty : Int32) : Nat := if ty = -1 then 10 else if ty = 0 then 11 else 9
/-- kind, head, body, type -/
def lead (bs : List UInt8) (i : Nat) : Nat × Nat × Nat × Int32 :=
  if (lead0 bs i).1 = 9 then
    (if i + (lead0 bs i).2.1 < bs.length then (tyK (by8 (bs.getD (i + (lead0 bs i).2.1) 0)), (lead0 bs i).2.1 + 1, (lead0 bs i).2.2, by8 (bs.getD (i + (lead0 bs i).2.1) 0))
      else (9, (lead0 bs i).2.1 + 1, (lead0 bs i).2.2, 0))
  else ((lead0 bs i).1, (lead0 bs i).2.1, (lead0 bs i).2.2, 0)
theorem beN_lt32 {bs : List UInt8} {i n : Nat} (h : n ≤ 4) : beN bs i n < 2 ^ 32 := Nat.lt_of_lt_of_le (beN_lt bs i n) (Nat.le_trans (Nat.pow_le_pow_right (by decide) h) (by decide))
theorem upLen_lt (bs : List UInt8) (i : Nat) {r : Nat} (hr : r < 32) : upLen bs i r < 2 ^ 32 := by
  have h1 := tblL_le ⟨r, hr⟩
  have h2 := tblF_le ⟨r, hr⟩
  have h3 : beN bs (i + 1) (tblL.getD r 0) < 2 ^ 32 := beN_lt32 h1
  unfold upLen
  split
  · exact h3
  · dsimp only at h2
    omega
theorem lead0_ok (bs : List UInt8) (i : Nat) : (lead0 bs i).1 ≤ 12 ∧ 1 ≤ (lead0 bs i).2.1 ∧ (lead0 bs i).2.1 ≤ 5 ∧ (lead0 bs i).2.2 < 2 ^ 33 := by
  have h0 := bN_lt bs i
  unfold lead0
  split
  · exact ⟨by decide, by decide, by decide, by decide⟩
  split
  · dsimp only
    omega
  split
  · dsimp only
    omega
  split
  · dsimp only
    omega
  · have h1 := tbK_le ⟨bN bs i - 192, by omega⟩
    have h2 := tblL_le ⟨bN bs i - 192, by omega⟩
    have h3 := upLen_lt bs i (r := bN bs i - 192) (by omega)
    dsimp only at h1 h2
    have h4 : upBody bs i (bN bs i - 192) < 2 ^ 33 := by
      unfold upBody
      split
      · omega
      · omega
    dsimp only
    omega
theorem by8_i2b : ∀ i : Fin 256, (nI i.val).toInt8.toInt32 = by8 (UInt8.ofNat i.val) := by decide +kernel
theorem i2b_by8 (b : UInt8) : (nI b.toNat).toInt8.toInt32 = by8 b := by
  have h := by8_i2b ⟨b.toNat, b.toNat_lt⟩
  rw [h]
  simp
set_option maxHeartbeats 4000000 in
theorem c_ld_init {g : GT} (hG : GLB g) (d : Nat) (hd : 1 ≤ d) (ld : Nat) : Ctr g mX2_init d 0 0 [.ref ld] [pt ld (.inr (1, [.int 0, .int 0, .long 0, .int 0]))] (fun o dc ds ws' => o = none ∧ dc = 0 ∧ ds = 0 ∧ ws' = [LEA ld 0 0 0 0]) noX := by
  refine ctr_intro hG (by decide +kernel) (Nat.le_of_ble_eq_true rfl) ?_
  rintro X F rfl E B hI T
  replace E : JE X RX2 cX2_init 1 d 0 0 := E
  show J X _ [pt ld (.inr (1, [.int 0, .int 0, .long 0, .int 0])), F] 0 0 0 [some (.ref ld)] []
  refine j_aload_n E 1 dX2_init_0 0 rfl rfl rfl ?_
  refine j_objI E 4 dX2_init_1 ob_X2 ob_inst ob_code (Nat.le_of_ble_eq_true rfl) hd rfl ?_
  refine j_close (P := LEA ld 0 0 0 0) (qs := [pt ld (.inr (1, [.int 0, .int 0, .long 0, .int 0]))]) (by repeat (first | with_reducible exact pick_0 | with_reducible apply pick_s | exact sel_0 | apply sel_s)) (fun w hw => ?_) ?_
  · obtain ⟨w1, w2, hp, h1, h2⟩ := hw
    have h3 : w2 = [] := h2
    subst h3
    rw [List.append_nil] at hp
    have h4 : w1 = [(ld, .inr (1, [.int 0, .int 0, .long 0, .int 0]))] := h1
    subst h4
    exact List.perm_singleton.mp hp
  · exact j_vret E B rfl 0 0 dX2_init_4 (by repeat (first | with_reducible exact pick_0 | with_reducible apply pick_s | exact sel_0 | apply sel_s)) ⟨rfl, rfl, rfl, rfl⟩ (by omega) (by omega) (by omega) (by omega)
set_option maxHeartbeats 4000000 in
theorem c_ld_take {g : GT} (hG : GLB g) (d ld : Nat) (k h : Int32) (v : Int64) (k0 h0 : Int32) (b0 : Int64) (ty : Value) : CtrV g mX2_take 1 d 0 0 ld [.int k, .int h, .long v] [pt ld (.inr (1, [.int k0, .int h0, .long b0, ty]))] (fun o dc ds ws' => o = none ∧ dc = 0 ∧ ds = 0 ∧ ws' = [pt ld (.inr (1, [.int k, .int h, .long v, ty]))]) noX := by
  refine ⟨rcv_pt, ?_⟩
  refine ctr_intro hG (by decide +kernel) (Nat.le_of_ble_eq_true rfl) ?_
  rintro X F rfl E B hI T
  replace E : JE X RX2 cX2_take 5 d 0 0 := E
  show J X _ [pt ld (.inr (1, [.int k0, .int h0, .long b0, ty])), F] 0 0 0 [some (.ref ld), some (.int k), some (.int h), some (.long v), none] []
  refine j_aload_n E 1 dX2_take_0 0 rfl rfl rfl ?_
  refine j_iload_n E 2 dX2_take_1 1 rfl rfl rfl ?_
  refine j_putf E 5 dX2_take_2 fl_X2_29 (by repeat (first | with_reducible exact pick_0 | with_reducible apply pick_s)) rfl rfl (Nat.le_of_ble_eq_true rfl) rfl ?_
  dsimp only [List.set]
  refine j_aload_n E 6 dX2_take_5 0 rfl rfl rfl ?_
  refine j_iload_n E 7 dX2_take_6 2 rfl rfl rfl ?_
  refine j_putf E 10 dX2_take_7 fl_X2_32 (by repeat (first | with_reducible exact pick_0 | with_reducible apply pick_s)) rfl rfl (Nat.le_of_ble_eq_true rfl) rfl ?_
  dsimp only [List.set]
  refine j_aload_n E 11 dX2_take_10 0 rfl rfl rfl ?_
  refine j_lload_n E 12 dX2_take_11 3 rfl rfl rfl ?_
  refine j_putf E 15 dX2_take_12 fl_X2_43 (by repeat (first | with_reducible exact pick_0 | with_reducible apply pick_s)) rfl rfl (Nat.le_of_ble_eq_true rfl) rfl ?_
  dsimp only [List.set]
  exact j_vret E B rfl 0 0 dX2_take_15 (by repeat (first | with_reducible exact pick_0 | with_reducible apply pick_s | exact sel_0 | apply sel_s)) ⟨rfl, rfl, rfl, rfl⟩ (by omega) (by omega) (by omega) (by omega)
set_option maxHeartbeats 4000000 in
theorem c_ld_isGroup {g : GT} (hG : GLB g) (d ld k h b : Nat) (ty : Int32) (hk : k ≤ 12) : CtrV g mX2_isGroup 1 d 0 0 ld [] [LEA ld k h b ty] (fun o dc ds ws' => o = some (.int (if k = 7 ∨ k = 8 then 1 else 0)) ∧ dc = 0 ∧ ds = 0 ∧ ws' = [LEA ld k h b ty]) noX := by
  refine ⟨rcv_pt, ?_⟩
  refine ctr_intro hG (by decide +kernel) (Nat.le_of_ble_eq_true rfl) ?_
  rintro X F rfl E B hI T
  replace E : JE X RX2 cX2_isGroup 1 d 0 0 := E
  show J X _ [LEA ld k h b ty, F] 0 0 0 [some (.ref ld)] []
  refine j_aload_n E 1 dX2_isGroup_0 0 rfl rfl rfl ?_
  refine j_getf E 4 dX2_isGroup_1 fl_X2_29 (by repeat (first | with_reducible exact pick_0 | with_reducible apply pick_s)) (by rfl) rfl ?_
  refine j_bipush E (7) 6 dX2_isGroup_4 (by decide) rfl ?_
  refine j_icmp_eq E 18 9 dX2_isGroup_6 (by decide) rfl (fun h6 => ?_) (fun h6 => ?_)
  · have e : k = 7 := (kI_eq hk (b := 7) (by decide)).mp h6
    refine j_iconst E (1) 19 dX2_isGroup_18 (by decide) rfl ?_
    refine j_goto E 23 dX2_isGroup_19 (by decide) ?_
    exact j_zret E B rfl (by first | exact Or.inl rfl | exact Or.inr rfl) 0 0 dX2_isGroup_23 (by repeat (first | with_reducible exact pick_0 | with_reducible apply pick_s | exact sel_0 | apply sel_s)) ⟨by rw [if_pos (Or.inl e)], rfl, rfl, rfl⟩ (by omega) (by omega) (by omega) (by omega)
  · have e7 : ¬ k = 7 := fun e => h6 ((kI_eq hk (b := 7) (by decide)).mpr e)
    refine j_aload_n E 10 dX2_isGroup_9 0 rfl rfl rfl ?_
    refine j_getf E 13 dX2_isGroup_10 fl_X2_29 (by repeat (first | with_reducible exact pick_0 | with_reducible apply pick_s)) (by rfl) rfl ?_
    refine j_bipush E (8) 15 dX2_isGroup_13 (by decide) rfl ?_
    refine j_icmp_ne E 22 18 dX2_isGroup_15 (by decide) rfl (fun h15 => ?_) (fun h15 => ?_)
    · have e8 : ¬ k = 8 := fun e => h15 ((kI_eq hk (b := 8) (by decide)).mpr e)
      refine j_iconst E (0) 23 dX2_isGroup_22 (by decide) rfl ?_
      exact j_zret E B rfl (by first | exact Or.inl rfl | exact Or.inr rfl) 0 0 dX2_isGroup_23 (by repeat (first | with_reducible exact pick_0 | with_reducible apply pick_s | exact sel_0 | apply sel_s)) ⟨by rw [if_neg (by omega)], rfl, rfl, rfl⟩ (by omega) (by omega) (by omega) (by omega)
    · have e : k = 8 := (kI_eq hk (b := 8) (by decide)).mp h15
      refine j_iconst E (1) 19 dX2_isGroup_18 (by decide) rfl ?_
      refine j_goto E 23 dX2_isGroup_19 (by decide) ?_
      exact j_zret E B rfl (by first | exact Or.inl rfl | exact Or.inr rfl) 0 0 dX2_isGroup_23 (by repeat (first | with_reducible exact pick_0 | with_reducible apply pick_s | exact sel_0 | apply sel_s)) ⟨by rw [if_pos (Or.inr e)], rfl, rfl, rfl⟩ (by omega) (by omega) (by omega) (by omega)
def ownB (k h b : Nat) : Nat := if k = 7 ∨ k = 8 then h else h + b
set_option maxHeartbeats 4000000 in
theorem c_ld_own {g : GT} (hG : GLB g) (d ld k h b : Nat) (ty : Int32) (hk : k ≤ 12) (hh : h < 2 ^ 31) (hd : 1 ≤ d) : CtrV g mX2_ownBytes 1 d 0 0 ld [] [LEA ld k h b ty] (fun o dc ds ws' => o = some (.long (lN (ownB k h b))) ∧ dc = 0 ∧ ds = 0 ∧ ws' = [LEA ld k h b ty]) noX := by
  refine ⟨rcv_pt, ?_⟩
  refine ctr_intro hG (by decide +kernel) (Nat.le_of_ble_eq_true rfl) ?_
  rintro X F rfl E B hI T
  replace E : JE X RX2 cX2_ownBytes 1 d 0 0 := E
  show J X _ [LEA ld k h b ty, F] 0 0 0 [some (.ref ld)] []
  refine j_aload_n E 1 dX2_ownBytes_0 0 rfl rfl rfl ?_
  refine j_callV E (c_ld_isGroup hG (d-1) ld k h b ty hk) 4 dX2_ownBytes_1 _ _ _ iv_X2_39 rfl rfl rfl (by repeat (first | with_reducible exact pick_0 | with_reducible apply pick_s | exact sel_0 | apply sel_s)) (by omega) (by omega) (by omega) (Nat.le_of_ble_eq_true rfl) rfl ?_
  rintro _ _ _ _ ⟨rfl, rfl, rfl, rfl⟩
  dsimp only [List.cons_append, List.nil_append, Option.toList]
  by_cases e : k = 7 ∨ k = 8
  · rw [if_pos e]
    refine j_if_eq E 15 7 dX2_ownBytes_4 (by decide) rfl (fun h4 => ?_) (fun h4 => ?_)
    · exact absurd h4 (by decide)
    · refine j_aload_n E 8 dX2_ownBytes_7 0 rfl rfl rfl ?_
      refine j_getf E 11 dX2_ownBytes_8 fl_X2_32 (by repeat (first | with_reducible exact pick_0 | with_reducible apply pick_s)) (by rfl) rfl ?_
      refine j_i2l E 12 dX2_ownBytes_11 rfl ?_
      rw [nI_l hh]
      refine j_goto E 25 dX2_ownBytes_12 (by decide) ?_
      exact j_lret E B rfl 0 0 dX2_ownBytes_25 (by repeat (first | with_reducible exact pick_0 | with_reducible apply pick_s | exact sel_0 | apply sel_s)) ⟨by rw [ownB, if_pos e], rfl, rfl, rfl⟩ (by omega) (by omega) (by omega) (by omega)
  · rw [if_neg e]
    refine j_if_eq E 15 7 dX2_ownBytes_4 (by decide) rfl (fun h4 => ?_) (fun h4 => ?_)
    · refine j_aload_n E 16 dX2_ownBytes_15 0 rfl rfl rfl ?_
      refine j_getf E 19 dX2_ownBytes_16 fl_X2_32 (by repeat (first | with_reducible exact pick_0 | with_reducible apply pick_s)) (by rfl) rfl ?_
      refine j_i2l E 20 dX2_ownBytes_19 rfl ?_
      rw [nI_l hh]
      refine j_aload_n E 21 dX2_ownBytes_20 0 rfl rfl rfl ?_
      refine j_getf E 24 dX2_ownBytes_21 fl_X2_43 (by repeat (first | with_reducible exact pick_0 | with_reducible apply pick_s)) (by rfl) rfl ?_
      refine j_ladd E 25 dX2_ownBytes_24 rfl ?_
      refine j_eql (lN_add h b) ?_
      exact j_lret E B rfl 0 0 dX2_ownBytes_25 (by repeat (first | with_reducible exact pick_0 | with_reducible apply pick_s | exact sel_0 | apply sel_s)) ⟨by rw [ownB, if_neg e], rfl, rfl, rfl⟩ (by omega) (by omega) (by omega) (by omega)
    · exact absurd rfl h4

/-! Characters -/
/-- a byte as a natural number -/
def bN (bs : List UInt8) (i : Nat) : Nat := (bs.getD i 0).toNat
theorem bN_lt (bs : List UInt8) (i : Nat) : bN bs i < 256 := UInt8.toNat_lt _
def sLen (l : Nat) : Nat := if l < 128 then 1 else if l < 192 then 0 else if l < 224 then 2 else if l < 240 then 3 else if l < 248 then 4 else 0
def chS (c : Nat) : Nat := if 1114111 < c then 0 else if 55296 ≤ c ∧ c ≤ 57343 then 0 else if c < 128 then 1 else if c < 2048 then 2 else if c < 65536 then 3 else 4
def chV (bs : List UInt8) (i n : Nat) : Nat → Nat
  | 0 => bN bs i % 2 ^ (7 - n)
  | j + 1 => chV bs i n j * 64 + bN bs (i + (j + 1)) % 64
def chR (bs : List UInt8) (i : Nat) : Nat → Bool
  | 0 => true
  | j + 1 => chR bs i j && decide (bN bs (i + (j + 1)) / 64 = 2)
/-- how long the character at i is; 0 if there is none, or not wholly before t -/
def chLen (bs : List UInt8) (i t : Nat) : Nat :=
  if sLen (bN bs i) ≤ 1 then sLen (bN bs i)
  else if t - i < sLen (bN bs i) then 0
  else if chR bs i (sLen (bN bs i) - 1) = true then (if chS (chV bs i (sLen (bN bs i)) (sLen (bN bs i) - 1)) = sLen (bN bs i) then sLen (bN bs i) else 0) else 0
/-- the place of the first that is no character -/
def chBad (bs : List UInt8) (t : Nat) : Nat → Nat → Option Nat
  | 0, _ => none
  | q + 1, i => if i < t then (if chLen bs i t = 0 then some i else chBad bs t q (i + chLen bs i t)) else none
theorem sLen_le (l : Nat) : sLen l ≤ 4 := by
  unfold sLen
  repeat' split
  all_goals omega
set_option maxHeartbeats 4000000 in
theorem c_ch_said {g : GT} (hG : GLB g) (d l : Nat) (hl : l < 256) : Ctr g mX1_saidLength d 0 0 [.int (nI l)] [] (fun o dc ds ws' => o = some (.int (nI (sLen l))) ∧ dc = 0 ∧ ds = 0 ∧ ws' = []) noX := by
  refine ctr_intro hG (by decide +kernel) (Nat.le_of_ble_eq_true rfl) ?_
  rintro X F rfl E B hI T
  replace E : JE X RX1 cX1_saidLength 1 d 0 0 := E
  show J X _ [F] 0 0 0 [some (.int (nI l))] []
  refine j_iload_n E 1 dX1_saidLength_0 0 rfl rfl rfl ?_
  refine j_sipush E (128) 4 dX1_saidLength_1 (by decide) rfl ?_
  refine j_icmp_ge E 9 7 dX1_saidLength_4 (by decide) rfl (fun h4 => ?_) (fun h4 => ?_)
  · have q4 : 128 ≤ l := (nI_leI (a := 128) (b := l) (by omega) (by omega)).mp h4
    refine j_iload_n E 10 dX1_saidLength_9 0 rfl rfl rfl ?_
    refine j_sipush E (192) 13 dX1_saidLength_10 (by decide) rfl ?_
    refine j_icmp_ge E 18 16 dX1_saidLength_13 (by decide) rfl (fun h13 => ?_) (fun h13 => ?_)
    · have q13 : 192 ≤ l := (nI_leI (a := 192) (b := l) (by omega) (by omega)).mp h13
      refine j_iload_n E 19 dX1_saidLength_18 0 rfl rfl rfl ?_
      refine j_sipush E (224) 22 dX1_saidLength_19 (by decide) rfl ?_
      refine j_icmp_ge E 27 25 dX1_saidLength_22 (by decide) rfl (fun h22 => ?_) (fun h22 => ?_)
      · have q22 : 224 ≤ l := (nI_leI (a := 224) (b := l) (by omega) (by omega)).mp h22
        refine j_iload_n E 28 dX1_saidLength_27 0 rfl rfl rfl ?_
        refine j_sipush E (240) 31 dX1_saidLength_28 (by decide) rfl ?_
        refine j_icmp_ge E 36 34 dX1_saidLength_31 (by decide) rfl (fun h31 => ?_) (fun h31 => ?_)
        · have q31 : 240 ≤ l := (nI_leI (a := 240) (b := l) (by omega) (by omega)).mp h31
          refine j_iload_n E 37 dX1_saidLength_36 0 rfl rfl rfl ?_
          refine j_sipush E (248) 40 dX1_saidLength_37 (by decide) rfl ?_
          refine j_icmp_ge E 47 43 dX1_saidLength_40 (by decide) rfl (fun h40 => ?_) (fun h40 => ?_)
          · have q40 : 248 ≤ l := (nI_leI (a := 248) (b := l) (by omega) (by omega)).mp h40
            have e : sLen l = 0 := by unfold sLen; repeat' (first | omega | split)
            refine j_iconst E (0) 48 dX1_saidLength_47 (by decide) rfl ?_
            exact j_iret E B rfl 0 0 dX1_saidLength_48 (by repeat (first | with_reducible exact pick_0 | with_reducible apply pick_s | exact sel_0 | apply sel_s)) ⟨by rw [e]; rfl, rfl, rfl, rfl⟩ (by omega) (by omega) (by omega) (by omega)
          · have q40 : ¬ 248 ≤ l := mt (nI_leI (a := 248) (b := l) (by omega) (by omega)).mpr h40
            have e : sLen l = 4 := by unfold sLen; repeat' (first | omega | split)
            refine j_iconst E (4) 44 dX1_saidLength_43 (by decide) rfl ?_
            refine j_goto E 48 dX1_saidLength_44 (by decide) ?_
            exact j_iret E B rfl 0 0 dX1_saidLength_48 (by repeat (first | with_reducible exact pick_0 | with_reducible apply pick_s | exact sel_0 | apply sel_s)) ⟨by rw [e]; rfl, rfl, rfl, rfl⟩ (by omega) (by omega) (by omega) (by omega)
        · have q31 : ¬ 240 ≤ l := mt (nI_leI (a := 240) (b := l) (by omega) (by omega)).mpr h31
          have e : sLen l = 3 := by unfold sLen; repeat' (first | omega | split)
          refine j_iconst E (3) 35 dX1_saidLength_34 (by decide) rfl ?_
          exact j_iret E B rfl 0 0 dX1_saidLength_35 (by repeat (first | with_reducible exact pick_0 | with_reducible apply pick_s | exact sel_0 | apply sel_s)) ⟨by rw [e]; rfl, rfl, rfl, rfl⟩ (by omega) (by omega) (by omega) (by omega)
      · have q22 : ¬ 224 ≤ l := mt (nI_leI (a := 224) (b := l) (by omega) (by omega)).mpr h22
        have e : sLen l = 2 := by unfold sLen; repeat' (first | omega | split)
        refine j_iconst E (2) 26 dX1_saidLength_25 (by decide) rfl ?_
        exact j_iret E B rfl 0 0 dX1_saidLength_26 (by repeat (first | with_reducible exact pick_0 | with_reducible apply pick_s | exact sel_0 | apply sel_s)) ⟨by rw [e]; rfl, rfl, rfl, rfl⟩ (by omega) (by omega) (by omega) (by omega)
    · have q13 : ¬ 192 ≤ l := mt (nI_leI (a := 192) (b := l) (by omega) (by omega)).mpr h13
      have e : sLen l = 0 := by unfold sLen; repeat' (first | omega | split)
      refine j_iconst E (0) 17 dX1_saidLength_16 (by decide) rfl ?_
      exact j_iret E B rfl 0 0 dX1_saidLength_17 (by repeat (first | with_reducible exact pick_0 | with_reducible apply pick_s | exact sel_0 | apply sel_s)) ⟨by rw [e]; rfl, rfl, rfl, rfl⟩ (by omega) (by omega) (by omega) (by omega)
  · have q4 : ¬ 128 ≤ l := mt (nI_leI (a := 128) (b := l) (by omega) (by omega)).mpr h4
    have e : sLen l = 1 := by unfold sLen; repeat' (first | omega | split)
    refine j_iconst E (1) 8 dX1_saidLength_7 (by decide) rfl ?_
    exact j_iret E B rfl 0 0 dX1_saidLength_8 (by repeat (first | with_reducible exact pick_0 | with_reducible apply pick_s | exact sel_0 | apply sel_s)) ⟨by rw [e]; rfl, rfl, rfl, rfl⟩ (by omega) (by omega) (by omega) (by omega)
set_option maxHeartbeats 4000000 in
theorem c_ch_short {g : GT} (hG : GLB g) (d c : Nat) (hc : c < 2 ^ 31) : Ctr g mX1_shortestLength d 0 0 [.int (nI c)] [] (fun o dc ds ws' => o = some (.int (nI (chS c))) ∧ dc = 0 ∧ ds = 0 ∧ ws' = []) noX := by
  refine ctr_intro hG (by decide +kernel) (Nat.le_of_ble_eq_true rfl) ?_
  rintro X F rfl E B hI T
  replace E : JE X RX1 cX1_shortestLength 1 d 0 0 := E
  show J X _ [F] 0 0 0 [some (.int (nI c))] []
  have rest : ¬ 1114111 < c → ¬ (55296 ≤ c ∧ c ≤ 57343) → J X 1 [F] 0 0 20 [some (.int (nI c))] [] := by
    intro q1 q2
    refine j_iload_n E 21 dX1_shortestLength_20 0 rfl rfl rfl ?_
    refine j_sipush E (128) 24 dX1_shortestLength_21 (by decide) rfl ?_
    refine j_icmp_ge E 29 27 dX1_shortestLength_24 (by decide) rfl (fun h24 => ?_) (fun h24 => ?_)
    · have q24 : 128 ≤ c := (nI_leI (a := 128) (b := c) (by omega) (by omega)).mp h24
      refine j_iload_n E 30 dX1_shortestLength_29 0 rfl rfl rfl ?_
      refine j_sipush E (2048) 33 dX1_shortestLength_30 (by decide) rfl ?_
      refine j_icmp_ge E 38 36 dX1_shortestLength_33 (by decide) rfl (fun h33 => ?_) (fun h33 => ?_)
      · have q33 : 2048 ≤ c := (nI_leI (a := 2048) (b := c) (by omega) (by omega)).mp h33
        refine j_iload_n E 39 dX1_shortestLength_38 0 rfl rfl rfl ?_
        refine j_ldcI E _ 41 dX1_shortestLength_39 kc_X1_30 rfl ?_
        refine j_icmp_ge E 48 44 dX1_shortestLength_41 (by decide) rfl (fun h41 => ?_) (fun h41 => ?_)
        · have q41 : 65536 ≤ c := (nI_leI (a := 65536) (b := c) (by omega) (by omega)).mp h41
          have e : chS c = 4 := by unfold chS; repeat' (first | omega | split)
          refine j_iconst E (4) 49 dX1_shortestLength_48 (by decide) rfl ?_
          exact j_iret E B rfl 0 0 dX1_shortestLength_49 (by repeat (first | with_reducible exact pick_0 | with_reducible apply pick_s | exact sel_0 | apply sel_s)) ⟨by rw [e]; rfl, rfl, rfl, rfl⟩ (by omega) (by omega) (by omega) (by omega)
        · have q41 : ¬ 65536 ≤ c := mt (nI_leI (a := 65536) (b := c) (by omega) (by omega)).mpr h41
          have e : chS c = 3 := by unfold chS; repeat' (first | omega | split)
          refine j_iconst E (3) 45 dX1_shortestLength_44 (by decide) rfl ?_
          refine j_goto E 49 dX1_shortestLength_45 (by decide) ?_
          exact j_iret E B rfl 0 0 dX1_shortestLength_49 (by repeat (first | with_reducible exact pick_0 | with_reducible apply pick_s | exact sel_0 | apply sel_s)) ⟨by rw [e]; rfl, rfl, rfl, rfl⟩ (by omega) (by omega) (by omega) (by omega)
      · have q33 : ¬ 2048 ≤ c := mt (nI_leI (a := 2048) (b := c) (by omega) (by omega)).mpr h33
        have e : chS c = 2 := by unfold chS; repeat' (first | omega | split)
        refine j_iconst E (2) 37 dX1_shortestLength_36 (by decide) rfl ?_
        exact j_iret E B rfl 0 0 dX1_shortestLength_37 (by repeat (first | with_reducible exact pick_0 | with_reducible apply pick_s | exact sel_0 | apply sel_s)) ⟨by rw [e]; rfl, rfl, rfl, rfl⟩ (by omega) (by omega) (by omega) (by omega)
    · have q24 : ¬ 128 ≤ c := mt (nI_leI (a := 128) (b := c) (by omega) (by omega)).mpr h24
      have e : chS c = 1 := by unfold chS; repeat' (first | omega | split)
      refine j_iconst E (1) 28 dX1_shortestLength_27 (by decide) rfl ?_
      exact j_iret E B rfl 0 0 dX1_shortestLength_28 (by repeat (first | with_reducible exact pick_0 | with_reducible apply pick_s | exact sel_0 | apply sel_s)) ⟨by rw [e]; rfl, rfl, rfl, rfl⟩ (by omega) (by omega) (by omega) (by omega)
  have bad : chS c = 0 → J X 1 [F] 0 0 18 [some (.int (nI c))] [] := by
    intro e
    refine j_iconst E (0) 19 dX1_shortestLength_18 (by decide) rfl ?_
    exact j_iret E B rfl 0 0 dX1_shortestLength_19 (by repeat (first | with_reducible exact pick_0 | with_reducible apply pick_s | exact sel_0 | apply sel_s)) ⟨by rw [e]; rfl, rfl, rfl, rfl⟩ (by omega) (by omega) (by omega) (by omega)
  refine j_iload_n E 1 dX1_shortestLength_0 0 rfl rfl rfl ?_
  refine j_ldcI E _ 3 dX1_shortestLength_1 kc_X1_27 rfl ?_
  refine j_icmp_gt E 18 6 dX1_shortestLength_3 (by decide) rfl (fun h3 => ?_) (fun h3 => ?_)
  · have q3 : 1114111 < c := (nI_ltI (a := 1114111) (b := c) (by omega) (by omega)).mp h3
    exact bad (by unfold chS; rw [if_pos q3])
  · have q3 : ¬ 1114111 < c := mt (nI_ltI (a := 1114111) (b := c) (by omega) (by omega)).mpr h3
    refine j_iload_n E 7 dX1_shortestLength_6 0 rfl rfl rfl ?_
    refine j_ldcI E _ 9 dX1_shortestLength_7 kc_X1_28 rfl ?_
    refine j_icmp_lt E 20 12 dX1_shortestLength_9 (by decide) rfl (fun h9 => ?_) (fun h9 => ?_)
    · have q9 : c < 55296 := (nI_ltI (a := c) (b := 55296) (by omega) (by omega)).mp h9
      exact rest q3 (by omega)
    · have q9 : ¬ c < 55296 := mt (nI_ltI (a := c) (b := 55296) (by omega) (by omega)).mpr h9
      refine j_iload_n E 13 dX1_shortestLength_12 0 rfl rfl rfl ?_
      refine j_ldcI E _ 15 dX1_shortestLength_13 kc_X1_29 rfl ?_
      refine j_icmp_gt E 20 18 dX1_shortestLength_15 (by decide) rfl (fun h15 => ?_) (fun h15 => ?_)
      · have q15 : 57343 < c := (nI_ltI (a := 57343) (b := c) (by omega) (by omega)).mp h15
        exact rest q3 (by omega)
      · have q15 : ¬ 57343 < c := mt (nI_ltI (a := 57343) (b := c) (by omega) (by omega)).mpr h15
        exact bad (by unfold chS; rw [if_neg q3, if_pos (by omega)])

/-! the model: kindOf, width, headOf, isGroup, number, many -/
set_option maxHeartbeats 4000000 in
theorem c_m_kind {g : GT} (hG : GLB g) (d lb : Nat) (hl : lb < 256) : Ctr g mX8_kindOf d 0 0 [.int (nI lb)] [] (fun o dc ds ws' => o = some (.int (kI (kO lb))) ∧ dc = 0 ∧ ds = 0 ∧ ws' = []) noX := by
  refine ctr_intro hG (by decide +kernel) (Nat.le_of_ble_eq_true rfl) ?_
  rintro X F rfl E B hI T
  replace E : JE X RX8 cX8_kindOf 1 d 0 0 := E
  show J X _ [F] 0 0 0 [some (.int (nI lb))] []
  have t80 : 192 ≤ lb → lb < 217 → ¬ (204 ≤ lb ∧ lb ≤ 211) → J X 1 [F] 0 0 80 [some (.int (nI lb))] [] := by
    intro a1 a2 a3
    refine j_iload_n E 81 dX8_kindOf_80 0 rfl rfl rfl ?_
    have e : lb = 192 ∨ lb = 193 ∨ lb = 194 ∨ lb = 195 ∨ lb = 196 ∨ lb = 197 ∨ lb = 198 ∨ lb = 199 ∨ lb = 200 ∨ lb = 201 ∨ lb = 202 ∨ lb = 203 ∨ (212 ≤ lb ∧ lb ≤ 216) := by omega
    rcases e with e | e | e | e | e | e | e | e | e | e | e | e | e
    · subst e
      refine j_tableIn E (off := 63) 144 dX8_kindOf_81 (by decide) (by decide) (by rfl) (by decide) ?_
      rw [show kO 192 = 0 from rfl] at B
      refine j_iconst E (0) 145 dX8_kindOf_144 (by decide) rfl ?_
      exact j_iret E B rfl 0 0 dX8_kindOf_145 (by repeat (first | with_reducible exact pick_0 | with_reducible apply pick_s | exact sel_0 | apply sel_s)) ⟨rfl, rfl, rfl, rfl⟩ (by omega) (by omega) (by omega) (by omega)
    · subst e
      refine j_tableIn E (off := 65) 146 dX8_kindOf_81 (by decide) (by decide) (by rfl) (by decide) ?_
      rw [show kO 193 = 12 from rfl] at B
      refine j_iconst E (-1) 147 dX8_kindOf_146 (by decide) rfl ?_
      exact j_iret E B rfl 0 0 dX8_kindOf_147 (by repeat (first | with_reducible exact pick_0 | with_reducible apply pick_s | exact sel_0 | apply sel_s)) ⟨rfl, rfl, rfl, rfl⟩ (by omega) (by omega) (by omega) (by omega)
    · subst e
      refine j_tableIn E (off := 67) 148 dX8_kindOf_81 (by decide) (by decide) (by rfl) (by decide) ?_
      rw [show kO 194 = 1 from rfl] at B
      refine j_iconst E (1) 149 dX8_kindOf_148 (by decide) rfl ?_
      exact j_iret E B rfl 0 0 dX8_kindOf_149 (by repeat (first | with_reducible exact pick_0 | with_reducible apply pick_s | exact sel_0 | apply sel_s)) ⟨rfl, rfl, rfl, rfl⟩ (by omega) (by omega) (by omega) (by omega)
    · subst e
      refine j_tableIn E (off := 67) 148 dX8_kindOf_81 (by decide) (by decide) (by rfl) (by decide) ?_
      rw [show kO 195 = 1 from rfl] at B
      refine j_iconst E (1) 149 dX8_kindOf_148 (by decide) rfl ?_
      exact j_iret E B rfl 0 0 dX8_kindOf_149 (by repeat (first | with_reducible exact pick_0 | with_reducible apply pick_s | exact sel_0 | apply sel_s)) ⟨rfl, rfl, rfl, rfl⟩ (by omega) (by omega) (by omega) (by omega)
    · subst e
      refine j_tableIn E (off := 69) 150 dX8_kindOf_81 (by decide) (by decide) (by rfl) (by decide) ?_
      rw [show kO 196 = 6 from rfl] at B
      refine j_bipush E (6) 152 dX8_kindOf_150 (by decide) rfl ?_
      exact j_iret E B rfl 0 0 dX8_kindOf_152 (by repeat (first | with_reducible exact pick_0 | with_reducible apply pick_s | exact sel_0 | apply sel_s)) ⟨rfl, rfl, rfl, rfl⟩ (by omega) (by omega) (by omega) (by omega)
    · subst e
      refine j_tableIn E (off := 69) 150 dX8_kindOf_81 (by decide) (by decide) (by rfl) (by decide) ?_
      rw [show kO 197 = 6 from rfl] at B
      refine j_bipush E (6) 152 dX8_kindOf_150 (by decide) rfl ?_
      exact j_iret E B rfl 0 0 dX8_kindOf_152 (by repeat (first | with_reducible exact pick_0 | with_reducible apply pick_s | exact sel_0 | apply sel_s)) ⟨rfl, rfl, rfl, rfl⟩ (by omega) (by omega) (by omega) (by omega)
    · subst e
      refine j_tableIn E (off := 69) 150 dX8_kindOf_81 (by decide) (by decide) (by rfl) (by decide) ?_
      rw [show kO 198 = 6 from rfl] at B
      refine j_bipush E (6) 152 dX8_kindOf_150 (by decide) rfl ?_
      exact j_iret E B rfl 0 0 dX8_kindOf_152 (by repeat (first | with_reducible exact pick_0 | with_reducible apply pick_s | exact sel_0 | apply sel_s)) ⟨rfl, rfl, rfl, rfl⟩ (by omega) (by omega) (by omega) (by omega)
    · subst e
      refine j_tableIn E (off := 76) 157 dX8_kindOf_81 (by decide) (by decide) (by rfl) (by decide) ?_
      rw [show kO 199 = 9 from rfl] at B
      refine j_bipush E (9) 159 dX8_kindOf_157 (by decide) rfl ?_
      exact j_iret E B rfl 0 0 dX8_kindOf_159 (by repeat (first | with_reducible exact pick_0 | with_reducible apply pick_s | exact sel_0 | apply sel_s)) ⟨rfl, rfl, rfl, rfl⟩ (by omega) (by omega) (by omega) (by omega)
    · subst e
      refine j_tableIn E (off := 76) 157 dX8_kindOf_81 (by decide) (by decide) (by rfl) (by decide) ?_
      rw [show kO 200 = 9 from rfl] at B
      refine j_bipush E (9) 159 dX8_kindOf_157 (by decide) rfl ?_
      exact j_iret E B rfl 0 0 dX8_kindOf_159 (by repeat (first | with_reducible exact pick_0 | with_reducible apply pick_s | exact sel_0 | apply sel_s)) ⟨rfl, rfl, rfl, rfl⟩ (by omega) (by omega) (by omega) (by omega)
    · subst e
      refine j_tableIn E (off := 76) 157 dX8_kindOf_81 (by decide) (by decide) (by rfl) (by decide) ?_
      rw [show kO 201 = 9 from rfl] at B
      refine j_bipush E (9) 159 dX8_kindOf_157 (by decide) rfl ?_
      exact j_iret E B rfl 0 0 dX8_kindOf_159 (by repeat (first | with_reducible exact pick_0 | with_reducible apply pick_s | exact sel_0 | apply sel_s)) ⟨rfl, rfl, rfl, rfl⟩ (by omega) (by omega) (by omega) (by omega)
    · subst e
      refine j_tableIn E (off := 72) 153 dX8_kindOf_81 (by decide) (by decide) (by rfl) (by decide) ?_
      rw [show kO 202 = 3 from rfl] at B
      refine j_iconst E (3) 154 dX8_kindOf_153 (by decide) rfl ?_
      exact j_iret E B rfl 0 0 dX8_kindOf_154 (by repeat (first | with_reducible exact pick_0 | with_reducible apply pick_s | exact sel_0 | apply sel_s)) ⟨rfl, rfl, rfl, rfl⟩ (by omega) (by omega) (by omega) (by omega)
    · subst e
      refine j_tableIn E (off := 74) 155 dX8_kindOf_81 (by decide) (by decide) (by rfl) (by decide) ?_
      rw [show kO 203 = 4 from rfl] at B
      refine j_iconst E (4) 156 dX8_kindOf_155 (by decide) rfl ?_
      exact j_iret E B rfl 0 0 dX8_kindOf_156 (by repeat (first | with_reducible exact pick_0 | with_reducible apply pick_s | exact sel_0 | apply sel_s)) ⟨rfl, rfl, rfl, rfl⟩ (by omega) (by omega) (by omega) (by omega)
    · refine j_tableOut E 157 dX8_kindOf_81 (Or.inr (by rw [nI_toInt (by omega)]; omega)) (by decide) ?_
      rw [show kO lb = 9 from kO_9 ⟨lb, hl⟩ (by dsimp only; omega)] at B
      refine j_bipush E (9) 159 dX8_kindOf_157 (by decide) rfl ?_
      exact j_iret E B rfl 0 0 dX8_kindOf_159 (by repeat (first | with_reducible exact pick_0 | with_reducible apply pick_s | exact sel_0 | apply sel_s)) ⟨rfl, rfl, rfl, rfl⟩ (by omega) (by omega) (by omega) (by omega)
  have t30 : 128 ≤ lb → lb < 224 → ¬ (204 ≤ lb ∧ lb ≤ 211) → J X 1 [F] 0 0 30 [some (.int (nI lb))] [] := by
    intro a1 a2 a3
    refine j_iload_n E 31 dX8_kindOf_30 0 rfl rfl rfl ?_
    refine j_sipush E (144) 34 dX8_kindOf_31 (by decide) rfl ?_
    refine j_icmp_lt E 44 37 dX8_kindOf_34 (by decide) rfl (fun h34 => ?_) (fun h34 => ?_)
    · have q34 : lb < 144 := (nI_ltI (a := lb) (b := 144) (by omega) (by omega)).mp h34
      rw [show kO lb = 8 from kO_8 ⟨lb, hl⟩ (by dsimp only; omega)] at B
      refine j_bipush E (8) 46 dX8_kindOf_44 (by decide) rfl ?_
      exact j_iret E B rfl 0 0 dX8_kindOf_46 (by repeat (first | with_reducible exact pick_0 | with_reducible apply pick_s | exact sel_0 | apply sel_s)) ⟨rfl, rfl, rfl, rfl⟩ (by omega) (by omega) (by omega) (by omega)
    · have q34 : ¬ lb < 144 := mt (nI_ltI (a := lb) (b := 144) (by omega) (by omega)).mpr h34
      have t47 : lb < 222 → J X 1 [F] 0 0 47 [some (.int (nI lb))] [] := by
        intro a4
        refine j_iload_n E 48 dX8_kindOf_47 0 rfl rfl rfl ?_
        refine j_sipush E (160) 51 dX8_kindOf_48 (by decide) rfl ?_
        refine j_icmp_lt E 61 54 dX8_kindOf_51 (by decide) rfl (fun h51 => ?_) (fun h51 => ?_)
        · have q51 : lb < 160 := (nI_ltI (a := lb) (b := 160) (by omega) (by omega)).mp h51
          rw [show kO lb = 7 from kO_7 ⟨lb, hl⟩ (by dsimp only; omega)] at B
          refine j_bipush E (7) 63 dX8_kindOf_61 (by decide) rfl ?_
          exact j_iret E B rfl 0 0 dX8_kindOf_63 (by repeat (first | with_reducible exact pick_0 | with_reducible apply pick_s | exact sel_0 | apply sel_s)) ⟨rfl, rfl, rfl, rfl⟩ (by omega) (by omega) (by omega) (by omega)
        · have q51 : ¬ lb < 160 := mt (nI_ltI (a := lb) (b := 160) (by omega) (by omega)).mpr h51
          have t64 : lb < 220 → J X 1 [F] 0 0 64 [some (.int (nI lb))] [] := by
            intro a5
            refine j_iload_n E 65 dX8_kindOf_64 0 rfl rfl rfl ?_
            refine j_sipush E (192) 68 dX8_kindOf_65 (by decide) rfl ?_
            refine j_icmp_lt E 78 71 dX8_kindOf_68 (by decide) rfl (fun h68 => ?_) (fun h68 => ?_)
            · have q68 : lb < 192 := (nI_ltI (a := lb) (b := 192) (by omega) (by omega)).mp h68
              rw [show kO lb = 5 from kO_5 ⟨lb, hl⟩ (by dsimp only; omega)] at B
              refine j_iconst E (5) 79 dX8_kindOf_78 (by decide) rfl ?_
              exact j_iret E B rfl 0 0 dX8_kindOf_79 (by repeat (first | with_reducible exact pick_0 | with_reducible apply pick_s | exact sel_0 | apply sel_s)) ⟨rfl, rfl, rfl, rfl⟩ (by omega) (by omega) (by omega) (by omega)
            · have q68 : ¬ lb < 192 := mt (nI_ltI (a := lb) (b := 192) (by omega) (by omega)).mpr h68
              refine j_iload_n E 72 dX8_kindOf_71 0 rfl rfl rfl ?_
              refine j_sipush E (217) 75 dX8_kindOf_72 (by decide) rfl ?_
              refine j_icmp_lt E 80 78 dX8_kindOf_75 (by decide) rfl (fun h75 => ?_) (fun h75 => ?_)
              · have q75 : lb < 217 := (nI_ltI (a := lb) (b := 217) (by omega) (by omega)).mp h75
                exact t80 (by omega) (by omega) a3
              · have q75 : ¬ lb < 217 := mt (nI_ltI (a := lb) (b := 217) (by omega) (by omega)).mpr h75
                rw [show kO lb = 5 from kO_5 ⟨lb, hl⟩ (by dsimp only; omega)] at B
                refine j_iconst E (5) 79 dX8_kindOf_78 (by decide) rfl ?_
                exact j_iret E B rfl 0 0 dX8_kindOf_79 (by repeat (first | with_reducible exact pick_0 | with_reducible apply pick_s | exact sel_0 | apply sel_s)) ⟨rfl, rfl, rfl, rfl⟩ (by omega) (by omega) (by omega) (by omega)
          refine j_iload_n E 55 dX8_kindOf_54 0 rfl rfl rfl ?_
          refine j_sipush E (220) 58 dX8_kindOf_55 (by decide) rfl ?_
          refine j_icmp_lt E 64 61 dX8_kindOf_58 (by decide) rfl (fun h58 => ?_) (fun h58 => ?_)
          · have q58 : lb < 220 := (nI_ltI (a := lb) (b := 220) (by omega) (by omega)).mp h58
            exact t64 q58
          · have q58 : ¬ lb < 220 := mt (nI_ltI (a := lb) (b := 220) (by omega) (by omega)).mpr h58
            rw [show kO lb = 7 from kO_7 ⟨lb, hl⟩ (by dsimp only; omega)] at B
            refine j_bipush E (7) 63 dX8_kindOf_61 (by decide) rfl ?_
            exact j_iret E B rfl 0 0 dX8_kindOf_63 (by repeat (first | with_reducible exact pick_0 | with_reducible apply pick_s | exact sel_0 | apply sel_s)) ⟨rfl, rfl, rfl, rfl⟩ (by omega) (by omega) (by omega) (by omega)
      refine j_iload_n E 38 dX8_kindOf_37 0 rfl rfl rfl ?_
      refine j_sipush E (222) 41 dX8_kindOf_38 (by decide) rfl ?_
      refine j_icmp_lt E 47 44 dX8_kindOf_41 (by decide) rfl (fun h41 => ?_) (fun h41 => ?_)
      · have q41 : lb < 222 := (nI_ltI (a := lb) (b := 222) (by omega) (by omega)).mp h41
        exact t47 q41
      · have q41 : ¬ lb < 222 := mt (nI_ltI (a := lb) (b := 222) (by omega) (by omega)).mpr h41
        rw [show kO lb = 8 from kO_8 ⟨lb, hl⟩ (by dsimp only; omega)] at B
        refine j_bipush E (8) 46 dX8_kindOf_44 (by decide) rfl ?_
        exact j_iret E B rfl 0 0 dX8_kindOf_46 (by repeat (first | with_reducible exact pick_0 | with_reducible apply pick_s | exact sel_0 | apply sel_s)) ⟨rfl, rfl, rfl, rfl⟩ (by omega) (by omega) (by omega) (by omega)
  refine j_iload_n E 1 dX8_kindOf_0 0 rfl rfl rfl ?_
  refine j_sipush E (128) 4 dX8_kindOf_1 (by decide) rfl ?_
  refine j_icmp_lt E 28 7 dX8_kindOf_4 (by decide) rfl (fun h4 => ?_) (fun h4 => ?_)
  · have q4 : lb < 128 := (nI_ltI (a := lb) (b := 128) (by omega) (by omega)).mp h4
    rw [show kO lb = 2 from kO_2 ⟨lb, hl⟩ (by dsimp only; omega)] at B
    refine j_iconst E (2) 29 dX8_kindOf_28 (by decide) rfl ?_
    exact j_iret E B rfl 0 0 dX8_kindOf_29 (by repeat (first | with_reducible exact pick_0 | with_reducible apply pick_s | exact sel_0 | apply sel_s)) ⟨rfl, rfl, rfl, rfl⟩ (by omega) (by omega) (by omega) (by omega)
  · have q4 : ¬ lb < 128 := mt (nI_ltI (a := lb) (b := 128) (by omega) (by omega)).mpr h4
    refine j_iload_n E 8 dX8_kindOf_7 0 rfl rfl rfl ?_
    refine j_sipush E (224) 11 dX8_kindOf_8 (by decide) rfl ?_
    refine j_icmp_ge E 28 14 dX8_kindOf_11 (by decide) rfl (fun h11 => ?_) (fun h11 => ?_)
    · have q11 : 224 ≤ lb := (nI_leI (a := 224) (b := lb) (by omega) (by omega)).mp h11
      rw [show kO lb = 2 from kO_2 ⟨lb, hl⟩ (by dsimp only; omega)] at B
      refine j_iconst E (2) 29 dX8_kindOf_28 (by decide) rfl ?_
      exact j_iret E B rfl 0 0 dX8_kindOf_29 (by repeat (first | with_reducible exact pick_0 | with_reducible apply pick_s | exact sel_0 | apply sel_s)) ⟨rfl, rfl, rfl, rfl⟩ (by omega) (by omega) (by omega) (by omega)
    · have q11 : ¬ 224 ≤ lb := mt (nI_leI (a := 224) (b := lb) (by omega) (by omega)).mpr h11
      refine j_iload_n E 15 dX8_kindOf_14 0 rfl rfl rfl ?_
      refine j_sipush E (204) 18 dX8_kindOf_15 (by decide) rfl ?_
      refine j_icmp_lt E 30 21 dX8_kindOf_18 (by decide) rfl (fun h18 => ?_) (fun h18 => ?_)
      · have q18 : lb < 204 := (nI_ltI (a := lb) (b := 204) (by omega) (by omega)).mp h18
        exact t30 (by omega) (by omega) (by omega)
      · have q18 : ¬ lb < 204 := mt (nI_ltI (a := lb) (b := 204) (by omega) (by omega)).mpr h18
        refine j_iload_n E 22 dX8_kindOf_21 0 rfl rfl rfl ?_
        refine j_sipush E (211) 25 dX8_kindOf_22 (by decide) rfl ?_
        refine j_icmp_gt E 30 28 dX8_kindOf_25 (by decide) rfl (fun h25 => ?_) (fun h25 => ?_)
        · have q25 : 211 < lb := (nI_ltI (a := 211) (b := lb) (by omega) (by omega)).mp h25
          exact t30 (by omega) (by omega) (by omega)
        · have q25 : ¬ 211 < lb := mt (nI_ltI (a := 211) (b := lb) (by omega) (by omega)).mpr h25
          rw [show kO lb = 2 from kO_2 ⟨lb, hl⟩ (by dsimp only; omega)] at B
          refine j_iconst E (2) 29 dX8_kindOf_28 (by decide) rfl ?_
          exact j_iret E B rfl 0 0 dX8_kindOf_29 (by repeat (first | with_reducible exact pick_0 | with_reducible apply pick_s | exact sel_0 | apply sel_s)) ⟨rfl, rfl, rfl, rfl⟩ (by omega) (by omega) (by omega) (by omega)
set_option maxHeartbeats 4000000 in
theorem c_m_width {g : GT} (hG : GLB g) (d lb : Nat) (hl : lb < 256) : Ctr g mX8_width d 0 0 [.int (nI lb)] [] (fun o dc ds ws' => o = some (.int (nI (wO lb))) ∧ dc = 0 ∧ ds = 0 ∧ ws' = []) noX := by
  refine ctr_intro hG (by decide +kernel) (Nat.le_of_ble_eq_true rfl) ?_
  rintro X F rfl E B hI T
  replace E : JE X RX8 cX8_width 1 d 0 0 := E
  show J X _ [F] 0 0 0 [some (.int (nI lb))] []
  refine j_iload_n E 1 dX8_width_0 0 rfl rfl rfl ?_
  by_cases q : 196 ≤ lb ∧ lb ≤ 223
  · have e := wO_in ⟨lb - 196, by omega⟩
    dsimp only at e
    rw [show 196 + (lb - 196) = lb by omega] at e
    have ei : ((nI lb).toInt - 196).toNat = lb - 196 := by rw [nI_toInt (by omega)]; omega
    have h1 : ¬ (nI lb).toInt < 196 := by rw [nI_toInt (by omega)]; omega
    have h2 : ¬ 223 < (nI lb).toInt := by rw [nI_toInt (by omega)]; omega
    rw [← ei] at e
    rcases wO_vals ⟨lb, hl⟩ with w | w | w | w | w
    · dsimp only at w
      rw [w] at e B
      refine j_tableIn E (off := 136) 137 dX8_width_1 h1 h2 e (by decide) ?_
      refine j_iconst E (0) 138 dX8_width_137 (by decide) rfl ?_
      exact j_iret E B rfl 0 0 dX8_width_138 (by repeat (first | with_reducible exact pick_0 | with_reducible apply pick_s | exact sel_0 | apply sel_s)) ⟨rfl, rfl, rfl, rfl⟩ (by omega) (by omega) (by omega) (by omega)
    · dsimp only at w
      rw [w] at e B
      refine j_tableIn E (off := 127) 128 dX8_width_1 h1 h2 e (by decide) ?_
      refine j_iconst E (1) 129 dX8_width_128 (by decide) rfl ?_
      exact j_iret E B rfl 0 0 dX8_width_129 (by repeat (first | with_reducible exact pick_0 | with_reducible apply pick_s | exact sel_0 | apply sel_s)) ⟨rfl, rfl, rfl, rfl⟩ (by omega) (by omega) (by omega) (by omega)
    · dsimp only at w
      rw [w] at e B
      refine j_tableIn E (off := 129) 130 dX8_width_1 h1 h2 e (by decide) ?_
      refine j_iconst E (2) 131 dX8_width_130 (by decide) rfl ?_
      exact j_iret E B rfl 0 0 dX8_width_131 (by repeat (first | with_reducible exact pick_0 | with_reducible apply pick_s | exact sel_0 | apply sel_s)) ⟨rfl, rfl, rfl, rfl⟩ (by omega) (by omega) (by omega) (by omega)
    · dsimp only at w
      rw [w] at e B
      refine j_tableIn E (off := 131) 132 dX8_width_1 h1 h2 e (by decide) ?_
      refine j_iconst E (4) 133 dX8_width_132 (by decide) rfl ?_
      exact j_iret E B rfl 0 0 dX8_width_133 (by repeat (first | with_reducible exact pick_0 | with_reducible apply pick_s | exact sel_0 | apply sel_s)) ⟨rfl, rfl, rfl, rfl⟩ (by omega) (by omega) (by omega) (by omega)
    · dsimp only at w
      rw [w] at e B
      refine j_tableIn E (off := 133) 134 dX8_width_1 h1 h2 e (by decide) ?_
      refine j_bipush E (8) 136 dX8_width_134 (by decide) rfl ?_
      exact j_iret E B rfl 0 0 dX8_width_136 (by repeat (first | with_reducible exact pick_0 | with_reducible apply pick_s | exact sel_0 | apply sel_s)) ⟨rfl, rfl, rfl, rfl⟩ (by omega) (by omega) (by omega) (by omega)
  · have w : wO lb = 0 := if_neg q
    rw [w] at B
    refine j_tableOut E 137 dX8_width_1 (by rw [nI_toInt (by omega)]; omega) (by decide) ?_
    refine j_iconst E (0) 138 dX8_width_137 (by decide) rfl ?_
    exact j_iret E B rfl 0 0 dX8_width_138 (by repeat (first | with_reducible exact pick_0 | with_reducible apply pick_s | exact sel_0 | apply sel_s)) ⟨rfl, rfl, rfl, rfl⟩ (by omega) (by omega) (by omega) (by omega)
set_option maxHeartbeats 4000000 in
theorem c_m_head {g : GT} (hG : GLB g) (d lb : Nat) (hd : 2 ≤ d) (hl : lb < 256) : Ctr g mX8_headOf d 0 0 [.int (nI lb)] [] (fun o dc ds ws' => o = some (.int (nI (hO lb))) ∧ dc = 0 ∧ ds = 0 ∧ ws' = []) noX := by
  refine ctr_intro hG (by decide +kernel) (Nat.le_of_ble_eq_true rfl) ?_
  rintro X F rfl E B hI T
  replace E : JE X RX8 cX8_headOf 1 d 0 0 := E
  show J X _ [F] 0 0 0 [some (.int (nI lb))] []
  have hk := kOle hl
  refine j_iconst E (1) 1 dX8_headOf_0 (by decide) rfl ?_
  refine j_iload_n E 2 dX8_headOf_1 0 rfl rfl rfl ?_
  refine j_callS E (c_m_width hG (d-1) lb hl) 5 dX8_headOf_2 iv_X8_81 rfl rfl (by repeat (first | with_reducible exact pick_0 | with_reducible apply pick_s | exact sel_0 | apply sel_s)) (by omega) (by omega) (by omega) (Nat.le_of_ble_eq_true rfl) rfl ?_
  rintro _ _ _ _ ⟨rfl, rfl, rfl, rfl⟩
  dsimp only [List.cons_append, List.nil_append, Option.toList]
  refine j_iadd E 6 dX8_headOf_5 rfl ?_
  refine j_eqi (nI_add 1 (wO lb)) ?_
  refine j_iload_n E 7 dX8_headOf_6 0 rfl rfl rfl ?_
  refine j_callS E (c_m_kind hG (d-1) lb hl) 10 dX8_headOf_7 iv_X8_77 rfl rfl (by repeat (first | with_reducible exact pick_0 | with_reducible apply pick_s | exact sel_0 | apply sel_s)) (by omega) (by omega) (by omega) (Nat.le_of_ble_eq_true rfl) rfl ?_
  rintro _ _ _ _ ⟨rfl, rfl, rfl, rfl⟩
  dsimp only [List.cons_append, List.nil_append, Option.toList]
  refine j_bipush E (9) 12 dX8_headOf_10 (by decide) rfl ?_
  refine j_icmp_ne E 19 15 dX8_headOf_12 (by decide) rfl (fun h12 => ?_) (fun h12 => ?_)
  · have q : ¬ kO lb = 9 := fun q => h12 ((kI_eq hk (b := 9) (by decide)).mpr q)
    refine j_iconst E (0) 20 dX8_headOf_19 (by decide) rfl ?_
    refine j_iadd E 21 dX8_headOf_20 rfl ?_
    refine j_eqi (y := nI (hO lb)) (by rw [hO, if_neg q]; exact nI_add _ 0) ?_
    exact j_iret E B rfl 0 0 dX8_headOf_21 (by repeat (first | with_reducible exact pick_0 | with_reducible apply pick_s | exact sel_0 | apply sel_s)) ⟨rfl, rfl, rfl, rfl⟩ (by omega) (by omega) (by omega) (by omega)
  · have q : kO lb = 9 := (kI_eq hk (b := 9) (by decide)).mp h12
    refine j_iconst E (1) 16 dX8_headOf_15 (by decide) rfl ?_
    refine j_goto E 20 dX8_headOf_16 (by decide) ?_
    refine j_iadd E 21 dX8_headOf_20 rfl ?_
    refine j_eqi (y := nI (hO lb)) (by rw [hO, if_pos q]; exact nI_add _ 1) ?_
    exact j_iret E B rfl 0 0 dX8_headOf_21 (by repeat (first | with_reducible exact pick_0 | with_reducible apply pick_s | exact sel_0 | apply sel_s)) ⟨rfl, rfl, rfl, rfl⟩ (by omega) (by omega) (by omega) (by omega)
set_option maxHeartbeats 4000000 in
theorem c_m_isGroup {g : GT} (hG : GLB g) (d : Nat) (kd : Int32) : Ctr g mX8_isGroup d 0 0 [.int kd] [] (fun o dc ds ws' => o = some (.int (if kd = 7 ∨ kd = 8 then 1 else 0)) ∧ dc = 0 ∧ ds = 0 ∧ ws' = []) noX := by
  refine ctr_intro hG (by decide +kernel) (Nat.le_of_ble_eq_true rfl) ?_
  rintro X F rfl E B hI T
  replace E : JE X RX8 cX8_isGroup 1 d 0 0 := E
  show J X _ [F] 0 0 0 [some (.int kd)] []
  refine j_iload_n E 1 dX8_isGroup_0 0 rfl rfl rfl ?_
  refine j_bipush E (7) 3 dX8_isGroup_1 (by decide) rfl ?_
  refine j_icmp_eq E 12 6 dX8_isGroup_3 (by decide) rfl (fun h3 => ?_) (fun h3 => ?_)
  · rw [if_pos (Or.inl h3)] at B
    refine j_iconst E (1) 13 dX8_isGroup_12 (by decide) rfl ?_
    refine j_goto E 17 dX8_isGroup_13 (by decide) ?_
    exact j_zret E B rfl (by first | exact Or.inl rfl | exact Or.inr rfl) 0 0 dX8_isGroup_17 (by repeat (first | with_reducible exact pick_0 | with_reducible apply pick_s | exact sel_0 | apply sel_s)) ⟨rfl, rfl, rfl, rfl⟩ (by omega) (by omega) (by omega) (by omega)
  · refine j_iload_n E 7 dX8_isGroup_6 0 rfl rfl rfl ?_
    refine j_bipush E (8) 9 dX8_isGroup_7 (by decide) rfl ?_
    refine j_icmp_ne E 16 12 dX8_isGroup_9 (by decide) rfl (fun h9 => ?_) (fun h9 => ?_)
    · rw [if_neg (fun q => q.elim h3 h9)] at B
      refine j_iconst E (0) 17 dX8_isGroup_16 (by decide) rfl ?_
      exact j_zret E B rfl (by first | exact Or.inl rfl | exact Or.inr rfl) 0 0 dX8_isGroup_17 (by repeat (first | with_reducible exact pick_0 | with_reducible apply pick_s | exact sel_0 | apply sel_s)) ⟨rfl, rfl, rfl, rfl⟩ (by omega) (by omega) (by omega) (by omega)
    · rw [if_pos (Or.inr h9)] at B
      refine j_iconst E (1) 13 dX8_isGroup_12 (by decide) rfl ?_
      refine j_goto E 17 dX8_isGroup_13 (by decide) ?_
      exact j_zret E B rfl (by first | exact Or.inl rfl | exact Or.inr rfl) 0 0 dX8_isGroup_17 (by repeat (first | with_reducible exact pick_0 | with_reducible apply pick_s | exact sel_0 | apply sel_s)) ⟨rfl, rfl, rfl, rfl⟩ (by omega) (by omega) (by omega) (by omega)
set_option maxHeartbeats 4000000 in
theorem c_m_number {g : GT} (hG : GLB g) (d m : Nat) (r : Nat → Nat) {th ts os vc lc bc pkd pkg cm fu op fc fp at_ bgc got : Int32} {pr : Int64} (a i n : Nat) (bs : List UInt8) (hi : i + n ≤ bs.length) : CtrV g mX8_number 7 d 0 0 m [.ref a, .int (nI i), .int (nI n)] [MF m r th ts os vc lc bc pkd pkg cm fu op fc fp at_ bgc got pr, BA g a bs] (fun o dc ds ws' => o = some (.long (lN (beN bs i n))) ∧ dc = 0 ∧ ds = 0 ∧ ws' = [MF m r th ts os vc lc bc pkd pkg cm fu op fc fp at_ bgc got pr, BA g a bs]) noX := by
  refine ⟨rcv_pt, ?_⟩
  refine ctr_intro hG (by decide +kernel) (Nat.le_of_ble_eq_true rfl) ?_
  rintro X F rfl E B hI T
  replace E : JE X RX8 cX8_number 7 d 0 0 := E
  show J X _ [MF m r th ts os vc lc bc pkd pkg cm fu op fc fp at_ bgc got pr, BA X.1 a bs, F] 0 0 0 [some (.ref m), some (.ref a), some (.int (nI i)), some (.int (nI n)), none, none, none] []
  refine j_know (pick_know (P := BA X.1 a bs) (by repeat (first | with_reducible exact pick_0 | with_reducible apply pick_s)) ba_know) (fun hbl => ?_)
  refine j_lconst E 0 1 dX8_number_0 rfl rfl ?_
  refine j_lstore E 3 dX8_number_1 (Nat.le_of_ble_eq_true rfl) rfl rfl ?_
  dsimp only [List.set]
  refine j_iconst E (0) 4 dX8_number_3 (by decide) rfl ?_
  refine j_istore E 6 dX8_number_4 (Nat.le_of_ble_eq_true rfl) rfl rfl ?_
  dsimp only [List.set]
  have loop : ∀ (q j : Nat), j + q = n → J X 7 [MF m r th ts os vc lc bc pkd pkg cm fu op fc fp at_ bgc got pr, BA X.1 a bs, F] 0 0 6 [some (.ref m), some (.ref a), some (.int (nI i)), some (.int (nI n)), some (.long (lN (beN bs i j))), none, some (.int (nI j))] [] := by
    intro q
    induction q with
    | zero =>
      intro j hj
      refine j_iload E 8 dX8_number_6 rfl rfl ?_
      refine j_iload_n E 9 dX8_number_8 3 rfl rfl rfl ?_
      refine j_icmp_ge E 38 12 dX8_number_9 (by decide) rfl (fun h9 => ?_) (fun h9 => ?_)
      · refine j_lload E 40 dX8_number_38 rfl rfl ?_
        rw [show j = n by omega]
        exact j_lret E B rfl 0 0 dX8_number_40 (by repeat (first | with_reducible exact pick_0 | with_reducible apply pick_s | exact sel_0 | apply sel_s)) ⟨rfl, rfl, rfl, rfl⟩ (by omega) (by omega) (by omega) (by omega)
      · exact absurd (nI_le (by omega) (by omega)) h9
    | succ q ih =>
      intro j hj
      refine j_iload E 8 dX8_number_6 rfl rfl ?_
      refine j_iload_n E 9 dX8_number_8 3 rfl rfl rfl ?_
      refine j_icmp_ge E 38 12 dX8_number_9 (by decide) rfl (fun h9 => ?_) (fun h9 => ?_)
      · exact absurd h9 (nI_ge (by omega) (by omega))
      · refine j_lload E 14 dX8_number_12 rfl rfl ?_
        refine j_ldcL E _ 17 dX8_number_14 kc_X8_75 rfl ?_
        refine j_lmul E 18 dX8_number_17 rfl ?_
        refine j_eql (lN_mul (beN bs i j) 256) ?_
        refine j_aload_n E 19 dX8_number_18 1 rfl rfl rfl ?_
        refine j_iload_n E 20 dX8_number_19 2 rfl rfl rfl ?_
        refine j_iload E 22 dX8_number_20 rfl rfl ?_
        refine j_iadd E 23 dX8_number_22 rfl ?_
        refine j_eqi (nI_add i j) ?_
        refine j_baldBA E 24 dX8_number_23 (by repeat (first | with_reducible exact pick_0 | with_reducible apply pick_s)) (by omega) rfl ?_
        refine j_sipush E (255) 27 dX8_number_24 (by decide) rfl ?_
        refine j_iand E 28 dX8_number_27 rfl ?_
        refine j_eqi (by8_bN bs (i + j)) ?_
        refine j_i2l E 29 dX8_number_28 rfl ?_
        have hb := bN_lt bs (i + j)
        rw [nI_l (by omega)]
        refine j_ladd E 30 dX8_number_29 rfl ?_
        refine j_eql (lN_add _ _) ?_
        refine j_lstore E 32 dX8_number_30 (Nat.le_of_ble_eq_true rfl) rfl rfl ?_
        dsimp only [List.set]
        refine j_iinc E _ 35 dX8_number_32 rfl rfl (Nat.le_of_ble_eq_true rfl) rfl rfl ?_
        dsimp only [List.set]
        refine j_goto E 6 dX8_number_35 (by decide) ?_
        have hz := ih (j + 1) (by omega)
        rw [← nI_1] at hz
        exact j_sel (by repeat (first | with_reducible exact pick_0 | with_reducible apply pick_s | exact sel_0 | apply sel_s)) hz
  exact loop n 0 (Nat.zero_add n)
set_option maxHeartbeats 4000000 in
theorem c_m_many {g : GT} (hG : GLB g) (d m : Nat) (r : Nat → Nat) {th ts os vc lc bc pkd pkg cm fu op fc fp at_ bgc got : Int32} {pr : Int64} (i : Nat) (bs : List UInt8) (hd : 3 ≤ d) (hi : i + (1 + wO (bN bs i)) ≤ bs.length) : CtrV g mX8_many 7 d 0 0 m [.int (nI (bN bs i)), .int (nI i)] [MF m r th ts os vc lc bc pkd pkg cm fu op fc fp at_ bgc got pr, BA g (r 1) bs] (fun o dc ds ws' => o = some (.long (lN (mO bs i))) ∧ dc = 0 ∧ ds = 0 ∧ ws' = [MF m r th ts os vc lc bc pkd pkg cm fu op fc fp at_ bgc got pr, BA g (r 1) bs]) noX := by
  refine ⟨rcv_pt, ?_⟩
  have hl := bN_lt bs i
  obtain ⟨lb, hlb⟩ : ∃ lb, lb = bN bs i := ⟨_, rfl⟩
  have hm : mO bs i = if lb < 128 ∨ 224 ≤ lb then 0 else if lb < 160 then lb % 16 else if lb < 192 then lb % 32 else if 212 ≤ lb ∧ lb ≤ 216 then 2 ^ (lb - 212) else if kO lb < 5 ∨ kO lb = 12 then 0 else beN bs (i + 1) (wO lb) := by rw [mO, ← hlb]
  have hk := kOle hl
  rw [← hlb] at hl hi hk ⊢
  refine ctr_intro hG (by decide +kernel) (Nat.le_of_ble_eq_true rfl) ?_
  rintro X F rfl E B hI T
  replace E : JE X RX8 cX8_many 3 d 0 0 := E
  show J X _ [MF m r th ts os vc lc bc pkd pkg cm fu op fc fp at_ bgc got pr, BA X.1 (r 1) bs, F] 0 0 0 [some (.ref m), some (.int (nI lb)), some (.int (nI i))] []
  refine j_know (pick_know (P := BA X.1 (r 1) bs) (by repeat (first | with_reducible exact pick_0 | with_reducible apply pick_s)) ba_know) (fun hbl => ?_)
  have t64 : ¬ (lb < 128 ∨ 224 ≤ lb) → ¬ lb < 160 → ¬ lb < 192 → ¬ (212 ≤ lb ∧ lb ≤ 216) → J X 3 [MF m r th ts os vc lc bc pkd pkg cm fu op fc fp at_ bgc got pr, BA X.1 (r 1) bs, F] 0 0 64 [some (.ref m), some (.int (nI lb)), some (.int (nI i))] [] := by
    intro a1 a2 a3 a4
    rw [if_neg a1, if_neg a2, if_neg a3, if_neg a4] at hm
    refine j_iload_n E 65 dX8_many_64 1 rfl rfl rfl ?_
    refine j_callS E (c_m_kind hG (d-1) lb hl) 68 dX8_many_65 iv_X8_77 rfl rfl (by repeat (first | with_reducible exact pick_0 | with_reducible apply pick_s | exact sel_0 | apply sel_s)) (by omega) (by omega) (by omega) (Nat.le_of_ble_eq_true rfl) rfl ?_
    rintro _ _ _ _ ⟨rfl, rfl, rfl, rfl⟩
    dsimp only [List.cons_append, List.nil_append, Option.toList]
    by_cases q : kO lb < 5 ∨ kO lb = 12
    · rw [if_pos q] at hm
      rw [hm] at B
      have h5 : ¬ (5 : Int32) ≤ kI (kO lb) := by
        rcases q with q | q
        · rw [kI_nI (by omega)]
          exact nI_ge (b := 5) q (by decide)
        · rw [q]
          decide
      refine j_iconst E (5) 69 dX8_many_68 (by decide) rfl ?_
      refine j_icmp_ge E 76 72 dX8_many_69 (by decide) rfl (fun h69 => ?_) (fun h69 => ?_)
      · exact absurd h69 h5
      · refine j_lconst E 0 73 dX8_many_72 rfl rfl ?_
        refine j_goto E 91 dX8_many_73 (by decide) ?_
        exact j_lret E B rfl 0 0 dX8_many_91 (by repeat (first | with_reducible exact pick_0 | with_reducible apply pick_s | exact sel_0 | apply sel_s)) ⟨rfl, rfl, rfl, rfl⟩ (by omega) (by omega) (by omega) (by omega)
    · rw [if_neg q] at hm
      rw [hm] at B
      rw [kI_nI (by omega)]
      refine j_iconst E (5) 69 dX8_many_68 (by decide) rfl ?_
      refine j_icmp_ge E 76 72 dX8_many_69 (by decide) rfl (fun h69 => ?_) (fun h69 => ?_)
      · refine j_aload_n E 77 dX8_many_76 0 rfl rfl rfl ?_
        refine j_aload_n E 78 dX8_many_77 0 rfl rfl rfl ?_
        refine j_getf E 81 dX8_many_78 fl_X8_8 (by repeat (first | with_reducible exact pick_0 | with_reducible apply pick_s)) (by rfl) rfl ?_
        refine j_iload_n E 82 dX8_many_81 2 rfl rfl rfl ?_
        refine j_iconst E (1) 83 dX8_many_82 (by decide) rfl ?_
        refine j_iadd E 84 dX8_many_83 rfl ?_
        refine j_eqi (nI_1 i) ?_
        refine j_iload_n E 85 dX8_many_84 1 rfl rfl rfl ?_
        refine j_callS E (c_m_width hG (d-1) lb hl) 88 dX8_many_85 iv_X8_81 rfl rfl (by repeat (first | with_reducible exact pick_0 | with_reducible apply pick_s | exact sel_0 | apply sel_s)) (by omega) (by omega) (by omega) (Nat.le_of_ble_eq_true rfl) rfl ?_
        rintro _ _ _ _ ⟨rfl, rfl, rfl, rfl⟩
        dsimp only [List.cons_append, List.nil_append, Option.toList]
        refine j_callV E (c_m_number hG (d-1) m r (r 1) (i + 1) (wO lb) bs (by omega)) 91 dX8_many_88 _ _ _ iv_X8_84 rfl rfl rfl (by repeat (first | with_reducible exact pick_0 | with_reducible apply pick_s | exact sel_0 | apply sel_s)) (by omega) (by omega) (by omega) (Nat.le_of_ble_eq_true rfl) rfl ?_
        rintro _ _ _ _ ⟨rfl, rfl, rfl, rfl⟩
        dsimp only [List.cons_append, List.nil_append, Option.toList]
        exact j_lret E B rfl 0 0 dX8_many_91 (by repeat (first | with_reducible exact pick_0 | with_reducible apply pick_s | exact sel_0 | apply sel_s)) ⟨rfl, rfl, rfl, rfl⟩ (by omega) (by omega) (by omega) (by omega)
      · exact absurd (nI_le (a := 5) (by omega) (by omega)) h69
  have t16 : ¬ (lb < 128 ∨ 224 ≤ lb) → J X 3 [MF m r th ts os vc lc bc pkd pkg cm fu op fc fp at_ bgc got pr, BA X.1 (r 1) bs, F] 0 0 16 [some (.ref m), some (.int (nI lb)), some (.int (nI i))] [] := by
    intro a1
    refine j_iload_n E 17 dX8_many_16 1 rfl rfl rfl ?_
    refine j_sipush E (160) 20 dX8_many_17 (by decide) rfl ?_
    refine j_icmp_ge E 29 23 dX8_many_20 (by decide) rfl (fun h20 => ?_) (fun h20 => ?_)
    · have q20 : 160 ≤ lb := (nI_leI (a := 160) (b := lb) (by omega) (by omega)).mp h20
      refine j_iload_n E 30 dX8_many_29 1 rfl rfl rfl ?_
      refine j_sipush E (192) 33 dX8_many_30 (by decide) rfl ?_
      refine j_icmp_ge E 42 36 dX8_many_33 (by decide) rfl (fun h33 => ?_) (fun h33 => ?_)
      · have q33 : 192 ≤ lb := (nI_leI (a := 192) (b := lb) (by omega) (by omega)).mp h33
        refine j_iload_n E 43 dX8_many_42 1 rfl rfl rfl ?_
        refine j_sipush E (212) 46 dX8_many_43 (by decide) rfl ?_
        refine j_icmp_lt E 64 49 dX8_many_46 (by decide) rfl (fun h46 => ?_) (fun h46 => ?_)
        · have q46 : lb < 212 := (nI_ltI (a := lb) (b := 212) (by omega) (by omega)).mp h46
          exact t64 a1 (by omega) (by omega) (by omega)
        · have q46 : ¬ lb < 212 := mt (nI_ltI (a := lb) (b := 212) (by omega) (by omega)).mpr h46
          refine j_iload_n E 50 dX8_many_49 1 rfl rfl rfl ?_
          refine j_sipush E (216) 53 dX8_many_50 (by decide) rfl ?_
          refine j_icmp_gt E 64 56 dX8_many_53 (by decide) rfl (fun h53 => ?_) (fun h53 => ?_)
          · have q53 : 216 < lb := (nI_ltI (a := 216) (b := lb) (by omega) (by omega)).mp h53
            exact t64 a1 (by omega) (by omega) (by omega)
          · have q53 : ¬ 216 < lb := mt (nI_ltI (a := 216) (b := lb) (by omega) (by omega)).mpr h53
            rw [if_neg a1, if_neg (show ¬ lb < 160 by omega), if_neg (show ¬ lb < 192 by omega), if_pos (show 212 ≤ lb ∧ lb ≤ 216 by omega)] at hm
            rw [hm] at B
            refine j_lconst E 1 57 dX8_many_56 rfl rfl ?_
            refine j_iload_n E 58 dX8_many_57 1 rfl rfl rfl ?_
            refine j_sipush E (212) 61 dX8_many_58 (by decide) rfl ?_
            refine j_isub E 62 dX8_many_61 rfl ?_
            refine j_eqi (y := nI (lb - 212)) (pk_sub (b := 212) (by omega)) ?_
            refine j_lshl E 63 dX8_many_62 rfl ?_
            refine j_eql (y := lN (2 ^ (lb - 212))) ((wb_shl 1 (by omega)).trans (congrArg lN (Nat.one_mul _))) ?_
            exact j_lret E B rfl 0 0 dX8_many_63 (by repeat (first | with_reducible exact pick_0 | with_reducible apply pick_s | exact sel_0 | apply sel_s)) ⟨rfl, rfl, rfl, rfl⟩ (by omega) (by omega) (by omega) (by omega)
      · have q33 : ¬ 192 ≤ lb := mt (nI_leI (a := 192) (b := lb) (by omega) (by omega)).mpr h33
        rw [if_neg a1, if_neg (show ¬ lb < 160 by omega), if_pos (show lb < 192 by omega)] at hm
        rw [hm] at B
        refine j_iload_n E 37 dX8_many_36 1 rfl rfl rfl ?_
        refine j_bipush E (32) 39 dX8_many_37 (by decide) rfl ?_
        refine j_irem E 40 dX8_many_39 (by decide) rfl ?_
        refine j_eqi (y := nI (lb % 32)) (pk_rem (d := 32) (by omega) (by decide) (by decide)) ?_
        refine j_i2l E 41 dX8_many_40 rfl ?_
        rw [nI_l (by omega)]
        exact j_lret E B rfl 0 0 dX8_many_41 (by repeat (first | with_reducible exact pick_0 | with_reducible apply pick_s | exact sel_0 | apply sel_s)) ⟨rfl, rfl, rfl, rfl⟩ (by omega) (by omega) (by omega) (by omega)
    · have q20 : ¬ 160 ≤ lb := mt (nI_leI (a := 160) (b := lb) (by omega) (by omega)).mpr h20
      rw [if_neg a1, if_pos (show lb < 160 by omega)] at hm
      rw [hm] at B
      refine j_iload_n E 24 dX8_many_23 1 rfl rfl rfl ?_
      refine j_bipush E (16) 26 dX8_many_24 (by decide) rfl ?_
      refine j_irem E 27 dX8_many_26 (by decide) rfl ?_
      refine j_eqi (y := nI (lb % 16)) (pk_rem (d := 16) (by omega) (by decide) (by decide)) ?_
      refine j_i2l E 28 dX8_many_27 rfl ?_
      rw [nI_l (by omega)]
      exact j_lret E B rfl 0 0 dX8_many_28 (by repeat (first | with_reducible exact pick_0 | with_reducible apply pick_s | exact sel_0 | apply sel_s)) ⟨rfl, rfl, rfl, rfl⟩ (by omega) (by omega) (by omega) (by omega)
  refine j_iload_n E 1 dX8_many_0 1 rfl rfl rfl ?_
  refine j_sipush E (128) 4 dX8_many_1 (by decide) rfl ?_
  refine j_icmp_lt E 14 7 dX8_many_4 (by decide) rfl (fun h4 => ?_) (fun h4 => ?_)
  · have q4 : lb < 128 := (nI_ltI (a := lb) (b := 128) (by omega) (by omega)).mp h4
    rw [if_pos (Or.inl q4)] at hm
    rw [hm] at B
    refine j_lconst E 0 15 dX8_many_14 rfl rfl ?_
    exact j_lret E B rfl 0 0 dX8_many_15 (by repeat (first | with_reducible exact pick_0 | with_reducible apply pick_s | exact sel_0 | apply sel_s)) ⟨rfl, rfl, rfl, rfl⟩ (by omega) (by omega) (by omega) (by omega)
  · have q4 : ¬ lb < 128 := mt (nI_ltI (a := lb) (b := 128) (by omega) (by omega)).mpr h4
    refine j_iload_n E 8 dX8_many_7 1 rfl rfl rfl ?_
    refine j_sipush E (224) 11 dX8_many_8 (by decide) rfl ?_
    refine j_icmp_lt E 16 14 dX8_many_11 (by decide) rfl (fun h11 => ?_) (fun h11 => ?_)
    · have q11 : lb < 224 := (nI_ltI (a := lb) (b := 224) (by omega) (by omega)).mp h11
      exact t16 (by omega)
    · have q11 : ¬ lb < 224 := mt (nI_ltI (a := lb) (b := 224) (by omega) (by omega)).mpr h11
      rw [if_pos (show lb < 128 ∨ 224 ≤ lb by omega)] at hm
      rw [hm] at B
      refine j_lconst E 0 15 dX8_many_14 rfl rfl ?_
      exact j_lret E B rfl 0 0 dX8_many_15 (by repeat (first | with_reducible exact pick_0 | with_reducible apply pick_s | exact sel_0 | apply sel_s)) ⟨rfl, rfl, rfl, rfl⟩ (by omega) (by omega) (by omega) (by omega)

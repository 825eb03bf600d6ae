/-! the model: its constructor -/
set_option maxHeartbeats 8000000 in
theorem c_mg_init {g : GT} (hG : GLB g) (d m : Nat) (hd : 5 ≤ d) : Ctr g mX8_init d 19 369728 [.ref m] [pt m (.inr (7, [.int 0, .null, .int 0, .null, .int 0, .int 0, .null, .null, .null, .null, .null, .null, .null, .int 0, .null, .null, .null, .int 0, .null, .null, .int 0, .int 0, .null, .null, .int 0, .int 0, .int 0, .null, .null, .int 0, .int 0, .int 0, .null, .int 0, .int 0, .long 0]))] (fun o dc ds ws' => o = none ∧ dc = 19 ∧ ds = 369728 ∧ ws' = [MGA g m (nI 0) ([], [], 0, 0, [], 0, 0) 0]) noX := by
  refine ctr_intro hG (by decide +kernel) (Nat.le_of_ble_eq_true rfl) ?_
  rintro X F rfl E B hI T
  replace E : JE X RX8 cX8_init 1 d 19 369728 := E
  show J X _ [pt m (.inr (7, [.int 0, .null, .int 0, .null, .int 0, .int 0, .null, .null, .null, .null, .null, .null, .null, .int 0, .null, .null, .null, .int 0, .null, .null, .int 0, .int 0, .null, .null, .int 0, .int 0, .int 0, .null, .null, .int 0, .int 0, .int 0, .null, .int 0, .int 0, .long 0])), F] 0 0 0 [some (.ref m)] []
  refine j_aload_n E 1 dX8_init_0 0 rfl rfl rfl ?_
  refine j_objI E 4 dX8_init_1 ob_X8 ob_inst ob_code (Nat.le_of_ble_eq_true rfl) (by omega) rfl ?_
  refine j_aload_n E 5 dX8_init_4 0 rfl rfl rfl ?_
  refine j_ldcI E _ 7 dX8_init_5 kc_X8_7 rfl ?_
  refine j_newB E 65536 9 dX8_init_7 ac_B (by decide) (by decide) (by omega) (by omega) (by omega) rfl (fun a1 => ?_)
  refine j_putfF E (hI rfl) 12 dX8_init_9 fl_X8_8 (by repeat (first | with_reducible exact pick_0 | with_reducible apply pick_s)) rfl rfl (Nat.le_of_ble_eq_true rfl) rfl ?_
  dsimp only [List.set]
  refine j_aload_n E 13 dX8_init_12 0 rfl rfl rfl ?_
  refine j_ldcI E _ 15 dX8_init_13 kc_X8_7 rfl ?_
  refine j_newB E 65536 17 dX8_init_15 ac_B (by decide) (by decide) (by omega) (by omega) (by omega) rfl (fun a3 => ?_)
  refine j_putfF E (hI rfl) 20 dX8_init_17 fl_X8_14 (by repeat (first | with_reducible exact pick_0 | with_reducible apply pick_s)) rfl rfl (Nat.le_of_ble_eq_true rfl) rfl ?_
  dsimp only [List.set]
  refine j_aload_n E 21 dX8_init_20 0 rfl rfl rfl ?_
  refine j_sipush E (3000) 24 dX8_init_21 (by decide) rfl ?_
  refine j_newI E 3000 26 dX8_init_24 ac_I (by decide) (by decide) (by omega) (by omega) (by omega) rfl (fun a6 => ?_)
  refine j_putfF E (hI rfl) 29 dX8_init_26 fl_X8_17 (by repeat (first | with_reducible exact pick_0 | with_reducible apply pick_s)) rfl rfl (Nat.le_of_ble_eq_true rfl) rfl ?_
  dsimp only [List.set]
  refine j_aload_n E 30 dX8_init_29 0 rfl rfl rfl ?_
  refine j_sipush E (3000) 33 dX8_init_30 (by decide) rfl ?_
  refine j_newJ E 3000 35 dX8_init_33 ac_J (by decide) (by decide) (by omega) (by omega) (by omega) rfl (fun a7 => ?_)
  refine j_putfF E (hI rfl) 38 dX8_init_35 fl_X8_21 (by repeat (first | with_reducible exact pick_0 | with_reducible apply pick_s)) rfl rfl (Nat.le_of_ble_eq_true rfl) rfl ?_
  dsimp only [List.set]
  refine j_aload_n E 39 dX8_init_38 0 rfl rfl rfl ?_
  refine j_sipush E (3000) 42 dX8_init_39 (by decide) rfl ?_
  refine j_newZ E 3000 44 dX8_init_42 ac_Z (by decide) (by decide) (by omega) (by omega) (by omega) rfl (fun a8 => ?_)
  refine j_putfF E (hI rfl) 47 dX8_init_44 fl_X8_25 (by repeat (first | with_reducible exact pick_0 | with_reducible apply pick_s)) rfl rfl (Nat.le_of_ble_eq_true rfl) rfl ?_
  dsimp only [List.set]
  refine j_aload_n E 48 dX8_init_47 0 rfl rfl rfl ?_
  refine j_sipush E (3000) 51 dX8_init_48 (by decide) rfl ?_
  refine j_newI E 3000 53 dX8_init_51 ac_I (by decide) (by decide) (by omega) (by omega) (by omega) rfl (fun a9 => ?_)
  refine j_putfF E (hI rfl) 56 dX8_init_53 fl_X8_29 (by repeat (first | with_reducible exact pick_0 | with_reducible apply pick_s)) rfl rfl (Nat.le_of_ble_eq_true rfl) rfl ?_
  dsimp only [List.set]
  refine j_aload_n E 57 dX8_init_56 0 rfl rfl rfl ?_
  refine j_sipush E (3000) 60 dX8_init_57 (by decide) rfl ?_
  refine j_newI E 3000 62 dX8_init_60 ac_I (by decide) (by decide) (by omega) (by omega) (by omega) rfl (fun a10 => ?_)
  refine j_putfF E (hI rfl) 65 dX8_init_62 fl_X8_32 (by repeat (first | with_reducible exact pick_0 | with_reducible apply pick_s)) rfl rfl (Nat.le_of_ble_eq_true rfl) rfl ?_
  dsimp only [List.set]
  refine j_aload_n E 66 dX8_init_65 0 rfl rfl rfl ?_
  refine j_sipush E (3000) 69 dX8_init_66 (by decide) rfl ?_
  refine j_newI E 3000 71 dX8_init_69 ac_I (by decide) (by decide) (by omega) (by omega) (by omega) rfl (fun a11 => ?_)
  refine j_putfF E (hI rfl) 74 dX8_init_71 fl_X8_35 (by repeat (first | with_reducible exact pick_0 | with_reducible apply pick_s)) rfl rfl (Nat.le_of_ble_eq_true rfl) rfl ?_
  dsimp only [List.set]
  refine j_aload_n E 75 dX8_init_74 0 rfl rfl rfl ?_
  refine j_sipush E (3000) 78 dX8_init_75 (by decide) rfl ?_
  refine j_newI E 3000 80 dX8_init_78 ac_I (by decide) (by decide) (by omega) (by omega) (by omega) rfl (fun a12 => ?_)
  refine j_putfF E (hI rfl) 83 dX8_init_80 fl_X8_38 (by repeat (first | with_reducible exact pick_0 | with_reducible apply pick_s)) rfl rfl (Nat.le_of_ble_eq_true rfl) rfl ?_
  dsimp only [List.set]
  refine j_aload_n E 84 dX8_init_83 0 rfl rfl rfl ?_
  refine j_sipush E (6000) 87 dX8_init_84 (by decide) rfl ?_
  refine j_newI E 6000 89 dX8_init_87 ac_I (by decide) (by decide) (by omega) (by omega) (by omega) rfl (fun a14 => ?_)
  refine j_putfF E (hI rfl) 92 dX8_init_89 fl_X8_41 (by repeat (first | with_reducible exact pick_0 | with_reducible apply pick_s)) rfl rfl (Nat.le_of_ble_eq_true rfl) rfl ?_
  dsimp only [List.set]
  refine j_aload_n E 93 dX8_init_92 0 rfl rfl rfl ?_
  refine j_sipush E (6000) 96 dX8_init_93 (by decide) rfl ?_
  refine j_newI E 6000 98 dX8_init_96 ac_I (by decide) (by decide) (by omega) (by omega) (by omega) rfl (fun a15 => ?_)
  refine j_putfF E (hI rfl) 101 dX8_init_98 fl_X8_44 (by repeat (first | with_reducible exact pick_0 | with_reducible apply pick_s)) rfl rfl (Nat.le_of_ble_eq_true rfl) rfl ?_
  dsimp only [List.set]
  refine j_aload_n E 102 dX8_init_101 0 rfl rfl rfl ?_
  refine j_ldcI E _ 104 dX8_init_102 kc_X8_7 rfl ?_
  refine j_newB E 65536 106 dX8_init_104 ac_B (by decide) (by decide) (by omega) (by omega) (by omega) rfl (fun a16 => ?_)
  refine j_putfF E (hI rfl) 109 dX8_init_106 fl_X8_47 (by repeat (first | with_reducible exact pick_0 | with_reducible apply pick_s)) rfl rfl (Nat.le_of_ble_eq_true rfl) rfl ?_
  dsimp only [List.set]
  refine j_aload_n E 110 dX8_init_109 0 rfl rfl rfl ?_
  refine j_ldcI E _ 112 dX8_init_110 kc_X8_7 rfl ?_
  refine j_newB E 65536 114 dX8_init_112 ac_B (by decide) (by decide) (by omega) (by omega) (by omega) rfl (fun a18 => ?_)
  refine j_putfF E (hI rfl) 117 dX8_init_114 fl_X8_50 (by repeat (first | with_reducible exact pick_0 | with_reducible apply pick_s)) rfl rfl (Nat.le_of_ble_eq_true rfl) rfl ?_
  dsimp only [List.set]
  refine j_aload_n E 118 dX8_init_117 0 rfl rfl rfl ?_
  refine j_ldcI E _ 120 dX8_init_118 kc_X8_7 rfl ?_
  refine j_newB E 65536 122 dX8_init_120 ac_B (by decide) (by decide) (by omega) (by omega) (by omega) rfl (fun a19 => ?_)
  refine j_putfF E (hI rfl) 125 dX8_init_122 fl_X8_53 (by repeat (first | with_reducible exact pick_0 | with_reducible apply pick_s)) rfl rfl (Nat.le_of_ble_eq_true rfl) rfl ?_
  dsimp only [List.set]
  refine j_aload_n E 126 dX8_init_125 0 rfl rfl rfl ?_
  refine j_sipush E (3000) 129 dX8_init_126 (by decide) rfl ?_
  refine j_newI E 3000 131 dX8_init_129 ac_I (by decide) (by decide) (by omega) (by omega) (by omega) rfl (fun a22 => ?_)
  refine j_putfF E (hI rfl) 134 dX8_init_131 fl_X8_56 (by repeat (first | with_reducible exact pick_0 | with_reducible apply pick_s)) rfl rfl (Nat.le_of_ble_eq_true rfl) rfl ?_
  dsimp only [List.set]
  refine j_aload_n E 135 dX8_init_134 0 rfl rfl rfl ?_
  refine j_sipush E (3000) 138 dX8_init_135 (by decide) rfl ?_
  refine j_newI E 3000 140 dX8_init_138 ac_I (by decide) (by decide) (by omega) (by omega) (by omega) rfl (fun a23 => ?_)
  refine j_putfF E (hI rfl) 143 dX8_init_140 fl_X8_59 (by repeat (first | with_reducible exact pick_0 | with_reducible apply pick_s)) rfl rfl (Nat.le_of_ble_eq_true rfl) rfl ?_
  dsimp only [List.set]
  refine j_aload_n E 144 dX8_init_143 0 rfl rfl rfl ?_
  refine j_bipush E (24) 146 dX8_init_144 (by decide) rfl ?_
  refine j_newI E 24 148 dX8_init_146 ac_I (by decide) (by decide) (by omega) (by omega) (by omega) rfl (fun a27 => ?_)
  refine j_putfF E (hI rfl) 151 dX8_init_148 fl_X8_62 (by repeat (first | with_reducible exact pick_0 | with_reducible apply pick_s)) rfl rfl (Nat.le_of_ble_eq_true rfl) rfl ?_
  dsimp only [List.set]
  refine j_aload_n E 152 dX8_init_151 0 rfl rfl rfl ?_
  refine j_bipush E (24) 154 dX8_init_152 (by decide) rfl ?_
  refine j_newJ E 24 156 dX8_init_154 ac_J (by decide) (by decide) (by omega) (by omega) (by omega) rfl (fun a28 => ?_)
  refine j_putfF E (hI rfl) 159 dX8_init_156 fl_X8_65 (by repeat (first | with_reducible exact pick_0 | with_reducible apply pick_s)) rfl rfl (Nat.le_of_ble_eq_true rfl) rfl ?_
  dsimp only [List.set]
  refine j_aload_n E 160 dX8_init_159 0 rfl rfl rfl ?_
  refine j_sipush E (3000) 163 dX8_init_160 (by decide) rfl ?_
  refine j_newI E 3000 165 dX8_init_163 ac_I (by decide) (by decide) (by omega) (by omega) (by omega) rfl (fun a32 => ?_)
  refine j_putfF E (hI rfl) 168 dX8_init_165 fl_X8_68 (by repeat (first | with_reducible exact pick_0 | with_reducible apply pick_s)) rfl rfl (Nat.le_of_ble_eq_true rfl) rfl ?_
  dsimp only [List.set]
  obtain ⟨r, h1, h3, h6, h7, h8, h9, h10, h11, h12, h14, h15, h16, h18, h19, h22, h23, h27, h28, h32⟩ : ∃ r : Nat → Nat, r 1 = a1 ∧ r 3 = a3 ∧ r 6 = a6 ∧ r 7 = a7 ∧ r 8 = a8 ∧ r 9 = a9 ∧ r 10 = a10 ∧ r 11 = a11 ∧ r 12 = a12 ∧ r 14 = a14 ∧ r 15 = a15 ∧ r 16 = a16 ∧ r 18 = a18 ∧ r 19 = a19 ∧ r 22 = a22 ∧ r 23 = a23 ∧ r 27 = a27 ∧ r 28 = a28 ∧ r 32 = a32 := ⟨fun k => if k = 1 then a1 else if k = 3 then a3 else if k = 6 then a6 else if k = 7 then a7 else if k = 8 then a8 else if k = 9 then a9 else if k = 10 then a10 else if k = 11 then a11 else if k = 12 then a12 else if k = 14 then a14 else if k = 15 then a15 else if k = 16 then a16 else if k = 18 then a18 else if k = 19 then a19 else if k = 22 then a22 else if k = 23 then a23 else if k = 27 then a27 else if k = 28 then a28 else if k = 32 then a32 else 0, rfl, rfl, rfl, rfl, rfl, rfl, rfl, rfl, rfl, rfl, rfl, rfl, rfl, rfl, rfl, rfl, rfl, rfl, rfl⟩
  subst h1
  subst h3
  subst h6
  subst h7
  subst h8
  subst h9
  subst h10
  subst h11
  subst h12
  subst h14
  subst h15
  subst h16
  subst h18
  subst h19
  subst h22
  subst h23
  subst h27
  subst h28
  subst h32
  refine tb_close (r := r) [] [] [] 0 (fun _ => 0) (by repeat (first | with_reducible exact pick_0 | with_reducible apply pick_s | exact sel_0 | apply sel_s)) ⟨fun i v hv => (by cases hv), fun k hk => absurd hk (Nat.not_lt_zero _), ⟨Fit8.z, rfl⟩, rfl, fun x hx => absurd hx List.not_mem_nil, Nat.zero_le _, Nat.zero_le _, Nat.zero_le _⟩ ?_
  refine j_close (by repeat (first | with_reducible exact pick_0 | with_reducible apply pick_s | exact sel_0 | apply sel_s)) (P := BA X.1 (r 1) []) (qs := [pt (r 1) (aB X.1 65536 (fun _ => 0))]) (ba_of Fit8.z (fun j hj => absurd hj (Nat.not_lt_zero _)) (Nat.zero_le _)) ?_
  refine j_close (by repeat (first | with_reducible exact pick_0 | with_reducible apply pick_s | exact sel_0 | apply sel_s)) (P := BA X.1 (r 3) []) (qs := [pt (r 3) (aB X.1 65536 (fun _ => 0))]) (ba_of Fit8.z (fun j hj => absurd hj (Nat.not_lt_zero _)) (Nat.zero_le _)) ?_
  refine j_close (by repeat (first | with_reducible exact pick_0 | with_reducible apply pick_s | exact sel_0 | apply sel_s)) (P := BA X.1 (r 18) []) (qs := [pt (r 18) (aB X.1 65536 (fun _ => 0))]) (ba_of Fit8.z (fun j hj => absurd hj (Nat.not_lt_zero _)) (Nat.zero_le _)) ?_
  refine j_close (by repeat (first | with_reducible exact pick_0 | with_reducible apply pick_s | exact sel_0 | apply sel_s)) (P := BA X.1 (r 19) []) (qs := [pt (r 19) (aB X.1 65536 (fun _ => 0))]) (ba_of Fit8.z (fun j hj => absurd hj (Nat.not_lt_zero _)) (Nat.zero_le _)) ?_
  refine j_close (by repeat (first | with_reducible exact pick_0 | with_reducible apply pick_s | exact sel_0 | apply sel_s)) (gs_of [] ⟨fun j hj => absurd hj (Nat.not_lt_zero _), Nat.zero_le _⟩) ?_
  refine j_close (by repeat (first | with_reducible exact pick_0 | with_reducible apply pick_s | exact sel_0 | apply sel_s)) (od_of [] (fun j hj => absurd hj List.not_mem_nil)) ?_
  refine j_close (by repeat (first | with_reducible exact pick_0 | with_reducible apply pick_s | exact sel_0 | apply sel_s)) (pl_of [] ⟨Nat.zero_le _, fun j e he => (by cases he)⟩) ?_
  refine mga_close r 0 0 0 0 0 0 (by repeat (first | with_reducible exact pick_0 | with_reducible apply pick_s | exact sel_0 | apply sel_s)) ?_ ?_ ?_
  · exact ⟨rfl, rfl, rfl, rfl, rfl, rfl, rfl, rfl, rfl⟩
  · exact ⟨fun i hi => absurd hi (Nat.not_lt_zero _), rfl, fun _ => Nat.le_refl _, Nat.le_refl _⟩
  · exact j_vret E B rfl 19 369728 dX8_init_168 (by repeat (first | with_reducible exact pick_0 | with_reducible apply pick_s | exact sel_0 | apply sel_s)) ⟨rfl, rfl, rfl, rfl⟩ (by omega) (by omega) (by omega) (by omega)

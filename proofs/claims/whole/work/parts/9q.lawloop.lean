/-! the law: its loop -/
theorem sub6 {c L : Nat} (hL : L ≤ 384) (hc : c ≤ 64) (h : ¬ nI L - 6 < nI (6 * c)) : 6 * c + 6 ≤ L := by
  have eL := nI_toInt (n := L) (by omega)
  have h6 : (6 : Int32).toInt = 6 := by decide
  have e := Jvm.Kit.i32_sub (x := nI L) (y := 6) (by rw [eL, h6]; omega) (by rw [eL, h6]; omega)
  rw [Int32.lt_iff_toInt_lt, e, eL, h6, nI_toInt (by omega)] at h
  omega
theorem ls_more {c L P Q pm k n : Nat} (h : RMC c L P Q pm k n) : RMC (c + 1) L P Q pm k n := by
  obtain ⟨a1, a2, a3, a4⟩ := h
  exact ⟨by omega, by omega, by omega, by omega⟩
set_option maxHeartbeats 4000000 in
theorem lw_step {X : XT} {z : Nat → Nat} (hA : GA X.1 z) (h4 : GLB4 X.1) (E : JE X RL cL_law 8 2048 600384 7289322) {b L c x m ob P Q pm k n : Nat} {xs : Nat → Int32} {S : AS} {th : Int32} {f : Nat → Int64} (hT : OT X.1 .int b L (fun j => .int (xs j))) (hL : L ≤ 384) (hend : ∀ ws k n lv, k ≤ 600384 → n ≤ 7289322 → J X 8 ws k n 1703 lv [.int 1]) (hc4 : c ≤ 64) (hLS : RMC c S.1.length P Q pm k n)
    (kk : c < 64 → ∀ (S' : AS) (P' Q' pm' k' n' : Nat) (th' : Int32) (f' : Nat → Int64), RMC (c + 1) S'.1.length P' Q' pm' k' n' → J X 8 [PGA X.1 z x S' P' Q', MGA X.1 m th' S' pm', pt ob (aJ X.1 1 f')] k' n' 23 [some (.ref b), some (.ref x), some (.ref m), some (.ref ob), some (.int (nI (6 * (c + 1)))), none, none, none] []) : J X 8 [PGA X.1 z x S P Q, MGA X.1 m th S pm, pt ob (aJ X.1 1 f)] k n 23 [some (.ref b), some (.ref x), some (.ref m), some (.ref ob), some (.int (nI (6 * c))), none, none, none] [] := by
  refine j_know (pick_know (P := PGA X.1 z x S P Q) (by repeat (first | with_reducible exact pick_0 | with_reducible apply pick_s)) pga_know) (fun hkn => ?_)
  obtain ⟨hok, hP, hQ⟩ := hkn
  have hls := hLS
  obtain ⟨l1, l2, l3, l4⟩ := hls
  refine j_iload E 25 dL_law_23 rfl rfl ?_
  refine j_aload_n E 26 dL_law_25 0 rfl rfl rfl ?_
  refine j_tlen E (nI L) 27 dL_law_26 hT rfl rfl ?_
  refine j_bipush E (6) 29 dL_law_27 (by decide) rfl ?_
  refine j_isub E 30 dL_law_29 rfl ?_
  refine j_icmp_gt E 1702 33 dL_law_30 (by decide) rfl (fun h30 => ?_) (fun h30 => ?_)
  · refine j_iconst E (1) 1703 dL_law_1702 (by decide) rfl ?_
    exact hend _ _ _ _ (by omega) (by omega)
  have hi := sub6 hL hc4 h30
  have hc : c < 64 := by omega
  refine j_aload_n E 34 dL_law_33 0 rfl rfl rfl ?_
  refine j_iload E 36 dL_law_34 rfl rfl ?_
  refine j_ti E 37 dL_law_36 hT (vp_in_nI (by omega) (by omega)) (v := .int (xs (6 * c))) (by rw [nI_clamp (by omega)]) rfl ?_
  refine j_bipush E (31) 39 dL_law_37 (by decide) rfl ?_
  refine j_iand E 40 dL_law_39 rfl ?_
  refine j_topi (fun y hy => ?_)
  have K : KK X z b x m ob (6 * c) (c + 1) := by
    intro S' P' Q' pm' k' n' th' f' hls
    refine j_iinc E (nI (6 * (c + 1))) 1699 dL_law_1696 rfl (by rw [show Int32.ofInt 6 = nI 6 by decide, nI_add]; exact congrArg nI (by omega)) (Nat.le_of_ble_eq_true rfl) rfl rfl ?_
    dsimp only [List.set]
    exact j_goto E 23 dL_law_1699 (by decide) (kk hc S' P' Q' pm' k' n' th' f' hls)
  by_cases hr : 0 ≤ y.toInt ∧ y.toInt ≤ 23
  · have h24 : y.toInt = 0 ∨ y.toInt = 1 ∨ y.toInt = 2 ∨ y.toInt = 3 ∨ y.toInt = 4 ∨ y.toInt = 5 ∨ y.toInt = 6 ∨ y.toInt = 7 ∨ y.toInt = 8 ∨ y.toInt = 9 ∨ y.toInt = 10 ∨ y.toInt = 11 ∨ y.toInt = 12 ∨ y.toInt = 13 ∨ y.toInt = 14 ∨ y.toInt = 15 ∨ y.toInt = 16 ∨ y.toInt = 17 ∨ y.toInt = 18 ∨ y.toInt = 19 ∨ y.toInt = 20 ∨ y.toInt = 21 ∨ y.toInt = 22 ∨ y.toInt = 23 := by omega
    rcases h24 with h | h | h | h | h | h | h | h | h | h | h | h | h | h | h | h | h | h | h | h | h | h | h | h
    · refine j_tableIn E (off := 112) 152 dL_law_40 (by omega) (by omega) (by rw [h]; rfl) (by decide) ?_
      exact lw_feed hA h4 E hT hL hi hc hok hP hQ hLS K
    · refine j_tableIn E (off := 216) 256 dL_law_40 (by omega) (by omega) (by rw [h]; rfl) (by decide) ?_
      exact lw_end hA h4 E hT hL hi hc hok hP hQ hLS K
    · refine j_tableIn E (off := 252) 292 dL_law_40 (by omega) (by omega) (by rw [h]; rfl) (by decide) ?_
      exact lw_unpack hA h4 E hT hL hi hc hok hP hQ hLS K
    · refine j_tableIn E (off := 265) 305 dL_law_40 (by omega) (by omega) (by rw [h]; rfl) (by decide) ?_
      exact lw_fault hA h4 E hT hL hi hc hok hP hQ hLS K
    · refine j_tableIn E (off := 321) 361 dL_law_40 (by omega) (by omega) (by rw [h]; rfl) (by decide) ?_
      exact lw_skip hA h4 E hT hL hi hc hok hP hQ hLS K
    · refine j_tableIn E (off := 377) 417 dL_law_40 (by omega) (by omega) (by rw [h]; rfl) (by decide) ?_
      exact lw_pack hA h4 E hT hL hi hc hok hP hQ hLS K
    · refine j_tableIn E (off := 433) 473 dL_law_40 (by omega) (by omega) (by rw [h]; rfl) (by decide) ?_
      exact lw_shown hA h4 E hT hL hi hc hok hP hQ hLS K
    · refine j_tableIn E (off := 489) 529 dL_law_40 (by omega) (by omega) (by rw [h]; rfl) (by decide) ?_
      exact lw_nil hA h4 E hT hL hi hc hok hP hQ hLS K
    · refine j_tableIn E (off := 533) 573 dL_law_40 (by omega) (by omega) (by rw [h]; rfl) (by decide) ?_
      exact lw_truth hA h4 E hT hL hi hc hok hP hQ hLS K
    · refine j_tableIn E (off := 605) 645 dL_law_40 (by omega) (by omega) (by rw [h]; rfl) (by decide) ?_
      exact lw_integer hA h4 E hT hL hi hc hok hP hQ hLS K
    · refine j_tableIn E (off := 721) 761 dL_law_40 (by omega) (by omega) (by rw [h]; rfl) (by decide) ?_
      exact lw_real hA h4 E hT hL hi hc hok hP hQ hLS K
    · refine j_tableIn E (off := 837) 877 dL_law_40 (by omega) (by omega) (by rw [h]; rfl) (by decide) ?_
      exact lw_row hA h4 E hT hL hi hc hok hP hQ hLS K
    · refine j_tableIn E (off := 893) 933 dL_law_40 (by omega) (by omega) (by rw [h]; rfl) (by decide) ?_
      exact lw_extension hA h4 E hT hL hi hc hok hP hQ hLS K
    · refine j_tableIn E (off := 949) 989 dL_law_40 (by omega) (by omega) (by rw [h]; rfl) (by decide) ?_
      exact lw_time hA h4 E hT hL hi hc hok hP hQ hLS K
    · refine j_tableIn E (off := 1049) 1089 dL_law_40 (by omega) (by omega) (by rw [h]; rfl) (by decide) ?_
      exact lw_group hA h4 E hT hL hi hc hok hP hQ hLS K
    · refine j_tableIn E (off := 1105) 1145 dL_law_40 (by omega) (by omega) (by rw [h]; rfl) (by decide) ?_
      exact lw_add hA h4 E hT hL hi hc hok hP hQ hLS K
    · refine j_tableIn E (off := 1173) 1213 dL_law_40 (by omega) (by omega) (by rw [h]; rfl) (by decide) ?_
      exact lw_put hA h4 E hT hL hi hc hok hP hQ hLS K
    · refine j_tableIn E (off := 1253) 1293 dL_law_40 (by omega) (by omega) (by rw [h]; rfl) (by decide) ?_
      exact lw_about hA h4 E hT hL hi hc hok hP hQ hLS K
    · refine j_tableIn E (off := 1321) 1361 dL_law_40 (by omega) (by omega) (by rw [h]; rfl) (by decide) ?_
      exact lw_number hA h4 E hT hL hi hc hok hP hQ hLS K
    · refine j_tableIn E (off := 1376) 1416 dL_law_40 (by omega) (by omega) (by rw [h]; rfl) (by decide) ?_
      exact lw_part hA h4 E hT hL hi hc hok hP hQ hLS K
    · refine j_tableIn E (off := 1444) 1484 dL_law_40 (by omega) (by omega) (by rw [h]; rfl) (by decide) ?_
      exact lw_same hA h4 E hT hL hi hc hok hP hQ hLS K
    · refine j_tableIn E (off := 1519) 1559 dL_law_40 (by omega) (by omega) (by rw [h]; rfl) (by decide) ?_
      exact lw_find hA h4 E hT hL hi hc hok hP hQ hLS K
    · refine j_tableIn E (off := 1587) 1627 dL_law_40 (by omega) (by omega) (by rw [h]; rfl) (by decide) ?_
      exact lw_count hA h4 E hT hL hi hc hok hP hQ hLS K
    · refine j_tableIn E (off := 1643) 1683 dL_law_40 (by omega) (by omega) (by rw [h]; rfl) (by decide) ?_
      exact lw_clear hA h4 E hT hL hi hc hok hP hQ hLS K
  · refine j_tableOut E 1696 dL_law_40 (by omega) (by decide) ?_
    exact K S P Q pm k n th f (ls_more hLS)
theorem lw_loop {X : XT} {z : Nat → Nat} (hA : GA X.1 z) (h4 : GLB4 X.1) (E : JE X RL cL_law 8 2048 600384 7289322) {b L x m ob : Nat} {xs : Nat → Int32} (hT : OT X.1 .int b L (fun j => .int (xs j))) (hL : L ≤ 384) (hend : ∀ ws k n lv, k ≤ 600384 → n ≤ 7289322 → J X 8 ws k n 1703 lv [.int 1]) : ∀ (r c : Nat) (S : AS) (P Q pm k n : Nat) (th : Int32) (f : Nat → Int64), c + r = 64 → RMC c S.1.length P Q pm k n → J X 8 [PGA X.1 z x S P Q, MGA X.1 m th S pm, pt ob (aJ X.1 1 f)] k n 23 [some (.ref b), some (.ref x), some (.ref m), some (.ref ob), some (.int (nI (6 * c))), none, none, none] []
  | 0, c, S, P, Q, pm, k, n, th, f, hr, hls => lw_step hA h4 E hT hL hend (by omega) hls (fun hc => absurd hc (by omega))
  | r + 1, c, S, P, Q, pm, k, n, th, f, hr, hls => lw_step hA h4 E hT hL hend (by omega) hls (fun _ S' P' Q' pm' k' n' th' f' h' => lw_loop hA h4 E hT hL hend r (c + 1) S' P' Q' pm' k' n' th' f' (by omega) h')
set_option maxHeartbeats 4000000 in
theorem law_start {X : XT} {z : Nat → Nat} (hA : GA X.1 z) (h4 : GLB4 X.1) (E : JE X RL cL_law 8 2048 600384 7289322) {b L : Nat} {xs : Nat → Int32} (hT : OT X.1 .int b L (fun j => .int (xs j))) (hL : L ≤ 384) (hend : ∀ ws k n lv, k ≤ 600384 → n ≤ 7289322 → J X 8 ws k n 1703 lv [.int 1]) : J X 8 [] 0 0 0 [some (.ref b), none, none, none, none, none, none, none] [] := by
  refine j_new E 3 dL_law_0 nw_L_8 (by omega) (by omega) rfl (fun x => ?_)
  refine j_dup E 4 dL_law_3 rfl rfl ?_
  refine j_callI E (c_pg_init hA 2047 x (by decide)) 7 dL_law_4 iv_L_94 rfl rfl (by repeat (first | with_reducible exact pick_0 | with_reducible apply pick_s | exact sel_0 | apply sel_s)) (by decide) (by omega) (by omega) (Nat.le_of_ble_eq_true rfl) rfl ?_
  rintro o dc ds ws' ⟨P, Q, rfl, hd1, hd2, rfl⟩
  dsimp only [List.cons_append, List.nil_append, Option.toList]
  refine j_astore_n E 8 dL_law_7 1 rfl (Nat.le_of_ble_eq_true rfl) rfl rfl ?_
  dsimp only [List.set]
  refine j_new E 11 dL_law_8 nw_L_95 (by omega) (by omega) rfl (fun m => ?_)
  refine j_dup E 12 dL_law_11 rfl rfl ?_
  refine j_callI E (c_mg_init hA.1 2047 m (by decide)) 15 dL_law_12 iv_L_97 rfl rfl (by repeat (first | with_reducible exact pick_0 | with_reducible apply pick_s | exact sel_0 | apply sel_s)) (by decide) (by omega) (by omega) (Nat.le_of_ble_eq_true rfl) rfl ?_
  rintro o dc2 ds2 ws' ⟨rfl, rfl, rfl, rfl⟩
  dsimp only [List.cons_append, List.nil_append, Option.toList]
  refine j_astore_n E 16 dL_law_15 2 rfl (Nat.le_of_ble_eq_true rfl) rfl rfl ?_
  dsimp only [List.set]
  refine j_iconst E (1) 17 dL_law_16 (by decide) rfl ?_
  refine j_newJ E 1 19 dL_law_17 ac_J (by decide) (by decide) (by decide) (by omega) (by omega) rfl (fun ob => ?_)
  refine j_astore_n E 20 dL_law_19 3 rfl (Nat.le_of_ble_eq_true rfl) rfl rfl ?_
  dsimp only [List.set]
  refine j_iconst E (nI (6 * 0)) 21 dL_law_20 (by decide) rfl ?_
  refine j_istore E 23 dL_law_21 (Nat.le_of_ble_eq_true rfl) rfl rfl ?_
  dsimp only [List.set]
  refine j_sel (pre := [PGA X.1 z x ([], [], 0, 0, [], 0, 0) P Q, MGA X.1 m (nI 0) ([], [], 0, 0, [], 0, 0) 0, pt ob (aJ X.1 1 (fun _ => 0))]) (by repeat (first | with_reducible exact pick_0 | with_reducible apply pick_s | exact sel_0 | apply sel_s)) ?_
  exact lw_loop hA h4 E hT hL hend 64 0 ([], [], 0, 0, [], 0, 0) P Q 0 _ _ (nI 0) (fun _ => 0) rfl ⟨Nat.zero_le _, Nat.zero_le _, by omega, by omega⟩

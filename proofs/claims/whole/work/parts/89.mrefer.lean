/-! the model: refer -/
/-- the groups that were begun -/
def GS (g : GT) (r : Nat → Nat) (gs : List Nat) : Asn := fun w => ∃ f : Nat → Int32, ((∀ j, j < gs.length → f j = nI (gs.getD j 0)) ∧ gs.length ≤ 3000) ∧ sepL [pt (r 32) (aI g 3000 f)] w
theorem gs_open {g : GT} {r : Nat → Nat} {gs : List Nat} : ∀ w, GS g r gs w → ∃ f : Nat → Int32, ((∀ j, j < gs.length → f j = nI (gs.getD j 0)) ∧ gs.length ≤ 3000) ∧ sepL [pt (r 32) (aI g 3000 f)] w := fun _ h => h
theorem gs_of {g : GT} {r : Nat → Nat} {f : Nat → Int32} (gs : List Nat) (h : (∀ j, j < gs.length → f j = nI (gs.getD j 0)) ∧ gs.length ≤ 3000) : ∀ w, sepL [pt (r 32) (aI g 3000 f)] w → GS g r gs w := fun _ hw => ⟨f, h, hw⟩
theorem gs_know {g : GT} {r : Nat → Nat} {gs : List Nat} : ∀ w, GS g r gs w → gs.length ≤ 3000 := fun _ ⟨_, h, _⟩ => h.2
theorem lead_2 {bs : List UInt8} {j : Nat} : (lead bs j).1 = 2 ↔ kO (bN bs j) = 2 := by
  obtain ⟨k, h0, b, e⟩ : ∃ k h b, lead0 bs j = (k, h, b) := ⟨_, _, _, rfl⟩
  have hk : kO (bN bs j) = k := by rw [← lead0_k, e]
  rw [hk]
  by_cases q : k = 9
  · rw [lead_ext e q]
    have h1 : ¬ typK bs (j + h0) = 2 := by
      unfold typK tyK
      repeat' (first | omega | split)
    exact ⟨fun y => absurd y h1, fun y => by omega⟩
  · rw [lead_pl e q]
theorem ref_iff {bs : List UInt8} {j b : Nat} (hj : j + b ≤ bs.length) (hb : 0 < b) : ((lead bs j).1 = 2 ∧ ownB (lead bs j).1 (lead bs j).2.1 (lead bs j).2.2.1 = b) ↔ (kO (bN bs j) = 2 ∧ b = 1 + wO (bN bs j)) := by
  rw [lead_2]
  have hh : kO (bN bs j) = 2 → hO (bN bs j) = 1 + wO (bN bs j) := fun q => by rw [hO, if_neg (by omega)]; rfl
  refine ⟨fun ⟨h1, h2⟩ => ⟨h1, ?_⟩, fun ⟨h1, h2⟩ => ⟨h1, ?_⟩⟩
  · have h3 := own_ge (bs := bs) (i := j) (by omega)
    rw [hh h1, h2] at h3
    have h4 := own_m (bs := bs) (i := j) (by omega) (by rw [hh h1]; omega)
    rw [h2, if_neg (by omega), hh h1] at h4
    have h5 : mO bs j = 0 := by
      rw [mO]
      have h6 : ∀ t : Fin 256, kO t.val = 2 → t.val < 128 ∨ 224 ≤ t.val ∨ (204 ≤ t.val ∧ t.val ≤ 211) := by decide +kernel
      have h7 := h6 ⟨bN bs j, bN_lt bs j⟩ h1
      dsimp only at h7
      by_cases q : bN bs j < 128 ∨ 224 ≤ bN bs j
      · rw [if_pos q]
      · rw [if_neg q, if_neg (by omega), if_neg (by omega), if_neg (by omega), if_pos (Or.inl (by omega))]
    omega
  · have h4 := own_m (bs := bs) (i := j) (by omega) (by rw [hh h1]; omega)
    rw [if_neg (by omega), hh h1] at h4
    have h5 : mO bs j = 0 := by
      rw [mO]
      have h6 : ∀ t : Fin 256, kO t.val = 2 → t.val < 128 ∨ 224 ≤ t.val ∨ (204 ≤ t.val ∧ t.val ≤ 211) := by decide +kernel
      have h7 := h6 ⟨bN bs j, bN_lt bs j⟩ h1
      dsimp only at h7
      by_cases q : bN bs j < 128 ∨ 224 ≤ bN bs j
      · rw [if_pos q]
      · rw [if_neg q, if_neg (by omega), if_neg (by omega), if_neg (by omega), if_pos (Or.inl (by omega))]
    omega
theorem ref_w {bs : List UInt8} {j : Nat} (hj : j + (1 + wO (bN bs j)) ≤ bs.length) (h : kO (bN bs j) = 2) : (lead bs j).2.2.1 = wO (bN bs j) := by
  have h1 := lead0_m (bs := bs) (i := j) (by omega) hj
  rw [lead_pl h1 (by omega)]
  dsimp only
  rw [if_pos (by omega)]
set_option maxHeartbeats 8000000 in
theorem c_m_refer {g : GT} (hG : GLB g) (d m : Nat) (r : Nat → Nat) {th ts os vc lc bc pkd pkg cm fu op at_ : Int32} {pr : Int64} (fc fp got : Int32) (i h b np nb : Nat) (gs : List Nat) (bs : List UInt8) (hd : 2 ≤ d) (hi : i + h + b ≤ bs.length) : CtrV g mX8_refer 7 d 0 0 m [.int (nI (i + h)), .int (nI b), .int (nI i)] [MF m r th ts os vc lc bc pkd pkg cm fu op fc fp at_ (nI gs.length) got pr, BA g (r 1) bs, GS g r gs] (fun o dc ds ws' => dc = 0 ∧ ds = 0 ∧ match rdRef bs i np nb gs h b with
    | .inl x => o = some (.int 0) ∧ ws' = [MF m r th ts os vc lc bc pkd pkg cm fu op (nI x.1) (nI x.2) at_ (nI gs.length) got pr, BA g (r 1) bs, GS g r gs]
    | .inr x => o = some (.int 1) ∧ ws' = [MF m r th ts os vc lc bc pkd pkg cm fu op fc fp at_ (nI gs.length) (nI x.1) pr, BA g (r 1) bs, GS g r gs]) noX := by
  refine ⟨rcv_pt, ?_⟩
  refine ctr_intro hG (by decide +kernel) (Nat.le_of_ble_eq_true rfl) ?_
  rintro X F rfl E B hI T
  replace E : JE X RX8 cX8_refer 8 d 0 0 := E
  show J X _ [MF m r th ts os vc lc bc pkd pkg cm fu op fc fp at_ (nI gs.length) got pr, BA X.1 (r 1) bs, GS X.1 r gs, F] 0 0 0 [some (.ref m), some (.int (nI (i + h))), some (.int (nI b)), some (.int (nI i)), none, none, none, none] []
  refine j_know (pick_know (P := BA X.1 (r 1) bs) (by repeat (first | with_reducible exact pick_0 | with_reducible apply pick_s)) ba_know) (fun hbl => ?_)
  refine j_know (pick_know (P := GS X.1 r gs) (by repeat (first | with_reducible exact pick_0 | with_reducible apply pick_s)) gs_know) (fun hgs => ?_)
  obtain ⟨j, hj⟩ : ∃ j, j = i + h := ⟨_, rfl⟩
  have hjb : j + b ≤ bs.length := by omega
  obtain ⟨RR, hRR⟩ : ∃ RR, RR = rdRef bs i np nb gs h b := ⟨_, rfl⟩
  rw [← hRR] at B
  rw [rdRef, ← hj] at hRR
  rw [← hj]
  have at89 : ∀ (l4 l5 l6 l7 : Option Value), RR = .inl (5, i) → J X 8 [MF m r th ts os vc lc bc pkd pkg cm fu op fc fp at_ (nI gs.length) got pr, BA X.1 (r 1) bs, GS X.1 r gs, F] 0 0 89 [some (.ref m), some (.int (nI j)), some (.int (nI b)), some (.int (nI i)), l4, l5, l6, l7] [] := by
    intro l4 l5 l6 l7 hr
    rw [hr] at B
    dsimp only at B
    refine j_aload_n E 90 dX8_refer_89 0 rfl rfl rfl ?_
    refine j_iconst E (5) 91 dX8_refer_90 (by decide) rfl ?_
    refine j_iload_n E 92 dX8_refer_91 3 rfl rfl rfl ?_
    refine j_callV E (c_m_fail hG (d-1) m r (nI 5) (nI i)) 95 dX8_refer_92 _ _ _ iv_X8_147 rfl rfl rfl (by repeat (first | with_reducible exact pick_0 | with_reducible apply pick_s | exact sel_0 | apply sel_s)) (by omega) (by omega) (by omega) (Nat.le_of_ble_eq_true rfl) rfl ?_
    rintro _ _ _ _ ⟨rfl, rfl, rfl, rfl⟩
    dsimp only [List.cons_append, List.nil_append, Option.toList]
    exact j_zret E B rfl (by first | exact Or.inl rfl | exact Or.inr rfl) 0 0 dX8_refer_95 (by repeat (first | with_reducible exact pick_0 | with_reducible apply pick_s | exact sel_0 | apply sel_s)) ⟨rfl, rfl, rfl, rfl⟩ (by omega) (by omega) (by omega) (by omega)
  have at71 : ∀ (k : Int64) (l4 l5 l7 : Option Value), (0 ≤ k.toInt ∧ k.toInt < gs.length → ∃ rest, RR = .inr (gs.getD k.toInt.toNat 0, rest)) → (¬ (0 ≤ k.toInt ∧ k.toInt < gs.length) → RR = .inl (5, i)) → J X 8 [MF m r th ts os vc lc bc pkd pkg cm fu op fc fp at_ (nI gs.length) got pr, BA X.1 (r 1) bs, GS X.1 r gs, F] 0 0 71 [some (.ref m), some (.int (nI j)), some (.int (nI b)), some (.int (nI i)), l4, l5, some (.long k), l7] [] := by
    intro k l4 l5 l7 c1 c2
    refine j_lload E 73 dX8_refer_71 rfl rfl ?_
    refine j_lconst E 0 74 dX8_refer_73 rfl rfl ?_
    refine j_lcmp E 75 dX8_refer_74 rfl ?_
    refine j_if_lt E 89 78 dX8_refer_75 (by decide) rfl (fun h75 => ?_) (fun h75 => ?_)
    · have q : k.toInt < 0 := (fa_lt64 _ _).mp ((lg_cmp_lt _ _).mp h75)
      exact at89 _ _ _ _ (c2 (fun y => by omega))
    · have q : ¬ k.toInt < 0 := fun y => h75 ((lg_cmp_lt _ _).mpr ((fa_lt64 k 0).mpr y))
      refine j_lload E 80 dX8_refer_78 rfl rfl ?_
      refine j_aload_n E 81 dX8_refer_80 0 rfl rfl rfl ?_
      refine j_getf E 84 dX8_refer_81 fl_X8_183 (by repeat (first | with_reducible exact pick_0 | with_reducible apply pick_s)) (by rfl) rfl ?_
      refine j_i2l E 85 dX8_refer_84 rfl ?_
      refine j_eql (nI_l (by omega)) ?_
      refine j_lcmp E 86 dX8_refer_85 rfl ?_
      refine j_if_lt E 96 89 dX8_refer_86 (by decide) rfl (fun h86 => ?_) (fun h86 => ?_)
      · have q2 := (fa_lt64 _ _).mp ((lg_cmp_lt _ _).mp h86)
        rw [lN_tiB (by omega)] at q2
        obtain ⟨rest, hr⟩ := c1 ⟨by omega, q2⟩
        obtain ⟨t, ht, hk, hkt⟩ := lN_of (t := k) (n := gs.length) (by omega) q2 (by omega)
        rw [hkt] at hr
        rw [hr] at B
        dsimp only at B
        rw [hk]
        refine j_open (by repeat (first | with_reducible exact pick_0 | with_reducible apply pick_s)) gs_open ?_
        rintro f ⟨hf, hf2⟩
        dsimp only [List.cons_append, List.nil_append]
        refine j_aload_n E 97 dX8_refer_96 0 rfl rfl rfl ?_
        refine j_aload_n E 98 dX8_refer_97 0 rfl rfl rfl ?_
        refine j_getf E 101 dX8_refer_98 fl_X8_68 (by repeat (first | with_reducible exact pick_0 | with_reducible apply pick_s)) (by rfl) rfl ?_
        refine j_lload E 103 dX8_refer_101 rfl rfl ?_
        refine j_l2i E 104 dX8_refer_103 rfl ?_
        refine j_eqi (lN_i t) ?_
        refine j_iald E 105 dX8_refer_104 (by repeat (first | with_reducible exact pick_0 | with_reducible apply pick_s)) (vp_in_nI (by omega) (by omega)) rfl ?_
        refine j_eqi (y := nI (gs.getD t 0)) (by rw [nI_clamp (by omega)]; exact hf t ht) ?_
        refine j_putf E 108 dX8_refer_105 fl_X8_169 (by repeat (first | with_reducible exact pick_0 | with_reducible apply pick_s)) rfl rfl (Nat.le_of_ble_eq_true rfl) rfl ?_
        dsimp only [List.set]
        refine j_iconst E (1) 109 dX8_refer_108 (by decide) rfl ?_
        refine j_close (by repeat (first | with_reducible exact pick_0 | with_reducible apply pick_s | exact sel_0 | apply sel_s)) (gs_of gs ⟨hf, hf2⟩) ?_
        exact j_zret E B rfl (by first | exact Or.inl rfl | exact Or.inr rfl) 0 0 dX8_refer_109 (by repeat (first | with_reducible exact pick_0 | with_reducible apply pick_s | exact sel_0 | apply sel_s)) ⟨rfl, rfl, rfl, rfl⟩ (by omega) (by omega) (by omega) (by omega)
      · have q2 : ¬ k.toInt < (lN gs.length).toInt := fun y => h86 ((lg_cmp_lt _ _).mpr ((fa_lt64 _ _).mpr y))
        rw [lN_tiB (by omega)] at q2
        exact at89 _ _ _ _ (c2 (fun y => q2 y.2))
  have at48 : ∀ (x4 : Int32), RR = .inl (5, i) → J X 8 [MF m r th ts os vc lc bc pkd pkg cm fu op fc fp at_ (nI gs.length) got pr, BA X.1 (r 1) bs, GS X.1 r gs, F] 0 0 48 [some (.ref m), some (.int (nI j)), some (.int (nI b)), some (.int (nI i)), some (.int x4), none, none, none] [] := by
    intro x4 hr
    refine j_iconst E (0) 49 dX8_refer_48 (by decide) rfl ?_
    refine j_istore E 51 dX8_refer_49 (Nat.le_of_ble_eq_true rfl) rfl rfl ?_
    dsimp only [List.set]
    refine j_iload E 53 dX8_refer_51 rfl rfl ?_
    refine j_if_eq E 66 56 dX8_refer_53 (by decide) rfl (fun h53 => ?_) (fun h53 => ?_)
    · refine j_ldcL E _ 69 dX8_refer_66 kc_X8_181 rfl ?_
      refine j_lstore E 71 dX8_refer_69 (Nat.le_of_ble_eq_true rfl) rfl rfl ?_
      dsimp only [List.set]
      exact at71 _ _ _ _ (fun y => absurd y.1 (by decide)) (fun _ => hr)
    · exact absurd rfl h53
  refine j_iload_n E 1 dX8_refer_0 2 rfl rfl rfl ?_
  refine j_if_le E 17 4 dX8_refer_1 (by decide) rfl (fun h1 => ?_) (fun h1 => ?_)
  · have q : b = 0 := by
      rcases Nat.eq_zero_or_pos b with y | y
      · exact y
      · exact absurd h1 (nI_nle y (by omega))
    rw [if_pos q] at hRR
    refine j_iconst E (0) 18 dX8_refer_17 (by decide) rfl ?_
    refine j_istore E 20 dX8_refer_18 (Nat.le_of_ble_eq_true rfl) rfl rfl ?_
    dsimp only [List.set]
    refine j_iload_n E 21 dX8_refer_20 2 rfl rfl rfl ?_
    refine j_if_le E 48 24 dX8_refer_21 (by decide) rfl (fun h21 => ?_) (fun h21 => ?_)
    · exact j_sel (by repeat (first | with_reducible exact pick_0 | with_reducible apply pick_s | exact sel_0 | apply sel_s)) (at48 _ hRR)
    · exact absurd h1 h21
  · have q : 0 < b := by
      rcases Nat.eq_zero_or_pos b with y | y
      · exfalso
        rw [y] at h1
        exact h1 (by decide)
      · exact y
    rw [if_neg (by omega)] at hRR
    have hl := bN_lt bs j
    have hiff := ref_iff hjb q
    refine j_aload_n E 5 dX8_refer_4 0 rfl rfl rfl ?_
    refine j_getf E 8 dX8_refer_5 fl_X8_8 (by repeat (first | with_reducible exact pick_0 | with_reducible apply pick_s)) (by rfl) rfl ?_
    refine j_iload_n E 9 dX8_refer_8 1 rfl rfl rfl ?_
    refine j_baldBA E 10 dX8_refer_9 (by repeat (first | with_reducible exact pick_0 | with_reducible apply pick_s)) (by omega) rfl ?_
    refine j_sipush E (255) 13 dX8_refer_10 (by decide) rfl ?_
    refine j_iand E 14 dX8_refer_13 rfl ?_
    refine j_eqi (by8_bN bs j) ?_
    refine j_goto E 18 dX8_refer_14 (by decide) ?_
    refine j_istore E 20 dX8_refer_18 (Nat.le_of_ble_eq_true rfl) rfl rfl ?_
    dsimp only [List.set]
    refine j_iload_n E 21 dX8_refer_20 2 rfl rfl rfl ?_
    refine j_if_le E 48 24 dX8_refer_21 (by decide) rfl (fun h21 => ?_) (fun h21 => ?_)
    · exact absurd h21 h1
    · refine j_iload E 26 dX8_refer_24 rfl rfl ?_
      refine j_callS E (c_m_kind hG (d-1) (bN bs j) hl) 29 dX8_refer_26 iv_X8_77 rfl rfl (by repeat (first | with_reducible exact pick_0 | with_reducible apply pick_s | exact sel_0 | apply sel_s)) (by omega) (by omega) (by omega) (Nat.le_of_ble_eq_true rfl) rfl ?_
      rintro _ _ _ _ ⟨rfl, rfl, rfl, rfl⟩
      dsimp only [List.cons_append, List.nil_append, Option.toList]
      refine j_iconst E (2) 30 dX8_refer_29 (by decide) rfl ?_
      refine j_icmp_ne E 48 33 dX8_refer_30 (by decide) rfl (fun h30 => ?_) (fun h30 => ?_)
      · have q2 : ¬ kO (bN bs j) = 2 := fun y => h30 ((kI_eq (kOle hl) (b := 2) (by decide)).mpr y)
        exact j_sel (by repeat (first | with_reducible exact pick_0 | with_reducible apply pick_s | exact sel_0 | apply sel_s)) (at48 _ (by rw [hRR, if_neg (fun y => q2 (hiff.mp y).1)]))
      · have q2 : kO (bN bs j) = 2 := (kI_eq (kOle hl) (b := 2) (by decide)).mp h30
        have hw := wOle hl
        refine j_iload_n E 34 dX8_refer_33 2 rfl rfl rfl ?_
        refine j_iconst E (1) 35 dX8_refer_34 (by decide) rfl ?_
        refine j_iload E 37 dX8_refer_35 rfl rfl ?_
        refine j_callS E (c_m_width hG (d-1) (bN bs j) hl) 40 dX8_refer_37 iv_X8_81 rfl rfl (by repeat (first | with_reducible exact pick_0 | with_reducible apply pick_s | exact sel_0 | apply sel_s)) (by omega) (by omega) (by omega) (Nat.le_of_ble_eq_true rfl) rfl ?_
        rintro _ _ _ _ ⟨rfl, rfl, rfl, rfl⟩
        dsimp only [List.cons_append, List.nil_append, Option.toList]
        refine j_iadd E 41 dX8_refer_40 rfl ?_
        refine j_eqi (nI_add 1 (wO (bN bs j))) ?_
        refine j_icmp_ne E 48 44 dX8_refer_41 (by decide) rfl (fun h41 => ?_) (fun h41 => ?_)
        · have q3 : ¬ b = 1 + wO (bN bs j) := fun y => h41 (by rw [← y])
          exact j_sel (by repeat (first | with_reducible exact pick_0 | with_reducible apply pick_s | exact sel_0 | apply sel_s)) (at48 _ (by rw [hRR, if_neg (fun y => q3 (hiff.mp y).2)]))
        · have q3 : b = 1 + wO (bN bs j) := (nI_eq (by omega) (by omega)).mp h41
          rw [if_pos (hiff.mpr ⟨q2, q3⟩), ref_w (by omega) q2] at hRR
          refine j_iconst E (1) 45 dX8_refer_44 (by decide) rfl ?_
          refine j_goto E 49 dX8_refer_45 (by decide) ?_
          refine j_istore E 51 dX8_refer_49 (Nat.le_of_ble_eq_true rfl) rfl rfl ?_
          dsimp only [List.set]
          refine j_iload E 53 dX8_refer_51 rfl rfl ?_
          refine j_if_eq E 66 56 dX8_refer_53 (by decide) rfl (fun h53 => ?_) (fun h53 => ?_)
          · exact absurd h53 (by decide)
          · refine j_aload_n E 57 dX8_refer_56 0 rfl rfl rfl ?_
            refine j_iload E 59 dX8_refer_57 rfl rfl ?_
            refine j_iload_n E 60 dX8_refer_59 1 rfl rfl rfl ?_
            refine j_callV E (c_m_intAt hG (d-1) m r j bs (by omega) (by omega) q2) 63 dX8_refer_60 _ _ _ iv_X8_178 rfl rfl rfl (by repeat (first | with_reducible exact pick_0 | with_reducible apply pick_s | exact sel_0 | apply sel_s)) (by omega) (by omega) (by omega) (Nat.le_of_ble_eq_true rfl) rfl ?_
            rintro _ _ _ _ ⟨rfl, rfl, rfl, rfl⟩
            dsimp only [List.cons_append, List.nil_append, Option.toList]
            refine j_goto E 69 dX8_refer_63 (by decide) ?_
            refine j_lstore E 71 dX8_refer_69 (Nat.le_of_ble_eq_true rfl) rfl rfl ?_
            dsimp only [List.set]
            exact j_sel (by repeat (first | with_reducible exact pick_0 | with_reducible apply pick_s | exact sel_0 | apply sel_s)) (at71 _ _ _ _ (fun y => by rw [if_pos y] at hRR; exact ⟨_, hRR⟩) (fun y => by rw [if_neg y] at hRR; exact hRR))

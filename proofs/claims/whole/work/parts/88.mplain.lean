/-! the model: readPlain, refer -/
theorem kO_1 : ∀ b : Fin 256, kO b.val = 1 ↔ (b.val = 194 ∨ b.val = 195) := by decide +kernel
theorem w_1 : ∀ b : Fin 256, kO b.val = 1 → wO b.val = 0 := by decide +kernel
theorem kO_207 : kO 207 = 2 := by decide
/-- what a plain value is -/
def plV (bs : List UInt8) (i k b : Nat) : VT := if k = 1 then (1, 0, nI (bN bs i) - 194, [], []) else if k = 2 then (2, intV bs i b, (if intV bs i b < 0 ∧ bN bs i = 207 then 1 else 0), [], []) else (k, lN (beN bs (i + 1) b), 0, [], [])
set_option maxHeartbeats 8000000 in
theorem c_m_readPlain {g : GT} (hG : GLB g) (d m : Nat) (r : Nat → Nat) {th ts os lc bc pkd pkg cm fu op fc fp at_ bgc : Int32} {pr : Int64} (got : Int32) (k i : Nat) (bs : List UInt8) (us : List VT) (zs : List Nat) (R : LK) (nb : Nat) (mk : Nat → Nat) (hd : 2 ≤ d) (h3 : us.length < 3000) (hk : kO (bN bs i) = k) (hk4 : k ≤ 4) (hi : i + (1 + wO (bN bs i)) ≤ bs.length) : CtrV g mX8_readPlain 7 d 0 0 m [.int (nI k), .int (nI (bN bs i)), .int (nI i)] [MF m r th ts os (nI us.length) lc bc pkd pkg cm fu op fc fp at_ bgc got pr, BA g (r 1) bs, TB g r us zs R nb mk] (fun o dc ds ws' => o = none ∧ dc = 0 ∧ ds = 0 ∧ ws' = [MF m r th ts os (nI (us.length + 1)) lc bc pkd pkg cm fu op fc fp at_ bgc (nI us.length) pr, BA g (r 1) bs, TB g r (us ++ [plV bs i k (wO (bN bs i))]) (zs ++ [0]) R nb (mkS mk us.length 0)]) noX := by
  refine ⟨rcv_pt, ?_⟩
  obtain ⟨V, hV⟩ : ∃ V, V = plV bs i k (wO (bN bs i)) := ⟨_, rfl⟩
  rw [← hV]
  obtain ⟨lb, hlb⟩ : ∃ lb, lb = bN bs i := ⟨_, rfl⟩
  have hl : lb < 256 := by rw [hlb]; exact bN_lt bs i
  rw [plV, ← hlb] at hV
  rw [← hlb] at hi hk ⊢
  refine ctr_intro hG (by decide +kernel) (Nat.le_of_ble_eq_true rfl) ?_
  rintro X F rfl E B hI T
  replace E : JE X RX8 cX8_readPlain 6 d 0 0 := E
  show J X _ [MF m r th ts os (nI us.length) lc bc pkd pkg cm fu op fc fp at_ bgc got pr, BA X.1 (r 1) bs, TB X.1 r us zs R nb mk, F] 0 0 0 [some (.ref m), some (.int (nI k)), some (.int (nI lb)), some (.int (nI i)), none, none] []
  refine j_know (pick_know (P := BA X.1 (r 1) bs) (by repeat (first | with_reducible exact pick_0 | with_reducible apply pick_s)) ba_know) (fun hbl => ?_)
  refine j_know (pick_know (P := TB X.1 r us zs R nb mk) (by repeat (first | with_reducible exact pick_0 | with_reducible apply pick_s)) tb_know) (fun hk9 => ?_)
  have hk1 := kO_1 ⟨lb, hl⟩
  dsimp only at hk1
  rw [hk] at hk1
  have fin : ∀ (nm : Int64) (e : Int32) (l4 : Option Value), V = (k, nm, e, [], []) → J X 6 [MF m r th ts os (nI (us.length + 1)) lc bc pkd pkg cm fu op fc fp at_ bgc (nI us.length) pr, BA X.1 (r 1) bs, TB X.1 r (us ++ [(k, nm, e, [], [])]) (zs ++ [0]) R nb (mkS mk us.length 0), F] (0 + 0) (0 + 0) 100 [some (.ref m), some (.int (nI k)), some (.int (nI lb)), some (.int (nI i)), l4, none] [] := by
    intro nm e l4 he
    rw [he] at B
    exact j_vret E B rfl 0 0 dX8_readPlain_100 (by repeat (first | with_reducible exact pick_0 | with_reducible apply pick_s | exact sel_0 | apply sel_s)) ⟨rfl, rfl, rfl, rfl⟩ (by omega) (by omega) (by omega) (by omega)
  have at45 : ∀ (nm nv : Int64), (k = 1 → nm = 0) → (k = 2 → nm = nv ∧ nm = intV bs i (wO lb)) → (¬ k = 1 → ¬ k = 2 → nm = lN (beN bs (i + 1) (wO lb))) → J X 6 [MF m r th ts os (nI us.length) lc bc pkd pkg cm fu op fc fp at_ bgc got pr, BA X.1 (r 1) bs, TB X.1 r us zs R nb mk, F] (0 + 0) (0 + 0) 45 [some (.ref m), some (.int (nI k)), some (.int (nI lb)), some (.int (nI i)), some (.long nv), none] [.long nm, .int (nI k), .ref m, .ref m] := by
    intro nm nv c1 c2 c3
    have hk2 : k = 2 → ¬ lb = 195 := fun q y => by
      have := hk1.mpr (Or.inr y)
      omega
    refine j_callV E (c_m_make hG (d-1) m r k nm us zs R nb mk h3) 48 dX8_readPlain_45 _ _ _ iv_X8_110 rfl rfl rfl (by repeat (first | with_reducible exact pick_0 | with_reducible apply pick_s | exact sel_0 | apply sel_s)) (by omega) (by omega) (by omega) (Nat.le_of_ble_eq_true rfl) rfl ?_
    rintro _ _ _ _ ⟨rfl, rfl, rfl, rfl⟩
    dsimp only [List.cons_append, List.nil_append, Option.toList]
    refine j_putf E 51 dX8_readPlain_48 fl_X8_169 (by repeat (first | with_reducible exact pick_0 | with_reducible apply pick_s)) rfl rfl (Nat.le_of_ble_eq_true rfl) rfl ?_
    dsimp only [List.set]
    have e1 : ∀ x : Int32, x = (if lb = 195 then 1 else 0) → (k = 2 → x = 0) := fun x hx q => by rw [hx, if_neg (hk2 q)]
    have at72 : ∀ x : Int32, x = (if lb = 195 then 1 else 0) → J X 6 [MF m r th ts os (nI (us.length + 1)) lc bc pkd pkg cm fu op fc fp at_ bgc (nI us.length) pr, BA X.1 (r 1) bs, TB X.1 r (us ++ [(k, nm, (if k = 2 then 0 else x), [], [])]) (zs ++ [0]) R nb (mkS mk us.length 0), F] (0 + 0) (0 + 0) 72 [some (.ref m), some (.int (nI k)), some (.int (nI lb)), some (.int (nI i)), some (.long nv), none] [] := by
      intro x hx
      have ex : k = 1 → x = nI lb - 194 := fun q => by
        rcases hk1.mp q with y | y
        · rw [hx, y]
          rfl
        · rw [hx, y]
          rfl
      have ex2 : ¬ k = 1 → x = 0 := fun q => by rw [hx, if_neg (fun y => q (hk1.mpr (Or.inr y)))]
      have done : ∀ y : Int32, (k = 2 → y = if intV bs i (wO lb) < 0 ∧ lb = 207 then 1 else 0) → V = (k, nm, (if k = 2 then y else (if k = 2 then 0 else x)), [], []) := by
        intro y hy
        rw [hV]
        by_cases q1 : k = 1
        · rw [if_pos q1, if_neg (by omega), if_neg (by omega), c1 q1, ex q1, q1]
        · rw [if_neg q1]
          by_cases q2 : k = 2
          · rw [if_pos q2, if_pos q2, hy q2, (c2 q2).2, q2]
          · rw [if_neg q2, if_neg q2, if_neg q2, ex2 q1, c3 q1 q2]
      refine j_aload_n E 73 dX8_readPlain_72 0 rfl rfl rfl ?_
      refine j_getf E 76 dX8_readPlain_73 fl_X8_25 (by repeat (first | with_reducible exact pick_0 | with_reducible apply pick_s)) (by rfl) rfl ?_
      refine j_aload_n E 77 dX8_readPlain_76 0 rfl rfl rfl ?_
      refine j_getf E 80 dX8_readPlain_77 fl_X8_169 (by repeat (first | with_reducible exact pick_0 | with_reducible apply pick_s)) (by rfl) rfl ?_
      refine j_iload_n E 81 dX8_readPlain_80 2 rfl rfl rfl ?_
      refine j_sipush E (207) 84 dX8_readPlain_81 (by decide) rfl ?_
      refine j_icmp_ne E 98 87 dX8_readPlain_84 (by decide) rfl (fun h84 => ?_) (fun h84 => ?_)
      · refine j_iconst E (0) 99 dX8_readPlain_98 (by decide) rfl ?_
        refine j_tbHs E 100 dX8_readPlain_99 (by repeat (first | with_reducible exact pick_0 | with_reducible apply pick_s)) (Or.inl rfl) rfl ?_
        dsimp only
        exact j_sel (by repeat (first | with_reducible exact pick_0 | with_reducible apply pick_s | exact sel_0 | apply sel_s)) (fin nm _ _ (done 0 (fun _ => by rw [if_neg (fun y => h84 (by rw [y.2]; rfl))])))
      · have q207 : lb = 207 := (nI_eq (b := 207) (by omega) (by decide)).mp h84
        have q2 : k = 2 := by rw [← hk, q207]; exact kO_207
        refine j_lload E 89 dX8_readPlain_87 rfl rfl ?_
        refine j_lconst E 0 90 dX8_readPlain_89 rfl rfl ?_
        refine j_lcmp E 91 dX8_readPlain_90 rfl ?_
        refine j_if_ge E 98 94 dX8_readPlain_91 (by decide) rfl (fun h91 => ?_) (fun h91 => ?_)
        · refine j_iconst E (0) 99 dX8_readPlain_98 (by decide) rfl ?_
          refine j_tbHs E 100 dX8_readPlain_99 (by repeat (first | with_reducible exact pick_0 | with_reducible apply pick_s)) (Or.inl rfl) rfl ?_
          dsimp only
          have q1 := (fa_le64 _ _).mp ((lg_cmp_ge _ _).mp h91)
          exact j_sel (by repeat (first | with_reducible exact pick_0 | with_reducible apply pick_s | exact sel_0 | apply sel_s)) (fin nm _ _ (done 0 (fun _ => by
            have z : ¬ (intV bs i (wO lb) < 0 ∧ lb = 207) := fun y => by
              have := (fa_lt64 _ _).mp y.1
              rw [← (c2 q2).2, (c2 q2).1] at this
              omega
            rw [if_neg z])))
        · refine j_iconst E (1) 95 dX8_readPlain_94 (by decide) rfl ?_
          refine j_goto E 99 dX8_readPlain_95 (by decide) ?_
          refine j_tbHs E 100 dX8_readPlain_99 (by repeat (first | with_reducible exact pick_0 | with_reducible apply pick_s)) (Or.inr ⟨rfl, q2⟩) rfl ?_
          dsimp only
          have q1 : ¬ (0 : Int64) ≤ nv := fun y => h91 ((lg_cmp_ge _ _).mpr y)
          exact j_sel (by repeat (first | with_reducible exact pick_0 | with_reducible apply pick_s | exact sel_0 | apply sel_s)) (fin nm _ _ (done 1 (fun _ => by
            have y : intV bs i (wO lb) < 0 := by
              rw [← (c2 q2).2, (c2 q2).1, fa_lt64]
              rw [fa_le64] at q1
              omega
            rw [if_pos ⟨y, q207⟩])))
    refine j_aload_n E 52 dX8_readPlain_51 0 rfl rfl rfl ?_
    refine j_getf E 55 dX8_readPlain_52 fl_X8_29 (by repeat (first | with_reducible exact pick_0 | with_reducible apply pick_s)) (by rfl) rfl ?_
    refine j_aload_n E 56 dX8_readPlain_55 0 rfl rfl rfl ?_
    refine j_getf E 59 dX8_readPlain_56 fl_X8_169 (by repeat (first | with_reducible exact pick_0 | with_reducible apply pick_s)) (by rfl) rfl ?_
    refine j_iload_n E 60 dX8_readPlain_59 2 rfl rfl rfl ?_
    refine j_sipush E (195) 63 dX8_readPlain_60 (by decide) rfl ?_
    refine j_icmp_ne E 70 66 dX8_readPlain_63 (by decide) rfl (fun h63 => ?_) (fun h63 => ?_)
    · refine j_iconst E (0) 71 dX8_readPlain_70 (by decide) rfl ?_
      refine j_tbEs E 72 dX8_readPlain_71 (by repeat (first | with_reducible exact pick_0 | with_reducible apply pick_s)) (fun _ => rfl) rfl ?_
      dsimp only
      exact j_sel (by repeat (first | with_reducible exact pick_0 | with_reducible apply pick_s | exact sel_0 | apply sel_s)) (at72 0 (by rw [if_neg (fun y => h63 (by rw [y]; rfl))]))
    · have q195 : lb = 195 := (nI_eq (b := 195) (by omega) (by decide)).mp h63
      refine j_iconst E (1) 67 dX8_readPlain_66 (by decide) rfl ?_
      refine j_goto E 71 dX8_readPlain_67 (by decide) ?_
      refine j_tbEs E 72 dX8_readPlain_71 (by repeat (first | with_reducible exact pick_0 | with_reducible apply pick_s)) (fun q => absurd q195 (hk2 q)) rfl ?_
      dsimp only
      exact j_sel (by repeat (first | with_reducible exact pick_0 | with_reducible apply pick_s | exact sel_0 | apply sel_s)) (at72 1 (by rw [if_pos q195]))
  refine j_iload_n E 1 dX8_readPlain_0 1 rfl rfl rfl ?_
  refine j_iconst E (2) 2 dX8_readPlain_1 (by decide) rfl ?_
  refine j_icmp_ne E 14 5 dX8_readPlain_2 (by decide) rfl (fun h2 => ?_) (fun h2 => ?_)
  · have q2 : ¬ k = 2 := fun q => h2 (by rw [q]; rfl)
    refine j_aload_n E 15 dX8_readPlain_14 0 rfl rfl rfl ?_
    refine j_aload_n E 16 dX8_readPlain_15 0 rfl rfl rfl ?_
    refine j_getf E 19 dX8_readPlain_16 fl_X8_8 (by repeat (first | with_reducible exact pick_0 | with_reducible apply pick_s)) (by rfl) rfl ?_
    refine j_iload_n E 20 dX8_readPlain_19 3 rfl rfl rfl ?_
    refine j_iconst E (1) 21 dX8_readPlain_20 (by decide) rfl ?_
    refine j_iadd E 22 dX8_readPlain_21 rfl ?_
    refine j_eqi (nI_1 i) ?_
    refine j_iload_n E 23 dX8_readPlain_22 2 rfl rfl rfl ?_
    refine j_callS E (c_m_width hG (d-1) lb hl) 26 dX8_readPlain_23 iv_X8_81 rfl rfl (by repeat (first | with_reducible exact pick_0 | with_reducible apply pick_s | exact sel_0 | apply sel_s)) (by omega) (by omega) (by omega) (Nat.le_of_ble_eq_true rfl) rfl ?_
    rintro _ _ _ _ ⟨rfl, rfl, rfl, rfl⟩
    dsimp only [List.cons_append, List.nil_append, Option.toList]
    refine j_callV E (c_m_number hG (d-1) m r (r 1) (i + 1) (wO lb) bs (by omega)) 29 dX8_readPlain_26 _ _ _ iv_X8_84 rfl rfl rfl (by repeat (first | with_reducible exact pick_0 | with_reducible apply pick_s | exact sel_0 | apply sel_s)) (by omega) (by omega) (by omega) (Nat.le_of_ble_eq_true rfl) rfl ?_
    rintro _ _ _ _ ⟨rfl, rfl, rfl, rfl⟩
    dsimp only [List.cons_append, List.nil_append, Option.toList]
    refine j_lstore E 31 dX8_readPlain_29 (Nat.le_of_ble_eq_true rfl) rfl rfl ?_
    dsimp only [List.set]
    refine j_aload_n E 32 dX8_readPlain_31 0 rfl rfl rfl ?_
    refine j_aload_n E 33 dX8_readPlain_32 0 rfl rfl rfl ?_
    refine j_iload_n E 34 dX8_readPlain_33 1 rfl rfl rfl ?_
    refine j_iload_n E 35 dX8_readPlain_34 1 rfl rfl rfl ?_
    refine j_iconst E (1) 36 dX8_readPlain_35 (by decide) rfl ?_
    refine j_icmp_ne E 43 39 dX8_readPlain_36 (by decide) rfl (fun h36 => ?_) (fun h36 => ?_)
    · refine j_lload E 45 dX8_readPlain_43 rfl rfl ?_
      have q1 : ¬ k = 1 := fun q => h36 (by rw [q]; rfl)
      exact at45 _ _ (fun q => absurd q q1) (fun q => absurd q q2) (fun _ _ => rfl)
    · refine j_lconst E 0 40 dX8_readPlain_39 rfl rfl ?_
      refine j_goto E 45 dX8_readPlain_40 (by decide) ?_
      have q1 : k = 1 := (nI_eq (b := 1) (by omega) (by decide)).mp h36
      exact at45 _ _ (fun _ => rfl) (fun q => absurd q q2) (fun q => absurd q1 q)
  · have q2 : k = 2 := (nI_eq (b := 2) (by omega) (by decide)).mp h2
    rw [hlb] at hk hi
    refine j_aload_n E 6 dX8_readPlain_5 0 rfl rfl rfl ?_
    refine j_iload_n E 7 dX8_readPlain_6 2 rfl rfl rfl ?_
    refine j_iload_n E 8 dX8_readPlain_7 3 rfl rfl rfl ?_
    rw [hlb]
    refine j_callV E (c_m_intAt hG (d-1) m r i bs (by omega) hi (by rw [hk, q2])) 11 dX8_readPlain_8 _ _ _ iv_X8_178 rfl rfl rfl (by repeat (first | with_reducible exact pick_0 | with_reducible apply pick_s | exact sel_0 | apply sel_s)) (by omega) (by omega) (by omega) (Nat.le_of_ble_eq_true rfl) rfl ?_
    rintro _ _ _ _ ⟨rfl, rfl, rfl, rfl⟩
    dsimp only [List.cons_append, List.nil_append, Option.toList]
    refine j_goto E 29 dX8_readPlain_11 (by decide) ?_
    refine j_lstore E 31 dX8_readPlain_29 (Nat.le_of_ble_eq_true rfl) rfl rfl ?_
    dsimp only [List.set]
    rw [← hlb]
    refine j_aload_n E 32 dX8_readPlain_31 0 rfl rfl rfl ?_
    refine j_aload_n E 33 dX8_readPlain_32 0 rfl rfl rfl ?_
    refine j_iload_n E 34 dX8_readPlain_33 1 rfl rfl rfl ?_
    refine j_iload_n E 35 dX8_readPlain_34 1 rfl rfl rfl ?_
    refine j_iconst E (1) 36 dX8_readPlain_35 (by decide) rfl ?_
    refine j_icmp_ne E 43 39 dX8_readPlain_36 (by decide) rfl (fun h36 => ?_) (fun h36 => ?_)
    · refine j_lload E 45 dX8_readPlain_43 rfl rfl ?_
      exact at45 _ _ (fun q => absurd q (by omega)) (fun q => ⟨rfl, rfl⟩) (fun _ q => absurd q2 q)
    · exact absurd (show nI k = nI 1 from h36) (fun y => absurd ((nI_eq (by omega) (by decide)).mp y) (by omega))

/-! the model: readGroup -/
theorem zset_new {zs : List Nat} {z c i : Nat} (h : i = zs.length) : (zs ++ [z]).set i c = zs ++ [c] := by
  rw [h, List.set_append_right _ _ (Nat.le_refl _), Nat.sub_self]
  rfl
theorem gs_push {gs : List Nat} {f : Nat → Int32} {v : Nat} (h : ∀ j, j < gs.length → f j = nI (gs.getD j 0)) : ∀ j, j < (gs ++ [v]).length → upd f gs.length (nI v) j = nI ((gs ++ [v]).getD j 0) := fun j hj => by
  by_cases q : j = gs.length
  · subst q
    rw [pk_us, List.getD_eq_getElem?_getD, List.getElem?_append_right (Nat.le_refl _), Nat.sub_self]
    rfl
  · rw [List.length_append, List.length_singleton] at hj
    rw [pk_un q, List.getD_eq_getElem?_getD, List.getElem?_append_left (by omega), ← List.getD_eq_getElem?_getD]
    exact h j (by omega)
theorem pl_push {s : PIL} {x : (Nat → Int32) × (Nat → Int64)} {gi : Nat} {l : Int64} (h : s.length ≤ 24 ∧ ∀ j e, s[j]? = some e → x.1 j = nI e.1 ∧ x.2 j = e.2) (h4 : s.length < 24) : (s ++ [(gi, l)]).length ≤ 24 ∧ ∀ j e, (s ++ [(gi, l)])[j]? = some e → upd x.1 s.length (nI gi) j = nI e.1 ∧ vp_updL x.2 s.length l j = e.2 := by
  have hls : (s ++ [(gi, l)]).length = s.length + 1 := by rw [List.length_append]; rfl
  refine ⟨by omega, fun j e he => ?_⟩
  by_cases q : j = s.length
  · subst q
    rw [show (s ++ [(gi, l)])[s.length]? = some (gi, l) by simp] at he
    cases he
    exact ⟨pk_us, pk_uLs⟩
  · have hjl := (List.getElem?_eq_some_iff.mp he).1
    rw [List.getElem?_append_left (by omega)] at he
    obtain ⟨y1, y2⟩ := h.2 j e he
    exact ⟨(pk_un q).trans y1, (pk_uLn q).trans y2⟩
set_option maxHeartbeats 8000000 in
theorem c_m_readGroup {g : GT} (hG : GLB g) (d m : Nat) (r : Nat → Nat) {th ts os lc bc pkd pkg cm fu : Int32}  (fc fp got at_ : Int32) (kd c b i np : Nat) (gs : List Nat) (s : PIL) (bs : List UInt8) (us : List VT) (zs : List Nat) (R : LK) (nb : Nat) (mk : Nat → Nat) (hd : 4 ≤ d) (hk : kd = 7 ∨ kd = 8) (hb : b = if kd = 8 then 2 * c else c) (hc : c < 2 ^ 40) (hi : i < bs.length) (hgs : gs.length ≤ us.length) (hnp : np ≤ 6000) : CtrV g mX8_readGroup 7 d 0 0 m [.int (nI kd), .long (lN c), .int (nI i)] [MF m r th ts os (nI us.length) lc bc pkd pkg cm fu (nI s.length) fc fp at_ (nI gs.length) got (lN np), BA g (r 1) bs, TB g r us zs R nb mk, GS g r gs, PL g r s] (fun o dc ds ws' => dc = 0 ∧ ds = 0 ∧
    if s.length = 24 then o = some (.int 0) ∧ ws' = [MF m r th ts os (nI us.length) lc bc pkd pkg cm fu (nI s.length) (nI 6) (nI i) at_ (nI gs.length) got (lN np), BA g (r 1) bs, TB g r us zs R nb mk, GS g r gs, PL g r s]
    else if us.length < 3000 ∧ np + b ≤ 6000 then o = some (.int 1) ∧ ws' = [MF m r th ts os (nI (us.length + 1)) lc bc pkd pkg cm fu (nI (s.length + 1)) fc fp (nI (i + hO (bN bs i))) (nI (gs.length + 1)) (nI us.length) (lN (np + b)), BA g (r 1) bs, TB g r (us ++ [(kd, 0, 0, [], [])]) (zs ++ [c]) R nb (mkS mk us.length 0), GS g r (gs ++ [us.length]), PL g r (s ++ [(us.length, lN b)])]
    else o = some (.int 0) ∧ ws' = [MF m r th ts os (nI us.length) lc bc pkd pkg cm fu (nI s.length) (nI 7) (nI i) at_ (nI gs.length) got (lN np), BA g (r 1) bs, TB g r us zs R nb mk, GS g r gs, PL g r s]) noX := by
  refine ⟨rcv_pt, ?_⟩
  refine ctr_intro hG (by decide +kernel) (Nat.le_of_ble_eq_true rfl) ?_
  rintro X F rfl E B hI T
  replace E : JE X RX8 cX8_readGroup 7 d 0 0 := E
  show J X _ [MF m r th ts os (nI us.length) lc bc pkd pkg cm fu (nI s.length) fc fp at_ (nI gs.length) got (lN np), BA X.1 (r 1) bs, TB X.1 r us zs R nb mk, GS X.1 r gs, PL X.1 r s, F] 0 0 0 [some (.ref m), some (.int (nI kd)), some (.long (lN c)), none, some (.int (nI i)), none, none] []
  refine j_know (pick_know (P := BA X.1 (r 1) bs) (by repeat (first | with_reducible exact pick_0 | with_reducible apply pick_s)) ba_know) (fun hbl => ?_)
  refine j_know (pick_know (P := TB X.1 r us zs R nb mk) (by repeat (first | with_reducible exact pick_0 | with_reducible apply pick_s)) tb_know) (fun hk9 => ?_)
  refine j_know (pick_know (P := PL X.1 r s) (by repeat (first | with_reducible exact pick_0 | with_reducible apply pick_s)) pl_know) (fun hpl => ?_)
  refine j_aload_n E 1 dX8_readGroup_0 0 rfl rfl rfl ?_
  refine j_getf E 4 dX8_readGroup_1 fl_X8_186 (by repeat (first | with_reducible exact pick_0 | with_reducible apply pick_s)) (by rfl) rfl ?_
  refine j_bipush E (24) 6 dX8_readGroup_4 (by decide) rfl ?_
  refine j_icmp_ne E 18 9 dX8_readGroup_6 (by decide) rfl (fun h6 => ?_) (fun h6 => ?_)
  · have h24 : ¬ s.length = 24 := fun q => h6 (by rw [q]; rfl)
    have hbb : b < 2 ^ 42 := by
      rw [hb]
      split <;> omega
    simp only [if_neg h24] at B
    have bad : ¬ (us.length < 3000 ∧ np + b ≤ 6000) → J X 7 [MF m r th ts os (nI us.length) lc bc pkd pkg cm fu (nI s.length) fc fp at_ (nI gs.length) got (lN np), BA X.1 (r 1) bs, TB X.1 r us zs R nb mk, GS X.1 r gs, PL X.1 r s, F] 0 0 59 [some (.ref m), some (.int (nI kd)), some (.long (lN c)), none, some (.int (nI i)), some (.long (lN b)), none] [] := by
      intro hn
      simp only [if_neg hn] at B
      refine j_aload_n E 60 dX8_readGroup_59 0 rfl rfl rfl ?_
      refine j_bipush E (7) 62 dX8_readGroup_60 (by decide) rfl ?_
      refine j_iload E 64 dX8_readGroup_62 rfl rfl ?_
      refine j_callV E (c_m_fail hG (d-1) m r (nI 7) (nI i)) 67 dX8_readGroup_64 _ _ _ iv_X8_147 rfl rfl rfl (by repeat (first | with_reducible exact pick_0 | with_reducible apply pick_s | exact sel_0 | apply sel_s)) (by omega) (by omega) (by omega) (Nat.le_of_ble_eq_true rfl) rfl ?_
      rintro _ _ _ _ ⟨rfl, rfl, rfl, rfl⟩
      dsimp only [List.cons_append, List.nil_append, Option.toList]
      exact j_zret E B rfl (by first | exact Or.inl rfl | exact Or.inr rfl) 0 0 dX8_readGroup_67 (by repeat (first | with_reducible exact pick_0 | with_reducible apply pick_s | exact sel_0 | apply sel_s)) ⟨rfl, rfl, rfl, rfl⟩ (by omega) (by omega) (by omega) (by omega)
    have at35 : J X 7 [MF m r th ts os (nI us.length) lc bc pkd pkg cm fu (nI s.length) fc fp at_ (nI gs.length) got (lN np), BA X.1 (r 1) bs, TB X.1 r us zs R nb mk, GS X.1 r gs, PL X.1 r s, F] 0 0 35 [some (.ref m), some (.int (nI kd)), some (.long (lN c)), none, some (.int (nI i)), some (.long (lN b)), none] [] := by
      refine j_aload_n E 36 dX8_readGroup_35 0 rfl rfl rfl ?_
      refine j_getf E 39 dX8_readGroup_36 fl_X8_107 (by repeat (first | with_reducible exact pick_0 | with_reducible apply pick_s)) (by rfl) rfl ?_
      refine j_sipush E (3000) 42 dX8_readGroup_39 (by decide) rfl ?_
      refine j_icmp_eq E 59 45 dX8_readGroup_42 (by decide) rfl (fun h42 => ?_) (fun h42 => ?_)
      · have q : us.length = 3000 := (nI_eq (b := 3000) (by omega) (by decide)).mp h42
        exact bad (fun y => by omega)
      · have q : ¬ us.length = 3000 := fun y => h42 (by rw [y]; rfl)
        refine j_aload_n E 46 dX8_readGroup_45 0 rfl rfl rfl ?_
        refine j_getf E 49 dX8_readGroup_46 fl_X8_189 (by repeat (first | with_reducible exact pick_0 | with_reducible apply pick_s)) (by rfl) rfl ?_
        refine j_lload E 51 dX8_readGroup_49 rfl rfl ?_
        refine j_ladd E 52 dX8_readGroup_51 rfl ?_
        refine j_eql (lN_add np b) ?_
        refine j_ldcL E _ 55 dX8_readGroup_52 kc_X8_193 rfl ?_
        refine j_lcmp E 56 dX8_readGroup_55 rfl ?_
        refine j_if_le E 68 59 dX8_readGroup_56 (by decide) rfl (fun h56 => ?_) (fun h56 => ?_)
        · have q2 := (fa_le64 _ _).mp ((lg_cmp_le _ _).mp h56)
          rw [lN_tiB (by omega), show (6000 : Int64).toInt = 6000 by decide] at q2
          have hyes : us.length < 3000 ∧ np + b ≤ 6000 := ⟨by omega, by omega⟩
          simp only [if_pos hyes] at B
          refine j_aload_n E 69 dX8_readGroup_68 0 rfl rfl rfl ?_
          refine j_aload_n E 70 dX8_readGroup_69 0 rfl rfl rfl ?_
          refine j_getf E 73 dX8_readGroup_70 fl_X8_189 (by repeat (first | with_reducible exact pick_0 | with_reducible apply pick_s)) (by rfl) rfl ?_
          refine j_lload E 75 dX8_readGroup_73 rfl rfl ?_
          refine j_ladd E 76 dX8_readGroup_75 rfl ?_
          refine j_eql (lN_add np b) ?_
          refine j_putf E 79 dX8_readGroup_76 fl_X8_189 (by repeat (first | with_reducible exact pick_0 | with_reducible apply pick_s)) rfl rfl (Nat.le_of_ble_eq_true rfl) rfl ?_
          dsimp only [List.set]
          refine j_aload_n E 80 dX8_readGroup_79 0 rfl rfl rfl ?_
          refine j_aload_n E 81 dX8_readGroup_80 0 rfl rfl rfl ?_
          refine j_iload_n E 82 dX8_readGroup_81 1 rfl rfl rfl ?_
          refine j_lconst E 0 83 dX8_readGroup_82 rfl rfl ?_
          refine j_callV E (c_m_make hG (d-1) m r kd 0 us zs R nb mk (by omega)) 86 dX8_readGroup_83 _ _ _ iv_X8_110 rfl rfl rfl (by repeat (first | with_reducible exact pick_0 | with_reducible apply pick_s | exact sel_0 | apply sel_s)) (by omega) (by omega) (by omega) (Nat.le_of_ble_eq_true rfl) rfl ?_
          rintro _ _ _ _ ⟨rfl, rfl, rfl, rfl⟩
          dsimp only [List.cons_append, List.nil_append, Option.toList]
          refine j_putf E 89 dX8_readGroup_86 fl_X8_169 (by repeat (first | with_reducible exact pick_0 | with_reducible apply pick_s)) rfl rfl (Nat.le_of_ble_eq_true rfl) rfl ?_
          dsimp only [List.set]
          refine j_aload_n E 90 dX8_readGroup_89 0 rfl rfl rfl ?_
          refine j_getf E 93 dX8_readGroup_90 fl_X8_38 (by repeat (first | with_reducible exact pick_0 | with_reducible apply pick_s)) (by rfl) rfl ?_
          refine j_aload_n E 94 dX8_readGroup_93 0 rfl rfl rfl ?_
          refine j_getf E 97 dX8_readGroup_94 fl_X8_169 (by repeat (first | with_reducible exact pick_0 | with_reducible apply pick_s)) (by rfl) rfl ?_
          refine j_lload_n E 98 dX8_readGroup_97 2 rfl rfl rfl ?_
          refine j_l2i E 99 dX8_readGroup_98 rfl ?_
          rw [lN_i]
          refine j_tbZs E 100 dX8_readGroup_99 (by repeat (first | with_reducible exact pick_0 | with_reducible apply pick_s)) (by rw [List.length_append, List.length_singleton]; omega) rfl ?_
          rw [zset_new hk9.1.symm]
          refine j_open (by repeat (first | with_reducible exact pick_0 | with_reducible apply pick_s)) gs_open ?_
          rintro f ⟨hf, hf2⟩
          dsimp only [List.cons_append, List.nil_append]
          refine j_aload_n E 101 dX8_readGroup_100 0 rfl rfl rfl ?_
          refine j_getf E 104 dX8_readGroup_101 fl_X8_68 (by repeat (first | with_reducible exact pick_0 | with_reducible apply pick_s)) (by rfl) rfl ?_
          refine j_aload_n E 105 dX8_readGroup_104 0 rfl rfl rfl ?_
          refine j_getf E 108 dX8_readGroup_105 fl_X8_183 (by repeat (first | with_reducible exact pick_0 | with_reducible apply pick_s)) (by rfl) rfl ?_
          refine j_aload_n E 109 dX8_readGroup_108 0 rfl rfl rfl ?_
          refine j_getf E 112 dX8_readGroup_109 fl_X8_169 (by repeat (first | with_reducible exact pick_0 | with_reducible apply pick_s)) (by rfl) rfl ?_
          refine j_iast E 113 dX8_readGroup_112 (by repeat (first | with_reducible exact pick_0 | with_reducible apply pick_s)) (vp_in_nI (by omega) (by omega)) rfl ?_
          rw [nI_clamp (by omega)]
          refine j_aload_n E 114 dX8_readGroup_113 0 rfl rfl rfl ?_
          refine j_dup E 115 dX8_readGroup_114 rfl rfl ?_
          refine j_getf E 118 dX8_readGroup_115 fl_X8_183 (by repeat (first | with_reducible exact pick_0 | with_reducible apply pick_s)) (by rfl) rfl ?_
          refine j_iconst E (1) 119 dX8_readGroup_118 (by decide) rfl ?_
          refine j_iadd E 120 dX8_readGroup_119 rfl ?_
          refine j_eqi (nI_1 gs.length) ?_
          refine j_putf E 123 dX8_readGroup_120 fl_X8_183 (by repeat (first | with_reducible exact pick_0 | with_reducible apply pick_s)) rfl rfl (Nat.le_of_ble_eq_true rfl) rfl ?_
          dsimp only [List.set]
          refine j_close (by repeat (first | with_reducible exact pick_0 | with_reducible apply pick_s | exact sel_0 | apply sel_s)) (gs_of (gs ++ [us.length]) ⟨gs_push hf, by rw [List.length_append, List.length_singleton]; omega⟩) ?_
          refine j_open (by repeat (first | with_reducible exact pick_0 | with_reducible apply pick_s)) pl_open ?_
          rintro ⟨fv, fw⟩ hp9
          dsimp only [List.cons_append, List.nil_append] at hp9 ⊢
          refine j_aload_n E 124 dX8_readGroup_123 0 rfl rfl rfl ?_
          refine j_getf E 127 dX8_readGroup_124 fl_X8_62 (by repeat (first | with_reducible exact pick_0 | with_reducible apply pick_s)) (by rfl) rfl ?_
          refine j_aload_n E 128 dX8_readGroup_127 0 rfl rfl rfl ?_
          refine j_getf E 131 dX8_readGroup_128 fl_X8_186 (by repeat (first | with_reducible exact pick_0 | with_reducible apply pick_s)) (by rfl) rfl ?_
          refine j_aload_n E 132 dX8_readGroup_131 0 rfl rfl rfl ?_
          refine j_getf E 135 dX8_readGroup_132 fl_X8_169 (by repeat (first | with_reducible exact pick_0 | with_reducible apply pick_s)) (by rfl) rfl ?_
          refine j_iast E 136 dX8_readGroup_135 (by repeat (first | with_reducible exact pick_0 | with_reducible apply pick_s)) (vp_in_nI (by omega) (by omega)) rfl ?_
          rw [nI_clamp (by omega)]
          refine j_aload_n E 137 dX8_readGroup_136 0 rfl rfl rfl ?_
          refine j_getf E 140 dX8_readGroup_137 fl_X8_65 (by repeat (first | with_reducible exact pick_0 | with_reducible apply pick_s)) (by rfl) rfl ?_
          refine j_aload_n E 141 dX8_readGroup_140 0 rfl rfl rfl ?_
          refine j_getf E 144 dX8_readGroup_141 fl_X8_186 (by repeat (first | with_reducible exact pick_0 | with_reducible apply pick_s)) (by rfl) rfl ?_
          refine j_lload E 146 dX8_readGroup_144 rfl rfl ?_
          refine j_last E 147 dX8_readGroup_146 (by repeat (first | with_reducible exact pick_0 | with_reducible apply pick_s)) (vp_in_nI (by omega) (by omega)) rfl ?_
          rw [nI_clamp (by omega)]
          refine j_aload_n E 148 dX8_readGroup_147 0 rfl rfl rfl ?_
          refine j_dup E 149 dX8_readGroup_148 rfl rfl ?_
          refine j_getf E 152 dX8_readGroup_149 fl_X8_186 (by repeat (first | with_reducible exact pick_0 | with_reducible apply pick_s)) (by rfl) rfl ?_
          refine j_iconst E (1) 153 dX8_readGroup_152 (by decide) rfl ?_
          refine j_iadd E 154 dX8_readGroup_153 rfl ?_
          refine j_eqi (nI_1 s.length) ?_
          refine j_putf E 157 dX8_readGroup_154 fl_X8_186 (by repeat (first | with_reducible exact pick_0 | with_reducible apply pick_s)) rfl rfl (Nat.le_of_ble_eq_true rfl) rfl ?_
          dsimp only [List.set]
          refine j_close (by repeat (first | with_reducible exact pick_0 | with_reducible apply pick_s | exact sel_0 | apply sel_s)) (pl_of (s ++ [(us.length, lN b)]) (pl_push (x := (fv, fw)) hp9 (by omega))) ?_
          refine j_aload_n E 158 dX8_readGroup_157 0 rfl rfl rfl ?_
          refine j_iload E 160 dX8_readGroup_158 rfl rfl ?_
          refine j_aload_n E 161 dX8_readGroup_160 0 rfl rfl rfl ?_
          refine j_getf E 164 dX8_readGroup_161 fl_X8_8 (by repeat (first | with_reducible exact pick_0 | with_reducible apply pick_s)) (by rfl) rfl ?_
          refine j_iload E 166 dX8_readGroup_164 rfl rfl ?_
          refine j_baldBA E 167 dX8_readGroup_166 (by repeat (first | with_reducible exact pick_0 | with_reducible apply pick_s)) hi rfl ?_
          refine j_sipush E (255) 170 dX8_readGroup_167 (by decide) rfl ?_
          refine j_iand E 171 dX8_readGroup_170 rfl ?_
          refine j_eqi (by8_bN bs i) ?_
          have hl := bN_lt bs i
          refine j_callS E (c_m_head hG (d-1) (bN bs i) (by omega) hl) 174 dX8_readGroup_171 iv_X8_91 rfl rfl (by repeat (first | with_reducible exact pick_0 | with_reducible apply pick_s | exact sel_0 | apply sel_s)) (by omega) (by omega) (by omega) (Nat.le_of_ble_eq_true rfl) rfl ?_
          rintro _ _ _ _ ⟨rfl, rfl, rfl, rfl⟩
          dsimp only [List.cons_append, List.nil_append, Option.toList]
          refine j_iadd E 175 dX8_readGroup_174 rfl ?_
          refine j_eqi (nI_add i (hO (bN bs i))) ?_
          refine j_putf E 178 dX8_readGroup_175 fl_X8_144 (by repeat (first | with_reducible exact pick_0 | with_reducible apply pick_s)) rfl rfl (Nat.le_of_ble_eq_true rfl) rfl ?_
          dsimp only [List.set]
          refine j_iconst E (1) 179 dX8_readGroup_178 (by decide) rfl ?_
          exact j_zret E B rfl (by first | exact Or.inl rfl | exact Or.inr rfl) 0 0 dX8_readGroup_179 (by repeat (first | with_reducible exact pick_0 | with_reducible apply pick_s | exact sel_0 | apply sel_s)) ⟨rfl, rfl, rfl, rfl⟩ (by omega) (by omega) (by omega) (by omega)
        · have q2 : ¬ (lN (np + b)).toInt ≤ (6000 : Int64).toInt := fun y => h56 ((lg_cmp_le _ _).mpr ((fa_le64 _ _).mpr y))
          rw [lN_tiB (by omega), show (6000 : Int64).toInt = 6000 by decide] at q2
          exact j_sel (by repeat (first | with_reducible exact pick_0 | with_reducible apply pick_s | exact sel_0 | apply sel_s)) (bad (fun y => by omega))
    refine j_iload_n E 19 dX8_readGroup_18 1 rfl rfl rfl ?_
    refine j_bipush E (8) 21 dX8_readGroup_19 (by decide) rfl ?_
    refine j_icmp_ne E 32 24 dX8_readGroup_21 (by decide) rfl (fun h21 => ?_) (fun h21 => ?_)
    · have q8 : ¬ kd = 8 := fun q => h21 (by rw [q]; rfl)
      rw [if_neg q8] at hb
      rw [hb] at at35
      refine j_lload_n E 33 dX8_readGroup_32 2 rfl rfl rfl ?_
      refine j_lstore E 35 dX8_readGroup_33 (Nat.le_of_ble_eq_true rfl) rfl rfl ?_
      dsimp only [List.set]
      exact at35
    · have q8 : kd = 8 := (nI_eq (b := 8) (by omega) (by decide)).mp h21
      rw [if_pos q8] at hb
      refine j_ldcL E _ 27 dX8_readGroup_24 kc_X8_98 rfl ?_
      refine j_lload_n E 28 dX8_readGroup_27 2 rfl rfl rfl ?_
      refine j_lmul E 29 dX8_readGroup_28 rfl ?_
      refine j_eql (y := lN b) (by rw [hb]; exact (fa_litL 2).symm ▸ (lN_mul 2 c)) ?_
      refine j_goto E 33 dX8_readGroup_29 (by decide) ?_
      refine j_lstore E 35 dX8_readGroup_33 (Nat.le_of_ble_eq_true rfl) rfl rfl ?_
      dsimp only [List.set]
      exact at35
  · have h24 : s.length = 24 := (nI_eq (b := 24) (by omega) (by decide)).mp h6
    simp only [if_pos h24] at B
    refine j_aload_n E 10 dX8_readGroup_9 0 rfl rfl rfl ?_
    refine j_bipush E (6) 12 dX8_readGroup_10 (by decide) rfl ?_
    refine j_iload E 14 dX8_readGroup_12 rfl rfl ?_
    refine j_callV E (c_m_fail hG (d-1) m r (nI 6) (nI i)) 17 dX8_readGroup_14 _ _ _ iv_X8_147 rfl rfl rfl (by repeat (first | with_reducible exact pick_0 | with_reducible apply pick_s | exact sel_0 | apply sel_s)) (by omega) (by omega) (by omega) (Nat.le_of_ble_eq_true rfl) rfl ?_
    rintro _ _ _ _ ⟨rfl, rfl, rfl, rfl⟩
    dsimp only [List.cons_append, List.nil_append, Option.toList]
    exact j_zret E B rfl (by first | exact Or.inl rfl | exact Or.inr rfl) 0 0 dX8_readGroup_17 (by repeat (first | with_reducible exact pick_0 | with_reducible apply pick_s | exact sel_0 | apply sel_s)) ⟨rfl, rfl, rfl, rfl⟩ (by omega) (by omega) (by omega) (by omega)

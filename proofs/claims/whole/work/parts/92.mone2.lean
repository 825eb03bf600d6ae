/-! the model: readOne -/
def oneQ (g : GT) (m : Nat) (r : Nat → Nat) (th os lc pkd pkg cm fu : Int32)  (fc fp : Int32) (i np : Nat) (gs : List Nat) (s : PIL) (bs : List UInt8) (us : List VT) (zs : List Nat) (R : LK) (nb : Nat) (mk : Nat → Nat) (got : Int32) (RR : RO) (o : Option Value) (dc ds : Nat) (ws' : List Asn) : Prop := dc = 0 ∧ ds = 0 ∧ match RR with
  | .inl x => o = some (.int 0) ∧ ∃ at1 : Int32, ws' = [MF m r th (nI bs.length) os (nI us.length) lc (nI nb) pkd pkg cm fu (nI s.length) (nI x.1) (nI x.2) at1 (nI gs.length) got (lN np), BA g (r 1) bs, TB g r us zs R nb mk, GS g r gs, PL g r s]
  | .inr x => o = some (.int 1) ∧ ws' = [MF m r th (nI bs.length) os (nI (us.length + x.2.2.1.length)) lc (nI x.2.2.2.2.1) pkd pkg cm fu (nI (s ++ gpu bs i us.length).length) fc fp (nI x.2.1) (nI x.2.2.2.2.2.length) (nI x.1) (lN x.2.2.2.1), BA g (r 1) bs, TB g r (us ++ x.2.2.1) (zs ++ rz bs i x.2.2.1) R x.2.2.2.2.1 (mkN mk us.length x.2.2.1), GS g r x.2.2.2.2.2, PL g r (s ++ gpu bs i us.length)]
theorem ref_inr {bs : List UInt8} {i np nb h b : Nat} {gs : List Nat} {x : Nat × Nat × List VT × Nat × Nat × List Nat} (e : rdRef bs i np nb gs h b = .inr x) : x = (x.1, i + (h + b), [], np, nb, gs) := by
  unfold rdRef at e
  split at e
  · cases e
  · split at e
    · split at e
      · cases e
        rfl
      · cases e
    · cases e
set_option maxHeartbeats 16000000 in
theorem c_m_readOne {g : GT} (hG : GLB g) (d m : Nat) (r : Nat → Nat) {th os lc pkd pkg cm fu : Int32}  (fc fp got : Int32) (i np : Nat) (gs : List Nat) (s : PIL) (bs : List UInt8) (us : List VT) (zs : List Nat) (R : LK) (nb : Nat) (mk : Nat → Nat) (hd : 5 ≤ d) (hi : i ≤ bs.length) (hgs : gs.length ≤ us.length) (hnp : np ≤ 6000) : CtrV g mX8_readOne 7 d 0 0 m [] [MF m r th (nI bs.length) os (nI us.length) lc (nI nb) pkd pkg cm fu (nI s.length) fc fp (nI i) (nI gs.length) got (lN np), BA g (r 1) bs, TB g r us zs R nb mk, GS g r gs, PL g r s] (oneQ g m r th os lc pkd pkg cm fu fc fp i np gs s bs us zs R nb mk got (rd1 s.length bs i us.length np nb gs)) noX := by
  refine ⟨rcv_pt, ?_⟩
  obtain ⟨RR, hRR⟩ : ∃ RR, RR = rd1 s.length bs i us.length np nb gs := ⟨_, rfl⟩
  rw [← hRR]
  refine ctr_intro hG (by decide +kernel) (Nat.le_of_ble_eq_true rfl) ?_
  rintro X F rfl E B hI T
  replace E : JE X RX8 cX8_readOne 13 d 0 0 := E
  show J X _ [MF m r th (nI bs.length) os (nI us.length) lc (nI nb) pkd pkg cm fu (nI s.length) fc fp (nI i) (nI gs.length) got (lN np), BA X.1 (r 1) bs, TB X.1 r us zs R nb mk, GS X.1 r gs, PL X.1 r s, F] 0 0 0 [some (.ref m), none, none, none, none, none, none, none, none, none, none, none, none] []
  refine j_know (pick_know (P := BA X.1 (r 1) bs) (by repeat (first | with_reducible exact pick_0 | with_reducible apply pick_s)) ba_know) (fun hbl => ?_)
  refine j_know (pick_know (P := TB X.1 r us zs R nb mk) (by repeat (first | with_reducible exact pick_0 | with_reducible apply pick_s)) tb_know) (fun hk9 => ?_)
  refine j_know (pick_know (P := PL X.1 r s) (by repeat (first | with_reducible exact pick_0 | with_reducible apply pick_s)) pl_know) (fun hpl => ?_)
  rw [rd1] at hRR
  unfold oneQ at B
  refine j_aload_n E 1 dX8_readOne_0 0 rfl rfl rfl ?_
  refine j_getf E 4 dX8_readOne_1 fl_X8_144 (by repeat (first | with_reducible exact pick_0 | with_reducible apply pick_s)) (by rfl) rfl ?_
  refine j_istore_n E 5 dX8_readOne_4 1 rfl (Nat.le_of_ble_eq_true rfl) rfl rfl ?_
  dsimp only [List.set]
  refine j_iload_n E 6 dX8_readOne_5 1 rfl rfl rfl ?_
  refine j_aload_n E 7 dX8_readOne_6 0 rfl rfl rfl ?_
  refine j_getf E 10 dX8_readOne_7 fl_X8_88 (by repeat (first | with_reducible exact pick_0 | with_reducible apply pick_s)) (by rfl) rfl ?_
  refine j_icmp_lt E 23 13 dX8_readOne_10 (by decide) rfl (fun h10 => ?_) (fun h10 => ?_)
  · have q10 : i < bs.length := (nI_ltI (a := i) (b := bs.length) (by omega) (by omega)).mp h10
    rw [if_neg (by omega)] at hRR
    obtain ⟨lb, hlb⟩ : ∃ lb, lb = bN bs i := ⟨_, rfl⟩
    have hl : lb < 256 := by rw [hlb]; exact bN_lt bs i
    have hkle := kOle hl
    refine j_aload_n E 24 dX8_readOne_23 0 rfl rfl rfl ?_
    refine j_getf E 27 dX8_readOne_24 fl_X8_8 (by repeat (first | with_reducible exact pick_0 | with_reducible apply pick_s)) (by rfl) rfl ?_
    refine j_iload_n E 28 dX8_readOne_27 1 rfl rfl rfl ?_
    refine j_baldBA E 29 dX8_readOne_28 (by repeat (first | with_reducible exact pick_0 | with_reducible apply pick_s)) q10 rfl ?_
    refine j_sipush E (255) 32 dX8_readOne_29 (by decide) rfl ?_
    refine j_iand E 33 dX8_readOne_32 rfl ?_
    refine j_eqi (by8_bN bs i) ?_
    rw [← hlb]
    refine j_istore_n E 34 dX8_readOne_33 2 rfl (Nat.le_of_ble_eq_true rfl) rfl rfl ?_
    dsimp only [List.set]
    refine j_iload_n E 35 dX8_readOne_34 2 rfl rfl rfl ?_
    refine j_callS E (c_m_kind hG (d-1) lb hl) 38 dX8_readOne_35 iv_X8_77 rfl rfl (by repeat (first | with_reducible exact pick_0 | with_reducible apply pick_s | exact sel_0 | apply sel_s)) (by omega) (by omega) (by omega) (Nat.le_of_ble_eq_true rfl) rfl ?_
    rintro _ _ _ _ ⟨rfl, rfl, rfl, rfl⟩
    dsimp only [List.cons_append, List.nil_append, Option.toList]
    refine j_istore_n E 39 dX8_readOne_38 3 rfl (Nat.le_of_ble_eq_true rfl) rfl rfl ?_
    dsimp only [List.set]
    refine j_iload_n E 40 dX8_readOne_39 3 rfl rfl rfl ?_
    refine j_if_ge E 50 43 dX8_readOne_40 (by decide) rfl (fun h40 => ?_) (fun h40 => ?_)
    · have h12 : ¬ kO lb = 12 := fun q => by
        rw [q] at h40
        exact absurd h40 (by decide)
      have hkn : kI (kO lb) = nI (kO lb) := kI_nI (by omega)
      rw [hkn]
      have hhO := hO_le hl
      rw [if_neg (fun q => h12 (by rw [hlb]; exact lead_12.mp q))] at hRR
      refine j_iload_n E 51 dX8_readOne_50 1 rfl rfl rfl ?_
      refine j_iload_n E 52 dX8_readOne_51 2 rfl rfl rfl ?_
      refine j_callS E (c_m_head hG (d-1) lb (by omega) hl) 55 dX8_readOne_52 iv_X8_91 rfl rfl (by repeat (first | with_reducible exact pick_0 | with_reducible apply pick_s | exact sel_0 | apply sel_s)) (by omega) (by omega) (by omega) (Nat.le_of_ble_eq_true rfl) rfl ?_
      rintro _ _ _ _ ⟨rfl, rfl, rfl, rfl⟩
      dsimp only [List.cons_append, List.nil_append, Option.toList]
      refine j_iadd E 56 dX8_readOne_55 rfl ?_
      refine j_eqi (nI_add i (hO lb)) ?_
      refine j_aload_n E 57 dX8_readOne_56 0 rfl rfl rfl ?_
      refine j_getf E 60 dX8_readOne_57 fl_X8_88 (by repeat (first | with_reducible exact pick_0 | with_reducible apply pick_s)) (by rfl) rfl ?_
      refine j_icmp_le E 70 63 dX8_readOne_60 (by decide) rfl (fun h60 => ?_) (fun h60 => ?_)
      · have q60 : i+hO lb ≤ bs.length := (nI_leI (a := i+hO lb) (b := bs.length) (by omega) (by omega)).mp h60
        have hh : i + hO (bN bs i) ≤ bs.length := by rw [← hlb]; exact q60
        have h12' : ¬ kO (bN bs i) = 12 := by rw [← hlb]; exact h12
        have hlead := lead_mm h12' hh
        have hown := own_m h12' hh
        have h1w : 1 + wO lb ≤ hO lb := by unfold hO; omega
        obtain ⟨mm, hmm⟩ : ∃ mm, mm = mO bs i := ⟨_, rfl⟩
        have hmo : mm < 2 ^ 33 := by
          have e1 := (lead_ok bs i).2.2.2
          rw [hlead] at e1
          dsimp only at e1
          rw [hmm]
          by_cases q : kO (bN bs i) ≤ 4
          · rw [mO_4 q]
            decide
          · rw [if_neg q] at e1
            by_cases q8 : kO (bN bs i) = 8
            · rw [if_pos q8] at e1
              omega
            · rw [if_neg q8] at e1
              exact e1
        rw [hown, hlead, ← hlb, ← hmm] at hRR
        dsimp only at hRR
        obtain ⟨k, hk⟩ : ∃ k, k = kO lb := ⟨_, rfl⟩
        rw [← hk] at hRR hkle h12 ⊢
        have hk7 : kO (bN bs i) = k := by rw [hk, hlb]
        have hlb' := hlb
        have hi1 : i + (1 + wO (bN bs i)) ≤ bs.length := by rw [← hlb]; omega
        refine j_aload_n E 71 dX8_readOne_70 0 rfl rfl rfl ?_
        refine j_iload_n E 72 dX8_readOne_71 2 rfl rfl rfl ?_
        refine j_iload_n E 73 dX8_readOne_72 1 rfl rfl rfl ?_
        rw [hlb]
        refine j_callV E (c_m_many hG (d-1) m r i bs (by omega) hi1) 76 dX8_readOne_73 _ _ _ iv_X8_94 rfl rfl rfl (by repeat (first | with_reducible exact pick_0 | with_reducible apply pick_s | exact sel_0 | apply sel_s)) (by omega) (by omega) (by omega) (Nat.le_of_ble_eq_true rfl) rfl ?_
        rintro _ _ _ _ ⟨rfl, rfl, rfl, rfl⟩
        dsimp only [List.cons_append, List.nil_append, Option.toList]
        refine j_lstore E 78 dX8_readOne_76 (Nat.le_of_ble_eq_true rfl) rfl rfl ?_
        dsimp only [List.set]
        refine j_iload_n E 79 dX8_readOne_78 3 rfl rfl rfl ?_
        rw [← hlb, ← hmm]
        refine j_callS E (c_m_isGroup hG (d-1) (nI k)) 82 dX8_readOne_79 iv_X8_100 rfl rfl (by repeat (first | with_reducible exact pick_0 | with_reducible apply pick_s | exact sel_0 | apply sel_s)) (by omega) (by omega) (by omega) (Nat.le_of_ble_eq_true rfl) rfl ?_
        rintro _ _ _ _ ⟨rfl, rfl, rfl, rfl⟩
        dsimp only [List.cons_append, List.nil_append, Option.toList]
        by_cases hg : k = 7 ∨ k = 8
        · rw [if_pos (show nI k = 7 ∨ nI k = 8 from hg.elim (fun q => Or.inl (by rw [q]; rfl)) (fun q => Or.inr (by rw [q]; rfl)))]
          have hk9' : ¬ k = 9 := by omega
          have hk4' : ¬ k ≤ 4 := by omega
          rw [if_neg hk9', if_neg hk4', if_neg hk4', if_pos hg, if_pos hg, if_neg (by omega)] at hRR
          have hg8 : (lead bs i).1 = 7 ∨ (lead bs i).1 = 8 := by rw [hlead]; dsimp only; rw [hk7, if_neg hk9']; exact hg
          have hl1 : (lead bs i).1 = k := by rw [hlead]; dsimp only; rw [hk7, if_neg hk9']
          have hl3 : (lead bs i).2.2.1 = if k = 8 then 2 * mm else mm := by rw [hlead]; dsimp only; rw [hk7, if_neg hk4', ← hmm]
          have hgp : gpu bs i us.length = [(us.length, lN (if k = 8 then 2 * mm else mm))] := by rw [gpu, if_pos hg8, hl3]
          have hrz : ∀ new, rz bs i new = [mm] := fun new => by
            rw [rz, if_pos hg8, hl3, hl1]
            by_cases q : k = 8
            · rw [if_pos q, if_pos q]
              congr 1
              omega
            · rw [if_neg q, if_neg q]
          refine j_if_eq E 94 85 dX8_readOne_82 (by decide) rfl (fun h82 => ?_) (fun h82 => ?_)
          · exact absurd h82 (by decide)
          · refine j_aload_n E 86 dX8_readOne_85 0 rfl rfl rfl ?_
            refine j_iload_n E 87 dX8_readOne_86 3 rfl rfl rfl ?_
            refine j_lload E 89 dX8_readOne_87 rfl rfl ?_
            refine j_iload_n E 90 dX8_readOne_89 1 rfl rfl rfl ?_
            refine j_callV E (c_m_readGroup hG (d-1) m r fc fp got (nI i) k mm (if k = 8 then 2 * mm else mm) i np gs s bs us zs R nb mk (by omega) hg rfl (by omega) q10 hgs hnp) 93 dX8_readOne_90 _ _ _ iv_X8_151 rfl rfl rfl (by repeat (first | with_reducible exact pick_0 | with_reducible apply pick_s | exact sel_0 | apply sel_s)) (by omega) (by omega) (by omega) (Nat.le_of_ble_eq_true rfl) rfl ?_
            rintro o dc ds ws' ⟨rfl, rfl, hq⟩
            by_cases c1 : s.length = 24
            · rw [if_pos c1] at hq hRR
              rw [hRR] at B
              dsimp only at B
              obtain ⟨rfl, rfl⟩ := hq
              dsimp only [List.cons_append, List.nil_append, Option.toList]
              exact j_zret E B rfl (by first | exact Or.inl rfl | exact Or.inr rfl) 0 0 dX8_readOne_93 (by repeat (first | with_reducible exact pick_0 | with_reducible apply pick_s | exact sel_0 | apply sel_s)) ⟨rfl, rfl, rfl, _, rfl⟩ (by omega) (by omega) (by omega) (by omega)
            · rw [if_neg c1] at hq hRR
              by_cases c2 : us.length < 3000 ∧ np + (if k = 8 then 2 * mm else mm) ≤ 6000
              · rw [if_pos c2] at hq
                rw [if_pos ⟨⟨c2.1, by omega⟩, c2.2⟩] at hRR
                rw [hRR] at B
                simp only [hgp, hrz, mkN, if_neg (List.cons_ne_nil _ _), List.length_append, List.length_singleton] at B
                obtain ⟨rfl, rfl⟩ := hq
                dsimp only [List.cons_append, List.nil_append, Option.toList]
                rw [← hlb]
                exact j_zret E B rfl (by first | exact Or.inl rfl | exact Or.inr rfl) 0 0 dX8_readOne_93 (by repeat (first | with_reducible exact pick_0 | with_reducible apply pick_s | exact sel_0 | apply sel_s)) ⟨rfl, rfl, rfl, rfl⟩ (by omega) (by omega) (by omega) (by omega)
              · rw [if_neg c2] at hq
                rw [if_neg (fun y => c2 ⟨y.1.1, y.2⟩)] at hRR
                rw [hRR] at B
                dsimp only at B
                obtain ⟨rfl, rfl⟩ := hq
                dsimp only [List.cons_append, List.nil_append, Option.toList]
                exact j_zret E B rfl (by first | exact Or.inl rfl | exact Or.inr rfl) 0 0 dX8_readOne_93 (by repeat (first | with_reducible exact pick_0 | with_reducible apply pick_s | exact sel_0 | apply sel_s)) ⟨rfl, rfl, rfl, _, rfl⟩ (by omega) (by omega) (by omega) (by omega)
        · rw [if_neg (fun q => hg (q.elim (fun q => Or.inl ((nI_eq (b := 7) (by omega) (by decide)).mp q)) (fun q => Or.inr ((nI_eq (b := 8) (by omega) (by decide)).mp q))))]
          rw [if_neg hg] at hRR
          refine j_if_eq E 94 85 dX8_readOne_82 (by decide) rfl (fun h82 => ?_) (fun h82 => ?_)
          · refine j_lload E 96 dX8_readOne_94 rfl rfl ?_
            refine j_aload_n E 97 dX8_readOne_96 0 rfl rfl rfl ?_
            refine j_getf E 100 dX8_readOne_97 fl_X8_88 (by repeat (first | with_reducible exact pick_0 | with_reducible apply pick_s)) (by rfl) rfl ?_
            refine j_iload_n E 101 dX8_readOne_100 1 rfl rfl rfl ?_
            refine j_isub E 102 dX8_readOne_101 rfl ?_
            refine j_eqi (pk_sub (by omega)) ?_
            refine j_iload_n E 103 dX8_readOne_102 2 rfl rfl rfl ?_
            refine j_callS E (c_m_head hG (d-1) lb (by omega) hl) 106 dX8_readOne_103 iv_X8_91 rfl rfl (by repeat (first | with_reducible exact pick_0 | with_reducible apply pick_s | exact sel_0 | apply sel_s)) (by omega) (by omega) (by omega) (Nat.le_of_ble_eq_true rfl) rfl ?_
            rintro _ _ _ _ ⟨rfl, rfl, rfl, rfl⟩
            dsimp only [List.cons_append, List.nil_append, Option.toList]
            refine j_isub E 107 dX8_readOne_106 rfl ?_
            refine j_eqi (pk_sub (a := bs.length - i) (b := hO lb) (by omega)) ?_
            refine j_i2l E 108 dX8_readOne_107 rfl ?_
            refine j_eql (nI_l (by omega)) ?_
            refine j_lcmp E 109 dX8_readOne_108 rfl ?_
            refine j_if_le E 119 112 dX8_readOne_109 (by decide) rfl (fun h109 => ?_) (fun h109 => ?_)
            · have q109 := (fa_le64 _ _).mp ((lg_cmp_le _ _).mp h109)
              rw [lN_tiB (by omega), lN_tiB (by omega)] at q109
              rw [if_neg (by omega)] at hRR
              have hng : ¬ ((lead bs i).1 = 7 ∨ (lead bs i).1 = 8) := by
                rw [hlead]
                dsimp only
                rw [hk7]
                by_cases q : k = 9
                · rw [if_pos q]
                  unfold tyK
                  repeat' (first | omega | split)
                · rw [if_neg q]
                  exact hg
              have hgp : gpu bs i us.length = [] := if_neg hng
              have hrz : ∀ new, rz bs i new = new.map vlen := fun new => if_neg hng
              simp only [hgp, hrz, List.append_nil] at B
              obtain ⟨body, hbody⟩ : ∃ b, b = i + hO lb := ⟨_, rfl⟩
              have hbm : body + mm ≤ bs.length := by omega
              obtain ⟨T9, hT9⟩ : ∃ t, t = by8 (bs.getD (i + (1 + wO lb)) 0) := ⟨_, rfl⟩
              rw [← hT9] at hRR
              have hkk : k ≤ 6 ∨ k = 9 := by
                have h9 : ∀ b : Fin 256, kO b.val ≤ 9 ∨ kO b.val = 12 := by decide +kernel
                have h8 := h9 ⟨lb, hl⟩
                dsimp only at h8
                omega
              have hng1 : ¬ ((if k = 9 then tyK T9 else k) = 7 ∨ (if k = 9 then tyK T9 else k) = 8) := by
                have h0 := hng
                rw [hlead] at h0
                dsimp only at h0
                rw [hk7, ← hlb, ← hT9] at h0
                exact h0
              rw [if_neg hng1] at hRR
              have hR9 : k = 9 → RR = rdLeaf bs i us.length np nb gs (tyK T9) (hO lb) mm T9 := by
                intro q
                rw [hRR]
                simp only [if_pos q, if_neg (show ¬ k ≤ 4 by omega), if_neg (show ¬ k = 8 by omega)]
              have hR4 : k ≤ 4 → RR = rdLeaf bs i us.length np nb gs k 1 (wO lb) 0 := by
                intro q
                rw [hRR]
                simp only [if_pos q, if_neg (show ¬ k = 9 by omega)]
              have hR5 : k = 5 ∨ k = 6 → RR = rdLeaf bs i us.length np nb gs k (hO lb) mm 0 := by
                intro q
                rw [hRR]
                simp only [if_neg (show ¬ k ≤ 4 by omega), if_neg (show ¬ k = 9 by omega), if_neg (show ¬ k = 8 by omega)]
              clear hRR
              have at558 : ∀ (V : VT) (nb1 z : Nat) (ty : Int32) (l8 l10 l11 : Option Value), RR = .inr (us.length, body + mm, [V], np, nb1, gs) → vlen V = z → J X 13 [MF m r th (nI bs.length) os (nI (us.length + 1)) lc (nI nb1) pkd pkg cm fu (nI s.length) fc fp (nI i) (nI gs.length) (nI us.length) (lN np), BA X.1 (r 1) bs, TB X.1 r (us ++ [V]) (zs ++ [z]) R nb1 (mkS mk us.length 0), GS X.1 r gs, PL X.1 r s, F] 0 0 558 [some (.ref m), some (.int (nI i)), some (.int (nI lb)), some (.int (nI k)), some (.long (lN mm)), none, some (.int (nI body)), some (.int ty), l8, none, l10, l11, none] [] := by
                intro V nb1 z ty l8 l10 l11 hr hz
                rw [hr] at B
                simp only [mkN, if_neg (List.cons_ne_nil _ _), List.map_cons, List.map_nil, hz, List.length_singleton] at B
                refine j_aload_n E 559 dX8_readOne_558 0 rfl rfl rfl ?_
                refine j_iload E 561 dX8_readOne_559 rfl rfl ?_
                refine j_lload E 563 dX8_readOne_561 rfl rfl ?_
                refine j_l2i E 564 dX8_readOne_563 rfl ?_
                rw [lN_i]
                refine j_iadd E 565 dX8_readOne_564 rfl ?_
                refine j_eqi (nI_add body mm) ?_
                refine j_putf E 568 dX8_readOne_565 fl_X8_144 (by repeat (first | with_reducible exact pick_0 | with_reducible apply pick_s)) rfl rfl (Nat.le_of_ble_eq_true rfl) rfl ?_
                dsimp only [List.set]
                refine j_iconst E (1) 569 dX8_readOne_568 (by decide) rfl ?_
                exact j_zret E B rfl (by first | exact Or.inl rfl | exact Or.inr rfl) 0 0 dX8_readOne_569 (by repeat (first | with_reducible exact pick_0 | with_reducible apply pick_s | exact sel_0 | apply sel_s)) ⟨rfl, rfl, rfl, rfl⟩ (by omega) (by omega) (by omega) (by omega)
              have at370 : ∀ (ty x10 : Int32) (z8 : Int64) (cl : Nat), ((x10 = 0 ∧ cl = 0) ∨ (x10 = 1 ∧ cl = mm)) → (¬ (us.length < 3000 ∧ nb + cl ≤ 65536) → RR = .inl (7, i)) → (us.length < 3000 → nb + cl ≤ 65536 → J X 13 [MF m r th (nI bs.length) os (nI us.length) lc (nI nb) pkd pkg cm fu (nI s.length) fc fp (nI i) (nI gs.length) got (lN np), BA X.1 (r 1) bs, TB X.1 r us zs R nb mk, GS X.1 r gs, PL X.1 r s, F] 0 0 408 [some (.ref m), some (.int (nI i)), some (.int (nI lb)), some (.int (nI k)), some (.long (lN mm)), none, some (.int (nI body)), some (.int ty), some (.long z8), none, some (.int x10), none, none] []) → J X 13 [MF m r th (nI bs.length) os (nI us.length) lc (nI nb) pkd pkg cm fu (nI s.length) fc fp (nI i) (nI gs.length) got (lN np), BA X.1 (r 1) bs, TB X.1 r us zs R nb mk, GS X.1 r gs, PL X.1 r s, F] 0 0 370 [some (.ref m), some (.int (nI i)), some (.int (nI lb)), some (.int (nI k)), some (.long (lN mm)), none, some (.int (nI body)), some (.int ty), some (.long z8), none, some (.int x10), none, none] [] := by
                intro ty x10 z8 cl hx hbad hgo
                have bad : ¬ (us.length < 3000 ∧ nb + cl ≤ 65536) → J X 13 [MF m r th (nI bs.length) os (nI us.length) lc (nI nb) pkd pkg cm fu (nI s.length) fc fp (nI i) (nI gs.length) got (lN np), BA X.1 (r 1) bs, TB X.1 r us zs R nb mk, GS X.1 r gs, PL X.1 r s, F] 0 0 400 [some (.ref m), some (.int (nI i)), some (.int (nI lb)), some (.int (nI k)), some (.long (lN mm)), none, some (.int (nI body)), some (.int ty), some (.long z8), none, some (.int x10), none, none] [] := by
                  intro hn
                  have hr := hbad hn
                  rw [hr] at B
                  dsimp only at B
                  refine j_aload_n E 401 dX8_readOne_400 0 rfl rfl rfl ?_
                  refine j_bipush E (7) 403 dX8_readOne_401 (by decide) rfl ?_
                  refine j_iload_n E 404 dX8_readOne_403 1 rfl rfl rfl ?_
                  refine j_callV E (c_m_fail hG (d-1) m r (nI 7) (nI i)) 407 dX8_readOne_404 _ _ _ iv_X8_147 rfl rfl rfl (by repeat (first | with_reducible exact pick_0 | with_reducible apply pick_s | exact sel_0 | apply sel_s)) (by omega) (by omega) (by omega) (Nat.le_of_ble_eq_true rfl) rfl ?_
                  rintro _ _ _ _ ⟨rfl, rfl, rfl, rfl⟩
                  dsimp only [List.cons_append, List.nil_append, Option.toList]
                  exact j_zret E B rfl (by first | exact Or.inl rfl | exact Or.inr rfl) 0 0 dX8_readOne_407 (by repeat (first | with_reducible exact pick_0 | with_reducible apply pick_s | exact sel_0 | apply sel_s)) ⟨rfl, rfl, rfl, _, rfl⟩ (by omega) (by omega) (by omega) (by omega)
                refine j_aload_n E 371 dX8_readOne_370 0 rfl rfl rfl ?_
                refine j_getf E 374 dX8_readOne_371 fl_X8_107 (by repeat (first | with_reducible exact pick_0 | with_reducible apply pick_s)) (by rfl) rfl ?_
                refine j_sipush E (3000) 377 dX8_readOne_374 (by decide) rfl ?_
                refine j_icmp_eq E 400 380 dX8_readOne_377 (by decide) rfl (fun h377 => ?_) (fun h377 => ?_)
                · have q : us.length = 3000 := (nI_eq (b := 3000) (by omega) (by decide)).mp h377
                  exact bad (fun y => by omega)
                · have q : ¬ us.length = 3000 := fun y => h377 (by rw [y]; rfl)
                  refine j_iload E 382 dX8_readOne_380 rfl rfl ?_
                  refine j_if_eq E 408 385 dX8_readOne_382 (by decide) rfl (fun h382 => ?_) (fun h382 => ?_)
                  · rcases hx with ⟨-, hc⟩ | ⟨hx, -⟩
                    · exact hgo (by omega) (by omega)
                    · exact absurd h382 (by rw [hx]; decide)
                  · rcases hx with ⟨hx, -⟩ | ⟨hx, hc⟩
                    · exact absurd hx h382
                    · refine j_aload_n E 386 dX8_readOne_385 0 rfl rfl rfl ?_
                      refine j_getf E 389 dX8_readOne_386 fl_X8_114 (by repeat (first | with_reducible exact pick_0 | with_reducible apply pick_s)) (by rfl) rfl ?_
                      refine j_i2l E 390 dX8_readOne_389 rfl ?_
                      refine j_eql (nI_l (by omega)) ?_
                      refine j_lload E 392 dX8_readOne_390 rfl rfl ?_
                      refine j_ladd E 393 dX8_readOne_392 rfl ?_
                      refine j_eql (lN_add nb mm) ?_
                      refine j_ldcL E _ 396 dX8_readOne_393 kc_X8_167 rfl ?_
                      refine j_lcmp E 397 dX8_readOne_396 rfl ?_
                      refine j_if_le E 408 400 dX8_readOne_397 (by decide) rfl (fun h397 => ?_) (fun h397 => ?_)
                      · have q2 := (fa_le64 _ _).mp ((lg_cmp_le _ _).mp h397)
                        rw [lN_tiB (by omega), show (65536 : Int64).toInt = 65536 by decide] at q2
                        exact hgo (by omega) (by omega)
                      · have q2 : ¬ (lN (nb + mm)).toInt ≤ (65536 : Int64).toInt := fun y => h397 ((lg_cmp_le _ _).mpr ((fa_le64 _ _).mpr y))
                        rw [lN_tiB (by omega), show (65536 : Int64).toInt = 65536 by decide] at q2
                        exact bad (fun y => by omega)
              have row231 : ∀ ty : Int32, (k = 5 ∨ k = 6 ∨ (k = 9 ∧ ¬ ty = -1)) → RR = (if us.length < 3000 ∧ nb + mm ≤ 65536 then .inr (us.length, body + mm, [(k, 0, (if k = 9 then ty else 0), cutB bs body mm, [])], np, nb + mm, gs) else .inl (7, i)) → J X 13 [MF m r th (nI bs.length) os (nI us.length) lc (nI nb) pkd pkg cm fu (nI s.length) fc fp (nI i) (nI gs.length) got (lN np), BA X.1 (r 1) bs, TB X.1 r us zs R nb mk, GS X.1 r gs, PL X.1 r s, F] 0 0 231 [some (.ref m), some (.int (nI i)), some (.int (nI lb)), some (.int (nI k)), some (.long (lN mm)), none, some (.int (nI body)), some (.int ty), none, none, none, none, none] [] := by
                intro ty hrow hr
                have hcl : (cutB bs body mm).length = mm := cutB_len hbm
                have at368 : J X 13 [MF m r th (nI bs.length) os (nI us.length) lc (nI nb) pkd pkg cm fu (nI s.length) fc fp (nI i) (nI gs.length) got (lN np), BA X.1 (r 1) bs, TB X.1 r us zs R nb mk, GS X.1 r gs, PL X.1 r s, F] 0 0 368 [some (.ref m), some (.int (nI i)), some (.int (nI lb)), some (.int (nI k)), some (.long (lN mm)), none, some (.int (nI body)), some (.int ty), some (.long 0), none, none, none, none] [.int 1] := by
                  refine j_istore E 370 dX8_readOne_368 (Nat.le_of_ble_eq_true rfl) rfl rfl ?_
                  dsimp only [List.set]
                  refine at370 ty 1 0 mm (Or.inr ⟨rfl, rfl⟩) (fun y => by rw [hr, if_neg y]) (fun c1 c2 => ?_)
                  rw [if_pos ⟨c1, c2⟩] at hr
                  refine j_iload E 410 dX8_readOne_408 rfl rfl ?_
                  refine j_if_eq E 451 413 dX8_readOne_410 (by decide) rfl (fun h410 => ?_) (fun h410 => ?_)
                  · exact absurd h410 (by decide)
                  · refine j_aload_n E 414 dX8_readOne_413 0 rfl rfl rfl ?_
                    refine j_aload_n E 415 dX8_readOne_414 0 rfl rfl rfl ?_
                    refine j_iload_n E 416 dX8_readOne_415 3 rfl rfl rfl ?_
                    refine j_iload E 418 dX8_readOne_416 rfl rfl ?_
                    refine j_lload E 420 dX8_readOne_418 rfl rfl ?_
                    refine j_l2i E 421 dX8_readOne_420 rfl ?_
                    rw [lN_i]
                    refine j_callV E (c_m_makeRow hG (d-1) m r k body mm bs us zs R nb mk (by omega) c1 (by omega) hbm c2) 424 dX8_readOne_421 _ _ _ iv_X8_126 rfl rfl rfl (by repeat (first | with_reducible exact pick_0 | with_reducible apply pick_s | exact sel_0 | apply sel_s)) (by omega) (by omega) (by omega) (Nat.le_of_ble_eq_true rfl) rfl ?_
                    rintro _ _ _ _ ⟨rfl, rfl, rfl, rfl⟩
                    dsimp only [List.cons_append, List.nil_append, Option.toList]
                    refine j_putf E 427 dX8_readOne_424 fl_X8_169 (by repeat (first | with_reducible exact pick_0 | with_reducible apply pick_s)) rfl rfl (Nat.le_of_ble_eq_true rfl) rfl ?_
                    dsimp only [List.set]
                    refine j_aload_n E 428 dX8_readOne_427 0 rfl rfl rfl ?_
                    refine j_getf E 431 dX8_readOne_428 fl_X8_29 (by repeat (first | with_reducible exact pick_0 | with_reducible apply pick_s)) (by rfl) rfl ?_
                    refine j_aload_n E 432 dX8_readOne_431 0 rfl rfl rfl ?_
                    refine j_getf E 435 dX8_readOne_432 fl_X8_169 (by repeat (first | with_reducible exact pick_0 | with_reducible apply pick_s)) (by rfl) rfl ?_
                    have fin : ∀ x : Int32, x = (if k = 9 then ty else 0) → J X 13 [MF m r th (nI bs.length) os (nI (us.length + 1)) lc (nI (nb + mm)) pkd pkg cm fu (nI s.length) fc fp (nI i) (nI gs.length) (nI us.length) (lN np), BA X.1 (r 1) bs, TB X.1 r (us ++ [(k, 0, 0, cutB bs body mm, [])]) (zs ++ [mm]) R (nb + mm) (mkS mk us.length 0), GS X.1 r gs, PL X.1 r s, F] (0 + 0) (0 + 0) 447 [some (.ref m), some (.int (nI i)), some (.int (nI lb)), some (.int (nI k)), some (.long (lN mm)), none, some (.int (nI body)), some (.int ty), some (.long 0), none, some (.int 1), none, none] [.int x, .int (nI us.length), .ref (r 9)] := by
                      intro x hx
                      refine j_tbEs E 448 dX8_readOne_447 (by repeat (first | with_reducible exact pick_0 | with_reducible apply pick_s)) (fun q => by dsimp only at q; omega) rfl ?_
                      dsimp only
                      rw [if_neg (show ¬ k = 2 by omega), hx]
                      refine j_goto E 558 dX8_readOne_448 (by decide) ?_
                      exact j_sel (by repeat (first | with_reducible exact pick_0 | with_reducible apply pick_s | exact sel_0 | apply sel_s)) (at558 _ (nb + mm) mm ty _ _ _ hr (by rw [vlen, if_neg (by dsimp only; omega), if_neg (by dsimp only; omega)]; exact hcl))
                    refine j_iload_n E 436 dX8_readOne_435 3 rfl rfl rfl ?_
                    refine j_bipush E (9) 438 dX8_readOne_436 (by decide) rfl ?_
                    refine j_icmp_ne E 446 441 dX8_readOne_438 (by decide) rfl (fun h438 => ?_) (fun h438 => ?_)
                    · have q : ¬ k = 9 := fun q => h438 (by rw [q]; rfl)
                      refine j_iconst E (0) 447 dX8_readOne_446 (by decide) rfl ?_
                      exact j_sel (by repeat (first | with_reducible exact pick_0 | with_reducible apply pick_s | exact sel_0 | apply sel_s)) (fin 0 (by rw [if_neg q]))
                    · have q : k = 9 := (nI_eq (b := 9) (by omega) (by decide)).mp h438
                      refine j_iload E 443 dX8_readOne_441 rfl rfl ?_
                      refine j_goto E 447 dX8_readOne_443 (by decide) ?_
                      exact j_sel (by repeat (first | with_reducible exact pick_0 | with_reducible apply pick_s | exact sel_0 | apply sel_s)) (fin ty (by rw [if_pos q]))
                have at340 : J X 13 [MF m r th (nI bs.length) os (nI us.length) lc (nI nb) pkd pkg cm fu (nI s.length) fc fp (nI i) (nI gs.length) got (lN np), BA X.1 (r 1) bs, TB X.1 r us zs R nb mk, GS X.1 r gs, PL X.1 r s, F] 0 0 340 [some (.ref m), some (.int (nI i)), some (.int (nI lb)), some (.int (nI k)), some (.long (lN mm)), none, some (.int (nI body)), some (.int ty), some (.long 0), none, none, none, none] [] := by
                  refine j_iload_n E 341 dX8_readOne_340 3 rfl rfl rfl ?_
                  refine j_iconst E (5) 342 dX8_readOne_341 (by decide) rfl ?_
                  refine j_icmp_eq E 363 345 dX8_readOne_342 (by decide) rfl (fun h342 => ?_) (fun h342 => ?_)
                  · refine j_iconst E (1) 364 dX8_readOne_363 (by decide) rfl ?_
                    refine j_goto E 368 dX8_readOne_364 (by decide) ?_
                    exact at368
                  · refine j_iload_n E 346 dX8_readOne_345 3 rfl rfl rfl ?_
                    refine j_bipush E (6) 348 dX8_readOne_346 (by decide) rfl ?_
                    refine j_icmp_eq E 363 351 dX8_readOne_348 (by decide) rfl (fun h348 => ?_) (fun h348 => ?_)
                    · refine j_iconst E (1) 364 dX8_readOne_363 (by decide) rfl ?_
                      refine j_goto E 368 dX8_readOne_364 (by decide) ?_
                      exact at368
                    · refine j_iload_n E 352 dX8_readOne_351 3 rfl rfl rfl ?_
                      refine j_bipush E (9) 354 dX8_readOne_352 (by decide) rfl ?_
                      refine j_icmp_ne E 367 357 dX8_readOne_354 (by decide) rfl (fun h354 => ?_) (fun h354 => ?_)
                      · exfalso
                        rcases hrow with q | q | ⟨q, -⟩
                        · exact h342 (by rw [q]; rfl)
                        · exact h348 (by rw [q]; rfl)
                        · exact h354 (by rw [q]; rfl)
                      · refine j_iload E 359 dX8_readOne_357 rfl rfl ?_
                        refine j_iconst E (-1) 360 dX8_readOne_359 (by decide) rfl ?_
                        refine j_icmp_eq E 367 363 dX8_readOne_360 (by decide) rfl (fun h360 => ?_) (fun h360 => ?_)
                        · exfalso
                          rcases hrow with q | q | ⟨-, q⟩
                          · exact h342 (by rw [q]; rfl)
                          · exact h348 (by rw [q]; rfl)
                          · exact q h360
                        · refine j_iconst E (1) 364 dX8_readOne_363 (by decide) rfl ?_
                          refine j_goto E 368 dX8_readOne_364 (by decide) ?_
                          exact at368
                refine j_lconst E 0 232 dX8_readOne_231 rfl rfl ?_
                refine j_lstore E 234 dX8_readOne_232 (Nat.le_of_ble_eq_true rfl) rfl rfl ?_
                dsimp only [List.set]
                refine j_iload_n E 235 dX8_readOne_234 3 rfl rfl rfl ?_
                refine j_bipush E (9) 237 dX8_readOne_235 (by decide) rfl ?_
                refine j_icmp_ne E 340 240 dX8_readOne_237 (by decide) rfl (fun h237 => ?_) (fun h237 => ?_)
                · exact at340
                · refine j_iload E 242 dX8_readOne_240 rfl rfl ?_
                  refine j_iconst E (-1) 243 dX8_readOne_242 (by decide) rfl ?_
                  refine j_icmp_ne E 340 246 dX8_readOne_243 (by decide) rfl (fun h243 => ?_) (fun h243 => ?_)
                  · exact at340
                  · exfalso
                    have q9 : k = 9 := (nI_eq (b := 9) (by omega) (by decide)).mp h237
                    rcases hrow with q | q | ⟨-, q⟩
                    · omega
                    · omega
                    · exact q h243
              have plain231 : ∀ ty : Int32, k ≤ 4 → J X 13 [MF m r th (nI bs.length) os (nI us.length) lc (nI nb) pkd pkg cm fu (nI s.length) fc fp (nI i) (nI gs.length) got (lN np), BA X.1 (r 1) bs, TB X.1 r us zs R nb mk, GS X.1 r gs, PL X.1 r s, F] 0 0 231 [some (.ref m), some (.int (nI i)), some (.int (nI lb)), some (.int (nI k)), some (.long (lN mm)), none, some (.int (nI body)), some (.int ty), none, none, none, none, none] [] := by
                intro ty hk4
                have hm0 : mm = 0 := by rw [hmm]; exact mO_4 (by rw [hk7]; exact hk4)
                have hhw : hO lb = 1 + wO lb := by rw [hO, if_neg (by omega)]; rfl
                have hRR := hR4 hk4
                rw [rl_plain hk4] at hRR
                refine j_lconst E 0 232 dX8_readOne_231 rfl rfl ?_
                refine j_lstore E 234 dX8_readOne_232 (Nat.le_of_ble_eq_true rfl) rfl rfl ?_
                dsimp only [List.set]
                refine j_iload_n E 235 dX8_readOne_234 3 rfl rfl rfl ?_
                refine j_bipush E (9) 237 dX8_readOne_235 (by decide) rfl ?_
                refine j_icmp_ne E 340 240 dX8_readOne_237 (by decide) rfl (fun h237 => ?_) (fun h237 => ?_)
                · refine j_iload_n E 341 dX8_readOne_340 3 rfl rfl rfl ?_
                  refine j_iconst E (5) 342 dX8_readOne_341 (by decide) rfl ?_
                  refine j_icmp_eq E 363 345 dX8_readOne_342 (by decide) rfl (fun h342 => ?_) (fun h342 => ?_)
                  · exact absurd ((nI_eq (b := 5) (by omega) (by decide)).mp h342) (by omega)
                  · refine j_iload_n E 346 dX8_readOne_345 3 rfl rfl rfl ?_
                    refine j_bipush E (6) 348 dX8_readOne_346 (by decide) rfl ?_
                    refine j_icmp_eq E 363 351 dX8_readOne_348 (by decide) rfl (fun h348 => ?_) (fun h348 => ?_)
                    · exact absurd ((nI_eq (b := 6) (by omega) (by decide)).mp h348) (by omega)
                    · refine j_iload_n E 352 dX8_readOne_351 3 rfl rfl rfl ?_
                      refine j_bipush E (9) 354 dX8_readOne_352 (by decide) rfl ?_
                      refine j_icmp_ne E 367 357 dX8_readOne_354 (by decide) rfl (fun h354 => ?_) (fun h354 => ?_)
                      · refine j_iconst E (0) 368 dX8_readOne_367 (by decide) rfl ?_
                        refine j_istore E 370 dX8_readOne_368 (Nat.le_of_ble_eq_true rfl) rfl rfl ?_
                        dsimp only [List.set]
                        refine at370 ty 0 0 0 (Or.inl ⟨rfl, rfl⟩) (fun y => by rw [hRR, if_neg y]) (fun c1 c2 => ?_)
                        rw [if_pos ⟨c1, c2⟩] at hRR
                        refine j_iload E 410 dX8_readOne_408 rfl rfl ?_
                        refine j_if_eq E 451 413 dX8_readOne_410 (by decide) rfl (fun h410 => ?_) (fun h410 => ?_)
                        · refine j_iload_n E 452 dX8_readOne_451 3 rfl rfl rfl ?_
                          refine j_bipush E (9) 454 dX8_readOne_452 (by decide) rfl ?_
                          refine j_icmp_ne E 551 457 dX8_readOne_454 (by decide) rfl (fun h454 => ?_) (fun h454 => ?_)
                          · refine j_aload_n E 552 dX8_readOne_551 0 rfl rfl rfl ?_
                            refine j_iload_n E 553 dX8_readOne_552 3 rfl rfl rfl ?_
                            refine j_iload_n E 554 dX8_readOne_553 2 rfl rfl rfl ?_
                            refine j_iload_n E 555 dX8_readOne_554 1 rfl rfl rfl ?_
                            rw [hlb]
                            refine j_callV E (c_m_readPlain hG (d-1) m r got k i bs us zs R nb mk (by omega) c1 hk7 hk4 (by rw [← hlb]; omega)) 558 dX8_readOne_555 _ _ _ iv_X8_174 rfl rfl rfl (by repeat (first | with_reducible exact pick_0 | with_reducible apply pick_s | exact sel_0 | apply sel_s)) (by omega) (by omega) (by omega) (Nat.le_of_ble_eq_true rfl) rfl ?_
                            rintro _ _ _ _ ⟨rfl, rfl, rfl, rfl⟩
                            dsimp only [List.cons_append, List.nil_append, Option.toList]
                            rw [← hlb]
                            exact j_sel (by repeat (first | with_reducible exact pick_0 | with_reducible apply pick_s | exact sel_0 | apply sel_s)) (at558 _ nb 0 ty _ _ _ (by rw [hRR, hbody, hm0, hhw]; rfl) (by
                              rw [plV]
                              by_cases q1 : k = 1
                              · rw [if_pos q1]
                                rfl
                              · rw [if_neg q1]
                                by_cases q2 : k = 2
                                · rw [if_pos q2]
                                  rfl
                                · rw [if_neg q2, vlen, if_neg (by dsimp only; omega), if_neg (by dsimp only; omega)]
                                  rfl))
                          · exact absurd ((nI_eq (b := 9) (by omega) (by decide)).mp h454) (by omega)
                        · exact absurd rfl h410
                      · exact absurd ((nI_eq (b := 9) (by omega) (by decide)).mp h354) (by omega)
                · exact absurd ((nI_eq (b := 9) (by omega) (by decide)).mp h237) (by omega)
              have time231 : k = 9 → T9 = -1 → J X 13 [MF m r th (nI bs.length) os (nI us.length) lc (nI nb) pkd pkg cm fu (nI s.length) fc fp (nI i) (nI gs.length) got (lN np), BA X.1 (r 1) bs, TB X.1 r us zs R nb mk, GS X.1 r gs, PL X.1 r s, F] 0 0 231 [some (.ref m), some (.int (nI i)), some (.int (nI lb)), some (.int (nI k)), some (.long (lN mm)), none, some (.int (nI body)), some (.int (-1)), none, none, none, none, none] [] := by
                intro q9 qT
                have hRR := hR9 q9
                rw [qT, show tyK (-1) = 10 from rfl, rl_time, rdTime, ← hbody] at hRR
                have bad : ∀ l8 : Option Value, RR = .inl (4, i) → J X 13 [MF m r th (nI bs.length) os (nI us.length) lc (nI nb) pkd pkg cm fu (nI s.length) fc fp (nI i) (nI gs.length) got (lN np), BA X.1 (r 1) bs, TB X.1 r us zs R nb mk, GS X.1 r gs, PL X.1 r s, F] 0 0 333 [some (.ref m), some (.int (nI i)), some (.int (nI lb)), some (.int (nI k)), some (.long (lN mm)), none, some (.int (nI body)), some (.int (-1)), l8, none, none, none, none] [] := by
                  intro l8 hr
                  rw [hr] at B
                  dsimp only at B
                  refine j_aload_n E 334 dX8_readOne_333 0 rfl rfl rfl ?_
                  refine j_iconst E (4) 335 dX8_readOne_334 (by decide) rfl ?_
                  refine j_iload_n E 336 dX8_readOne_335 1 rfl rfl rfl ?_
                  refine j_callV E (c_m_fail hG (d-1) m r (nI 4) (nI i)) 339 dX8_readOne_336 _ _ _ iv_X8_147 rfl rfl rfl (by repeat (first | with_reducible exact pick_0 | with_reducible apply pick_s | exact sel_0 | apply sel_s)) (by omega) (by omega) (by omega) (Nat.le_of_ble_eq_true rfl) rfl ?_
                  rintro _ _ _ _ ⟨rfl, rfl, rfl, rfl⟩
                  dsimp only [List.cons_append, List.nil_append, Option.toList]
                  exact j_zret E B rfl (by first | exact Or.inl rfl | exact Or.inr rfl) 0 0 dX8_readOne_339 (by repeat (first | with_reducible exact pick_0 | with_reducible apply pick_s | exact sel_0 | apply sel_s)) ⟨rfl, rfl, rfl, _, rfl⟩ (by omega) (by omega) (by omega) (by omega)
                have at297 : ∀ na : Nat, na < 2 ^ 32 → (timeV bs body mm = none → ¬ (mm = 4 ∨ mm = 8 ∨ mm = 12)) → (∀ x, timeV bs body mm = some x → x.2 = na ∧ (mm = 4 ∨ mm = 8 ∨ mm = 12)) → J X 13 [MF m r th (nI bs.length) os (nI us.length) lc (nI nb) pkd pkg cm fu (nI s.length) fc fp (nI i) (nI gs.length) got (lN np), BA X.1 (r 1) bs, TB X.1 r us zs R nb mk, GS X.1 r gs, PL X.1 r s, F] 0 0 297 [some (.ref m), some (.int (nI i)), some (.int (nI lb)), some (.int (nI k)), some (.long (lN mm)), none, some (.int (nI body)), some (.int (-1)), some (.long (lN na)), none, none, none, none] [] := by
                  intro na hna ht1 ht2
                  have at340 : ∀ sec : Int64, timeV bs body mm = some (sec, na) → na ≤ 999999999 → J X 13 [MF m r th (nI bs.length) os (nI us.length) lc (nI nb) pkd pkg cm fu (nI s.length) fc fp (nI i) (nI gs.length) got (lN np), BA X.1 (r 1) bs, TB X.1 r us zs R nb mk, GS X.1 r gs, PL X.1 r s, F] 0 0 340 [some (.ref m), some (.int (nI i)), some (.int (nI lb)), some (.int (nI k)), some (.long (lN mm)), none, some (.int (nI body)), some (.int (-1)), some (.long (lN na)), none, none, none, none] [] := by
                    intro sec hv hn9
                    rw [hv] at hRR
                    dsimp only at hRR
                    rw [if_neg (by omega)] at hRR
                    have hmv := (ht2 _ hv).2
                    refine j_iload_n E 341 dX8_readOne_340 3 rfl rfl rfl ?_
                    refine j_iconst E (5) 342 dX8_readOne_341 (by decide) rfl ?_
                    refine j_icmp_eq E 363 345 dX8_readOne_342 (by decide) rfl (fun h342 => ?_) (fun h342 => ?_)
                    · exact absurd ((nI_eq (b := 5) (by omega) (by decide)).mp h342) (by omega)
                    · refine j_iload_n E 346 dX8_readOne_345 3 rfl rfl rfl ?_
                      refine j_bipush E (6) 348 dX8_readOne_346 (by decide) rfl ?_
                      refine j_icmp_eq E 363 351 dX8_readOne_348 (by decide) rfl (fun h348 => ?_) (fun h348 => ?_)
                      · exact absurd ((nI_eq (b := 6) (by omega) (by decide)).mp h348) (by omega)
                      · refine j_iload_n E 352 dX8_readOne_351 3 rfl rfl rfl ?_
                        refine j_bipush E (9) 354 dX8_readOne_352 (by decide) rfl ?_
                        refine j_icmp_ne E 367 357 dX8_readOne_354 (by decide) rfl (fun h354 => ?_) (fun h354 => ?_)
                        · exact absurd (by rw [q9]; rfl) h354
                        · refine j_iload E 359 dX8_readOne_357 rfl rfl ?_
                          refine j_iconst E (-1) 360 dX8_readOne_359 (by decide) rfl ?_
                          refine j_icmp_eq E 367 363 dX8_readOne_360 (by decide) rfl (fun h360 => ?_) (fun h360 => ?_)
                          · refine j_iconst E (0) 368 dX8_readOne_367 (by decide) rfl ?_
                            refine j_istore E 370 dX8_readOne_368 (Nat.le_of_ble_eq_true rfl) rfl rfl ?_
                            dsimp only [List.set]
                            refine at370 (-1) 0 (lN na) 0 (Or.inl ⟨rfl, rfl⟩) (fun y => by rw [hRR]; exact if_neg y) (fun c1 c2 => ?_)
                            have hr : RR = .inr (us.length, body + mm, [(10, sec, nI na, [], [])], np, nb, gs) := by
                              rw [hRR, hbody, Nat.add_assoc]
                              exact if_pos ⟨c1, c2⟩
                            have at522 : ∀ v : Int64, v = sec → J X 13 [MF m r th (nI bs.length) os (nI us.length) lc (nI nb) pkd pkg cm fu (nI s.length) fc fp (nI i) (nI gs.length) got (lN np), BA X.1 (r 1) bs, TB X.1 r us zs R nb mk, GS X.1 r gs, PL X.1 r s, F] (0 + 0) (0 + 0) 522 [some (.ref m), some (.int (nI i)), some (.int (nI lb)), some (.int (nI k)), some (.long (lN mm)), none, some (.int (nI body)), some (.int (-1)), some (.long (lN na)), none, some (.int 0), none, none] [.long v] := by
                              intro v hv9
                              rw [hv9]
                              refine j_lstore E 524 dX8_readOne_522 (Nat.le_of_ble_eq_true rfl) rfl rfl ?_
                              dsimp only [List.set]
                              refine j_aload_n E 525 dX8_readOne_524 0 rfl rfl rfl ?_
                              refine j_aload_n E 526 dX8_readOne_525 0 rfl rfl rfl ?_
                              refine j_bipush E (10) 528 dX8_readOne_526 (by decide) rfl ?_
                              refine j_lload E 530 dX8_readOne_528 rfl rfl ?_
                              refine j_callV E (c_m_make hG (d-1) m r 10 sec us zs R nb mk c1) 533 dX8_readOne_530 _ _ _ iv_X8_110 rfl rfl rfl (by repeat (first | with_reducible exact pick_0 | with_reducible apply pick_s | exact sel_0 | apply sel_s)) (by omega) (by omega) (by omega) (Nat.le_of_ble_eq_true rfl) rfl ?_
                              rintro _ _ _ _ ⟨rfl, rfl, rfl, rfl⟩
                              dsimp only [List.cons_append, List.nil_append, Option.toList]
                              refine j_putf E 536 dX8_readOne_533 fl_X8_169 (by repeat (first | with_reducible exact pick_0 | with_reducible apply pick_s)) rfl rfl (Nat.le_of_ble_eq_true rfl) rfl ?_
                              dsimp only [List.set]
                              refine j_aload_n E 537 dX8_readOne_536 0 rfl rfl rfl ?_
                              refine j_getf E 540 dX8_readOne_537 fl_X8_29 (by repeat (first | with_reducible exact pick_0 | with_reducible apply pick_s)) (by rfl) rfl ?_
                              refine j_aload_n E 541 dX8_readOne_540 0 rfl rfl rfl ?_
                              refine j_getf E 544 dX8_readOne_541 fl_X8_169 (by repeat (first | with_reducible exact pick_0 | with_reducible apply pick_s)) (by rfl) rfl ?_
                              refine j_lload E 546 dX8_readOne_544 rfl rfl ?_
                              refine j_l2i E 547 dX8_readOne_546 rfl ?_
                              rw [lN_i]
                              refine j_tbEs E 548 dX8_readOne_547 (by repeat (first | with_reducible exact pick_0 | with_reducible apply pick_s)) (fun q => by dsimp only at q; omega) rfl ?_
                              dsimp only
                              rw [if_neg (show ¬ 10 = 2 by decide)]
                              refine j_goto E 558 dX8_readOne_548 (by decide) ?_
                              exact j_sel (by repeat (first | with_reducible exact pick_0 | with_reducible apply pick_s | exact sel_0 | apply sel_s)) (at558 _ nb 0 (-1) _ _ _ hr rfl)
                            refine j_iload E 410 dX8_readOne_408 rfl rfl ?_
                            refine j_if_eq E 451 413 dX8_readOne_410 (by decide) rfl (fun h410 => ?_) (fun h410 => ?_)
                            · refine j_iload_n E 452 dX8_readOne_451 3 rfl rfl rfl ?_
                              refine j_bipush E (9) 454 dX8_readOne_452 (by decide) rfl ?_
                              refine j_icmp_ne E 551 457 dX8_readOne_454 (by decide) rfl (fun h454 => ?_) (fun h454 => ?_)
                              · exact absurd (by rw [q9]; rfl) h454
                              · refine j_lload E 459 dX8_readOne_457 rfl rfl ?_
                                refine j_ldcL E _ 462 dX8_readOne_459 kc_X8_163 rfl ?_
                                refine j_lcmp E 463 dX8_readOne_462 rfl ?_
                                refine j_if_ne E 480 466 dX8_readOne_463 (by decide) rfl (fun h463 => ?_) (fun h463 => ?_)
                                · have q4 : ¬ mm = 4 := fun q => h463 ((lg_cmp_eq _ _).mpr (by rw [q]; rfl))
                                  refine j_lload E 482 dX8_readOne_480 rfl rfl ?_
                                  refine j_ldcL E _ 485 dX8_readOne_482 kc_X8_159 rfl ?_
                                  refine j_lcmp E 486 dX8_readOne_485 rfl ?_
                                  refine j_if_ne E 508 489 dX8_readOne_486 (by decide) rfl (fun h486 => ?_) (fun h486 => ?_)
                                  · have q8 : ¬ mm = 8 := fun q => h486 ((lg_cmp_eq _ _).mpr (by rw [q]; rfl))
                                    have q12 : mm = 12 := by omega
                                    refine j_aload_n E 509 dX8_readOne_508 0 rfl rfl rfl ?_
                                    refine j_aload_n E 510 dX8_readOne_509 0 rfl rfl rfl ?_
                                    refine j_getf E 513 dX8_readOne_510 fl_X8_8 (by repeat (first | with_reducible exact pick_0 | with_reducible apply pick_s)) (by rfl) rfl ?_
                                    refine j_iload E 515 dX8_readOne_513 rfl rfl ?_
                                    refine j_iconst E (4) 516 dX8_readOne_515 (by decide) rfl ?_
                                    refine j_iadd E 517 dX8_readOne_516 rfl ?_
                                    refine j_eqi (nI_add body 4) ?_
                                    refine j_bipush E (8) 519 dX8_readOne_517 (by decide) rfl ?_
                                    refine j_callV E (c_m_number hG (d-1) m r (r 1) (body + 4) 8 bs (by omega)) 522 dX8_readOne_519 _ _ _ iv_X8_84 rfl rfl rfl (by repeat (first | with_reducible exact pick_0 | with_reducible apply pick_s | exact sel_0 | apply sel_s)) (by omega) (by omega) (by omega) (Nat.le_of_ble_eq_true rfl) rfl ?_
                                    rintro _ _ _ _ ⟨rfl, rfl, rfl, rfl⟩
                                    dsimp only [List.cons_append, List.nil_append, Option.toList]
                                    rw [timeV, if_neg q4, if_neg q8, if_pos q12] at hv
                                    cases hv
                                    exact j_sel (by repeat (first | with_reducible exact pick_0 | with_reducible apply pick_s | exact sel_0 | apply sel_s)) (at522 _ rfl)
                                  · have q8 : mm = 8 := (lN_eqB (b := 8) (by omega) (by decide)).mp ((lg_cmp_eq _ _).mp h486)
                                    refine j_aload_n E 490 dX8_readOne_489 0 rfl rfl rfl ?_
                                    refine j_aload_n E 491 dX8_readOne_490 0 rfl rfl rfl ?_
                                    refine j_getf E 494 dX8_readOne_491 fl_X8_8 (by repeat (first | with_reducible exact pick_0 | with_reducible apply pick_s)) (by rfl) rfl ?_
                                    refine j_iload E 496 dX8_readOne_494 rfl rfl ?_
                                    refine j_bipush E (8) 498 dX8_readOne_496 (by decide) rfl ?_
                                    refine j_callV E (c_m_number hG (d-1) m r (r 1) body 8 bs (by omega)) 501 dX8_readOne_498 _ _ _ iv_X8_84 rfl rfl rfl (by repeat (first | with_reducible exact pick_0 | with_reducible apply pick_s | exact sel_0 | apply sel_s)) (by omega) (by omega) (by omega) (Nat.le_of_ble_eq_true rfl) rfl ?_
                                    rintro _ _ _ _ ⟨rfl, rfl, rfl, rfl⟩
                                    dsimp only [List.cons_append, List.nil_append, Option.toList]
                                    refine j_ldcL E _ 504 dX8_readOne_501 kc_X8_172 rfl ?_
                                    rw [timeV, if_neg q4, if_pos q8] at hv
                                    cases hv
                                    refine j_land E 505 dX8_readOne_504 rfl ?_
                                    refine j_eql (lN_m34 (Nat.lt_of_lt_of_le (beN_lt bs body 8) (by decide))) ?_
                                    refine j_goto E 522 dX8_readOne_505 (by decide) ?_
                                    exact j_sel (by repeat (first | with_reducible exact pick_0 | with_reducible apply pick_s | exact sel_0 | apply sel_s)) (at522 _ rfl)
                                · have q4 : mm = 4 := (lN_eqB (b := 4) (by omega) (by decide)).mp ((lg_cmp_eq _ _).mp h463)
                                  refine j_aload_n E 467 dX8_readOne_466 0 rfl rfl rfl ?_
                                  refine j_aload_n E 468 dX8_readOne_467 0 rfl rfl rfl ?_
                                  refine j_getf E 471 dX8_readOne_468 fl_X8_8 (by repeat (first | with_reducible exact pick_0 | with_reducible apply pick_s)) (by rfl) rfl ?_
                                  refine j_iload E 473 dX8_readOne_471 rfl rfl ?_
                                  refine j_iconst E (4) 474 dX8_readOne_473 (by decide) rfl ?_
                                  refine j_callV E (c_m_number hG (d-1) m r (r 1) body 4 bs (by omega)) 477 dX8_readOne_474 _ _ _ iv_X8_84 rfl rfl rfl (by repeat (first | with_reducible exact pick_0 | with_reducible apply pick_s | exact sel_0 | apply sel_s)) (by omega) (by omega) (by omega) (Nat.le_of_ble_eq_true rfl) rfl ?_
                                  rintro _ _ _ _ ⟨rfl, rfl, rfl, rfl⟩
                                  dsimp only [List.cons_append, List.nil_append, Option.toList]
                                  refine j_goto E 522 dX8_readOne_477 (by decide) ?_
                                  rw [timeV, if_pos q4] at hv
                                  cases hv
                                  exact j_sel (by repeat (first | with_reducible exact pick_0 | with_reducible apply pick_s | exact sel_0 | apply sel_s)) (at522 _ rfl)
                            · exact absurd rfl h410
                          · exact absurd rfl h360
                  have at324 : (mm = 4 ∨ mm = 8 ∨ mm = 12) → J X 13 [MF m r th (nI bs.length) os (nI us.length) lc (nI nb) pkd pkg cm fu (nI s.length) fc fp (nI i) (nI gs.length) got (lN np), BA X.1 (r 1) bs, TB X.1 r us zs R nb mk, GS X.1 r gs, PL X.1 r s, F] 0 0 324 [some (.ref m), some (.int (nI i)), some (.int (nI lb)), some (.int (nI k)), some (.long (lN mm)), none, some (.int (nI body)), some (.int (-1)), some (.long (lN na)), none, none, none, none] [] := by
                    intro hmv
                    rcases hv : timeV bs body mm with _ | ⟨sec, n9⟩
                    · exact absurd hmv (ht1 hv)
                    · have hn9 := (ht2 _ hv).1
                      dsimp only at hn9
                      subst hn9
                      refine j_lload E 326 dX8_readOne_324 rfl rfl ?_
                      refine j_ldcL E _ 329 dX8_readOne_326 kc_X8_165 rfl ?_
                      refine j_lcmp E 330 dX8_readOne_329 rfl ?_
                      refine j_if_le E 340 333 dX8_readOne_330 (by decide) rfl (fun h330 => ?_) (fun h330 => ?_)
                      · have q2 := (fa_le64 _ _).mp ((lg_cmp_le _ _).mp h330)
                        rw [lN_tiB (by omega), show (999999999 : Int64).toInt = 999999999 by decide] at q2
                        exact at340 sec hv (by omega)
                      · have q2 : ¬ (lN n9).toInt ≤ (999999999 : Int64).toInt := fun y => h330 ((lg_cmp_le _ _).mpr ((fa_le64 _ _).mpr y))
                        rw [lN_tiB (by omega), show (999999999 : Int64).toInt = 999999999 by decide] at q2
                        exact bad _ (by rw [hRR, hv]; exact if_pos (by omega))
                  refine j_lload E 299 dX8_readOne_297 rfl rfl ?_
                  refine j_ldcL E _ 302 dX8_readOne_299 kc_X8_163 rfl ?_
                  refine j_lcmp E 303 dX8_readOne_302 rfl ?_
                  refine j_if_eq E 324 306 dX8_readOne_303 (by decide) rfl (fun h303 => ?_) (fun h303 => ?_)
                  · exact at324 (Or.inl ((lN_eqB (b := 4) (by omega) (by decide)).mp ((lg_cmp_eq _ _).mp h303)))
                  · have q4 : ¬ mm = 4 := fun q => h303 ((lg_cmp_eq _ _).mpr (by rw [q]; rfl))
                    refine j_lload E 308 dX8_readOne_306 rfl rfl ?_
                    refine j_ldcL E _ 311 dX8_readOne_308 kc_X8_159 rfl ?_
                    refine j_lcmp E 312 dX8_readOne_311 rfl ?_
                    refine j_if_eq E 324 315 dX8_readOne_312 (by decide) rfl (fun h312 => ?_) (fun h312 => ?_)
                    · exact at324 (Or.inr (Or.inl ((lN_eqB (b := 8) (by omega) (by decide)).mp ((lg_cmp_eq _ _).mp h312))))
                    · have q8 : ¬ mm = 8 := fun q => h312 ((lg_cmp_eq _ _).mpr (by rw [q]; rfl))
                      refine j_lload E 317 dX8_readOne_315 rfl rfl ?_
                      refine j_ldcL E _ 320 dX8_readOne_317 kc_X8_161 rfl ?_
                      refine j_lcmp E 321 dX8_readOne_320 rfl ?_
                      refine j_if_ne E 333 324 dX8_readOne_321 (by decide) rfl (fun h321 => ?_) (fun h321 => ?_)
                      · have q12 : ¬ mm = 12 := fun q => h321 ((lg_cmp_eq _ _).mpr (by rw [q]; rfl))
                        exact bad _ (by rw [hRR, timeV, if_neg q4, if_neg q8, if_neg q12])
                      · exact at324 (Or.inr (Or.inr ((lN_eqB (b := 12) (by omega) (by decide)).mp ((lg_cmp_eq _ _).mp h321))))
                refine j_lconst E 0 232 dX8_readOne_231 rfl rfl ?_
                refine j_lstore E 234 dX8_readOne_232 (Nat.le_of_ble_eq_true rfl) rfl rfl ?_
                dsimp only [List.set]
                refine j_iload_n E 235 dX8_readOne_234 3 rfl rfl rfl ?_
                refine j_bipush E (9) 237 dX8_readOne_235 (by decide) rfl ?_
                refine j_icmp_ne E 340 240 dX8_readOne_237 (by decide) rfl (fun h237 => ?_) (fun h237 => ?_)
                · exact absurd (by rw [q9]; rfl) h237
                · refine j_iload E 242 dX8_readOne_240 rfl rfl ?_
                  refine j_iconst E (-1) 243 dX8_readOne_242 (by decide) rfl ?_
                  refine j_icmp_ne E 340 246 dX8_readOne_243 (by decide) rfl (fun h243 => ?_) (fun h243 => ?_)
                  · exact absurd rfl h243
                  · refine j_lload E 248 dX8_readOne_246 rfl rfl ?_
                    refine j_ldcL E _ 251 dX8_readOne_248 kc_X8_159 rfl ?_
                    refine j_lcmp E 252 dX8_readOne_251 rfl ?_
                    refine j_if_ne E 271 255 dX8_readOne_252 (by decide) rfl (fun h252 => ?_) (fun h252 => ?_)
                    · have q8 : ¬ mm = 8 := fun q => h252 ((lg_cmp_eq _ _).mpr (by rw [q]; rfl))
                      refine j_lload E 273 dX8_readOne_271 rfl rfl ?_
                      refine j_ldcL E _ 276 dX8_readOne_273 kc_X8_161 rfl ?_
                      refine j_lcmp E 277 dX8_readOne_276 rfl ?_
                      refine j_if_ne E 294 280 dX8_readOne_277 (by decide) rfl (fun h277 => ?_) (fun h277 => ?_)
                      · have q12 : ¬ mm = 12 := fun q => h277 ((lg_cmp_eq _ _).mpr (by rw [q]; rfl))
                        refine j_lconst E 0 295 dX8_readOne_294 rfl rfl ?_
                        refine j_lstore E 297 dX8_readOne_295 (Nat.le_of_ble_eq_true rfl) rfl rfl ?_
                        dsimp only [List.set]
                        exact at297 0 (by decide) (fun q y => by
                          rw [timeV] at q
                          by_cases q4 : mm = 4
                          · rw [if_pos q4] at q
                            cases q
                          · omega) (fun x hx => by
                          rw [timeV] at hx
                          by_cases q4 : mm = 4
                          · rw [if_pos q4] at hx
                            cases hx
                            exact ⟨rfl, Or.inl q4⟩
                          · rw [if_neg q4, if_neg q8, if_neg q12] at hx
                            cases hx)
                      · have q12 : mm = 12 := (lN_eqB (b := 12) (by omega) (by decide)).mp ((lg_cmp_eq _ _).mp h277)
                        refine j_aload_n E 281 dX8_readOne_280 0 rfl rfl rfl ?_
                        refine j_aload_n E 282 dX8_readOne_281 0 rfl rfl rfl ?_
                        refine j_getf E 285 dX8_readOne_282 fl_X8_8 (by repeat (first | with_reducible exact pick_0 | with_reducible apply pick_s)) (by rfl) rfl ?_
                        refine j_iload E 287 dX8_readOne_285 rfl rfl ?_
                        refine j_iconst E (4) 288 dX8_readOne_287 (by decide) rfl ?_
                        refine j_callV E (c_m_number hG (d-1) m r (r 1) body 4 bs (by omega)) 291 dX8_readOne_288 _ _ _ iv_X8_84 rfl rfl rfl (by repeat (first | with_reducible exact pick_0 | with_reducible apply pick_s | exact sel_0 | apply sel_s)) (by omega) (by omega) (by omega) (Nat.le_of_ble_eq_true rfl) rfl ?_
                        rintro _ _ _ _ ⟨rfl, rfl, rfl, rfl⟩
                        dsimp only [List.cons_append, List.nil_append, Option.toList]
                        refine j_goto E 295 dX8_readOne_291 (by decide) ?_
                        refine j_lstore E 297 dX8_readOne_295 (Nat.le_of_ble_eq_true rfl) rfl rfl ?_
                        dsimp only [List.set]
                        exact j_sel (by repeat (first | with_reducible exact pick_0 | with_reducible apply pick_s | exact sel_0 | apply sel_s)) (at297 (beN bs body 4) (Nat.lt_of_lt_of_le (beN_lt bs body 4) (by decide)) (fun q y => by rw [timeV, if_neg (by omega), if_neg (by omega), if_pos q12] at q; cases q) (fun x hx => by rw [timeV, if_neg (by omega), if_neg (by omega), if_pos q12] at hx; cases hx; exact ⟨rfl, Or.inr (Or.inr q12)⟩))
                    · have q8 : mm = 8 := (lN_eqB (b := 8) (by omega) (by decide)).mp ((lg_cmp_eq _ _).mp h252)
                      have hx4 := beN_lt bs body 4
                      rw [show (256 : Nat) ^ 4 = 4294967296 by decide] at hx4
                      refine j_aload_n E 256 dX8_readOne_255 0 rfl rfl rfl ?_
                      refine j_aload_n E 257 dX8_readOne_256 0 rfl rfl rfl ?_
                      refine j_getf E 260 dX8_readOne_257 fl_X8_8 (by repeat (first | with_reducible exact pick_0 | with_reducible apply pick_s)) (by rfl) rfl ?_
                      refine j_iload E 262 dX8_readOne_260 rfl rfl ?_
                      refine j_iconst E (4) 263 dX8_readOne_262 (by decide) rfl ?_
                      refine j_callV E (c_m_number hG (d-1) m r (r 1) body 4 bs (by omega)) 266 dX8_readOne_263 _ _ _ iv_X8_84 rfl rfl rfl (by repeat (first | with_reducible exact pick_0 | with_reducible apply pick_s | exact sel_0 | apply sel_s)) (by omega) (by omega) (by omega) (Nat.le_of_ble_eq_true rfl) rfl ?_
                      rintro _ _ _ _ ⟨rfl, rfl, rfl, rfl⟩
                      dsimp only [List.cons_append, List.nil_append, Option.toList]
                      refine j_iconst E (2) 267 dX8_readOne_266 (by decide) rfl ?_
                      refine j_lshr E 268 dX8_readOne_267 rfl ?_
                      refine j_eql (lN_shr2 (x := beN bs body 4) (by omega)) ?_
                      refine j_goto E 295 dX8_readOne_268 (by decide) ?_
                      refine j_lstore E 297 dX8_readOne_295 (Nat.le_of_ble_eq_true rfl) rfl rfl ?_
                      dsimp only [List.set]
                      exact j_sel (by repeat (first | with_reducible exact pick_0 | with_reducible apply pick_s | exact sel_0 | apply sel_s)) (at297 (beN bs body 4 / 4) (by omega) (fun q y => by rw [timeV, if_neg (by omega), if_pos q8] at q; cases q) (fun x hx => by rw [timeV, if_neg (by omega), if_pos q8] at hx; cases hx; exact ⟨na_8 bs body, Or.inr (Or.inl q8)⟩))
              have at199 : ∀ ty : Int32, (k = 9 → ty = T9) → (k = 5 → chBad bs (body + mm) (body + mm - body) body = none) → J X 13 [MF m r th (nI bs.length) os (nI us.length) lc (nI nb) pkd pkg cm fu (nI s.length) fc fp (nI i) (nI gs.length) got (lN np), BA X.1 (r 1) bs, TB X.1 r us zs R nb mk, GS X.1 r gs, PL X.1 r s, F] 0 0 199 [some (.ref m), some (.int (nI i)), some (.int (nI lb)), some (.int (nI k)), some (.long (lN mm)), none, some (.int (nI body)), some (.int ty), none, none, none, none, none] [] := by
                intro ty hty h5
                have rowRR : (k = 5 ∨ k = 6 ∨ (k = 9 ∧ ¬ ty = -1 ∧ ¬ ty = 0)) → RR = (if us.length < 3000 ∧ nb + mm ≤ 65536 then .inr (us.length, body + mm, [(k, 0, (if k = 9 then ty else 0), cutB bs body mm, [])], np, nb + mm, gs) else .inl (7, i)) := by
                  intro hrow
                  have hcl : (cutB bs body mm).length = mm := cutB_len hbm
                  have hRR : RR = rdLeaf bs i us.length np nb gs k (hO lb) mm (if k = 9 then ty else 0) := by
                    by_cases q : k = 9
                    · rw [hR9 q, if_pos q, ← hty q]
                      rcases hrow with y | y | ⟨-, y1, y2⟩
                      · omega
                      · omega
                      · rw [tyK_9 y1 y2, q]
                    · rw [if_neg q]
                      exact hR5 (by omega)
                  rw [rl_row (by omega), rdRow, ← Nat.add_assoc, ← hbody] at hRR
                  have e3 : (if k = 5 then chBad bs (body + mm) (body + mm - body) body else none) = none := by
                    by_cases q : k = 5
                    · rw [if_pos q]
                      exact h5 q
                    · rw [if_neg q]
                  rw [e3] at hRR
                  dsimp only at hRR
                  rw [rdKeep, hcl] at hRR
                  exact hRR
                refine j_iload_n E 200 dX8_readOne_199 3 rfl rfl rfl ?_
                refine j_bipush E (9) 202 dX8_readOne_200 (by decide) rfl ?_
                refine j_icmp_ne E 231 205 dX8_readOne_202 (by decide) rfl (fun h202 => ?_) (fun h202 => ?_)
                · have q9 : ¬ k = 9 := fun q => h202 (by rw [q]; rfl)
                  by_cases q4 : k ≤ 4
                  · exact plain231 ty q4
                  · exact row231 ty (by omega) (rowRR (by omega))
                · have q9 : k = 9 := (nI_eq (b := 9) (by omega) (by decide)).mp h202
                  refine j_iload E 207 dX8_readOne_205 rfl rfl ?_
                  refine j_if_ne E 231 210 dX8_readOne_207 (by decide) rfl (fun h207 => ?_) (fun h207 => ?_)
                  · by_cases qm : ty = -1
                    · have := time231 q9 (by rw [← hty q9]; exact qm)
                      rw [qm]
                      exact this
                    · exact row231 ty (Or.inr (Or.inr ⟨q9, qm⟩)) (rowRR (Or.inr (Or.inr ⟨q9, qm, h207⟩)))
                  · have q0 : ty = 0 := h207
                    have hRR := hR9 q9
                    rw [← hty q9, q0, show tyK 0 = 11 from rfl, rl_ref] at hRR
                    refine j_aload_n E 211 dX8_readOne_210 0 rfl rfl rfl ?_
                    refine j_iload E 213 dX8_readOne_211 rfl rfl ?_
                    refine j_lload E 215 dX8_readOne_213 rfl rfl ?_
                    refine j_l2i E 216 dX8_readOne_215 rfl ?_
                    rw [lN_i]
                    refine j_iadd E 217 dX8_readOne_216 rfl ?_
                    refine j_eqi (nI_add body mm) ?_
                    refine j_putf E 220 dX8_readOne_217 fl_X8_144 (by repeat (first | with_reducible exact pick_0 | with_reducible apply pick_s)) rfl rfl (Nat.le_of_ble_eq_true rfl) rfl ?_
                    dsimp only [List.set]
                    refine j_aload_n E 221 dX8_readOne_220 0 rfl rfl rfl ?_
                    refine j_iload E 223 dX8_readOne_221 rfl rfl ?_
                    refine j_lload E 225 dX8_readOne_223 rfl rfl ?_
                    refine j_l2i E 226 dX8_readOne_225 rfl ?_
                    rw [lN_i, hbody]
                    refine j_iload_n E 227 dX8_readOne_226 1 rfl rfl rfl ?_
                    refine j_callV E (c_m_refer hG (d-1) m r fc fp got i (hO lb) mm np nb gs bs (by omega) (by omega)) 230 dX8_readOne_227 _ _ _ iv_X8_155 rfl rfl rfl (by repeat (first | with_reducible exact pick_0 | with_reducible apply pick_s | exact sel_0 | apply sel_s)) (by omega) (by omega) (by omega) (Nat.le_of_ble_eq_true rfl) rfl ?_
                    rintro o dc ds ws' ⟨rfl, rfl, hq⟩
                    rw [← hRR] at hq
                    rcases hx : RR with x | x
                    · rw [hx] at hq B
                      dsimp only at hq B
                      obtain ⟨rfl, rfl⟩ := hq
                      dsimp only [List.cons_append, List.nil_append, Option.toList]
                      exact j_zret E B rfl (by first | exact Or.inl rfl | exact Or.inr rfl) 0 0 dX8_readOne_230 (by repeat (first | with_reducible exact pick_0 | with_reducible apply pick_s | exact sel_0 | apply sel_s)) ⟨rfl, rfl, rfl, _, rfl⟩ (by omega) (by omega) (by omega) (by omega)
                    · rw [hx] at hq hRR
                      have hxx := ref_inr hRR.symm
                      rw [hx, hxx] at B
                      simp only [mkN, if_true, List.map_nil, List.append_nil, List.length_nil, Nat.add_zero, ← Nat.add_assoc] at B
                      dsimp only at hq
                      obtain ⟨rfl, rfl⟩ := hq
                      dsimp only [List.cons_append, List.nil_append, Option.toList]
                      exact j_zret E B rfl (by first | exact Or.inl rfl | exact Or.inr rfl) 0 0 dX8_readOne_230 (by repeat (first | with_reducible exact pick_0 | with_reducible apply pick_s | exact sel_0 | apply sel_s)) ⟨rfl, rfl, rfl, rfl⟩ (by omega) (by omega) (by omega) (by omega)
              have at148 : ∀ ty : Int32, (k = 9 → ty = T9) → J X 13 [MF m r th (nI bs.length) os (nI us.length) lc (nI nb) pkd pkg cm fu (nI s.length) fc fp (nI i) (nI gs.length) got (lN np), BA X.1 (r 1) bs, TB X.1 r us zs R nb mk, GS X.1 r gs, PL X.1 r s, F] 0 0 148 [some (.ref m), some (.int (nI i)), some (.int (nI lb)), some (.int (nI k)), some (.long (lN mm)), none, some (.int (nI body)), some (.int ty), none, none, none, none, none] [] := by
                intro ty hty
                refine j_iload_n E 149 dX8_readOne_148 3 rfl rfl rfl ?_
                refine j_iconst E (5) 150 dX8_readOne_149 (by decide) rfl ?_
                refine j_icmp_ne E 199 153 dX8_readOne_150 (by decide) rfl (fun h150 => ?_) (fun h150 => ?_)
                · exact at199 ty hty (fun q => absurd (by rw [q]; rfl) h150)
                · have q5 : k = 5 := (nI_eq (b := 5) (by omega) (by decide)).mp h150
                  have hgp5 : gpN bs body (body + mm) ≤ mm := by
                    rw [gpN]
                    rcases hcb : chBad bs (body + mm) (body + mm - body) body with _ | p
                    · dsimp only
                      omega
                    · have := chBad_lt hcb
                      dsimp only
                      omega
                  refine j_aload_n E 154 dX8_readOne_153 0 rfl rfl rfl ?_
                  refine j_getf E 157 dX8_readOne_154 fl_X8_8 (by repeat (first | with_reducible exact pick_0 | with_reducible apply pick_s)) (by rfl) rfl ?_
                  refine j_iload E 159 dX8_readOne_157 rfl rfl ?_
                  refine j_iload E 161 dX8_readOne_159 rfl rfl ?_
                  refine j_lload E 163 dX8_readOne_161 rfl rfl ?_
                  refine j_l2i E 164 dX8_readOne_163 rfl ?_
                  rw [lN_i]
                  refine j_iadd E 165 dX8_readOne_164 rfl ?_
                  refine j_eqi (nI_add body mm) ?_
                  refine j_callS E (c_m_good hG (d-1) (r 1) body (body + mm) bs (Nat.le_add_right _ _) hbm) 168 dX8_readOne_165 iv_X8_122 rfl rfl (by repeat (first | with_reducible exact pick_0 | with_reducible apply pick_s | exact sel_0 | apply sel_s)) (by omega) (by omega) (by omega) (Nat.le_of_ble_eq_true rfl) rfl ?_
                  rintro _ _ _ _ ⟨rfl, rfl, rfl, rfl⟩
                  dsimp only [List.cons_append, List.nil_append, Option.toList]
                  refine j_i2l E 169 dX8_readOne_168 rfl ?_
                  refine j_eql (nI_l (by omega)) ?_
                  refine j_lload E 171 dX8_readOne_169 rfl rfl ?_
                  refine j_lcmp E 172 dX8_readOne_171 rfl ?_
                  refine j_if_ge E 199 175 dX8_readOne_172 (by decide) rfl (fun h172 => ?_) (fun h172 => ?_)
                  · have q2 := (fa_le64 _ _).mp ((lg_cmp_ge _ _).mp h172)
                    rw [lN_tiB (by omega), lN_tiB (by omega)] at q2
                    refine j_sel (by repeat (first | with_reducible exact pick_0 | with_reducible apply pick_s | exact sel_0 | apply sel_s)) (at199 ty hty (fun _ => ?_))
                    rcases hcb : chBad bs (body + mm) (body + mm - body) body with _ | p
                    · rfl
                    · exfalso
                      have h8 := chBad_lt hcb
                      have h9 := chBad_ge hcb
                      rw [gpN, hcb] at q2
                      dsimp only at q2
                      omega
                  · have q2 : ¬ (lN mm).toInt ≤ (lN (gpN bs body (body + mm))).toInt := fun y => h172 ((lg_cmp_ge _ _).mpr ((fa_le64 _ _).mpr y))
                    rw [lN_tiB (by omega), lN_tiB (by omega)] at q2
                    rcases hcb : chBad bs (body + mm) (body + mm - body) body with _ | p
                    · exfalso
                      rw [gpN, hcb] at q2
                      dsimp only at q2
                      omega
                    · have h9 := chBad_ge hcb
                      have h8 := chBad_lt hcb
                      have hRR := hR5 (Or.inl q5)
                      rw [rl_row (by omega), rdRow, ← Nat.add_assoc, ← hbody, if_pos q5, hcb] at hRR
                      dsimp only at hRR
                      rw [hRR] at B
                      dsimp only at B
                      refine j_aload_n E 176 dX8_readOne_175 0 rfl rfl rfl ?_
                      refine j_iconst E (3) 177 dX8_readOne_176 (by decide) rfl ?_
                      refine j_iload E 179 dX8_readOne_177 rfl rfl ?_
                      refine j_aload_n E 180 dX8_readOne_179 0 rfl rfl rfl ?_
                      refine j_getf E 183 dX8_readOne_180 fl_X8_8 (by repeat (first | with_reducible exact pick_0 | with_reducible apply pick_s)) (by rfl) rfl ?_
                      refine j_iload E 185 dX8_readOne_183 rfl rfl ?_
                      refine j_iload E 187 dX8_readOne_185 rfl rfl ?_
                      refine j_lload E 189 dX8_readOne_187 rfl rfl ?_
                      refine j_l2i E 190 dX8_readOne_189 rfl ?_
                      rw [lN_i]
                      refine j_iadd E 191 dX8_readOne_190 rfl ?_
                      refine j_eqi (nI_add body mm) ?_
                      refine j_callS E (c_m_good hG (d-1) (r 1) body (body + mm) bs (Nat.le_add_right _ _) hbm) 194 dX8_readOne_191 iv_X8_122 rfl rfl (by repeat (first | with_reducible exact pick_0 | with_reducible apply pick_s | exact sel_0 | apply sel_s)) (by omega) (by omega) (by omega) (Nat.le_of_ble_eq_true rfl) rfl ?_
                      rintro _ _ _ _ ⟨rfl, rfl, rfl, rfl⟩
                      dsimp only [List.cons_append, List.nil_append, Option.toList]
                      refine j_iadd E 195 dX8_readOne_194 rfl ?_
                      refine j_eqi (y := nI p) (by rw [nI_add, gpN, hcb]; congr 1; dsimp only; omega) ?_
                      refine j_callV E (c_m_fail hG (d-1) m r (nI 3) (nI p)) 198 dX8_readOne_195 _ _ _ iv_X8_147 rfl rfl rfl (by repeat (first | with_reducible exact pick_0 | with_reducible apply pick_s | exact sel_0 | apply sel_s)) (by omega) (by omega) (by omega) (Nat.le_of_ble_eq_true rfl) rfl ?_
                      rintro _ _ _ _ ⟨rfl, rfl, rfl, rfl⟩
                      dsimp only [List.cons_append, List.nil_append, Option.toList]
                      exact j_zret E B rfl (by first | exact Or.inl rfl | exact Or.inr rfl) 0 0 dX8_readOne_198 (by repeat (first | with_reducible exact pick_0 | with_reducible apply pick_s | exact sel_0 | apply sel_s)) ⟨rfl, rfl, rfl, _, rfl⟩ (by omega) (by omega) (by omega) (by omega)
              refine j_iload_n E 120 dX8_readOne_119 1 rfl rfl rfl ?_
              refine j_iload_n E 121 dX8_readOne_120 2 rfl rfl rfl ?_
              refine j_callS E (c_m_head hG (d-1) lb (by omega) hl) 124 dX8_readOne_121 iv_X8_91 rfl rfl (by repeat (first | with_reducible exact pick_0 | with_reducible apply pick_s | exact sel_0 | apply sel_s)) (by omega) (by omega) (by omega) (Nat.le_of_ble_eq_true rfl) rfl ?_
              rintro _ _ _ _ ⟨rfl, rfl, rfl, rfl⟩
              dsimp only [List.cons_append, List.nil_append, Option.toList]
              refine j_iadd E 125 dX8_readOne_124 rfl ?_
              refine j_eqi (nI_add i (hO lb)) ?_
              rw [← hbody]
              refine j_istore E 127 dX8_readOne_125 (Nat.le_of_ble_eq_true rfl) rfl rfl ?_
              dsimp only [List.set]
              refine j_iload_n E 128 dX8_readOne_127 3 rfl rfl rfl ?_
              refine j_bipush E (9) 130 dX8_readOne_128 (by decide) rfl ?_
              refine j_icmp_ne E 145 133 dX8_readOne_130 (by decide) rfl (fun h130 => ?_) (fun h130 => ?_)
              · refine j_iconst E (1) 146 dX8_readOne_145 (by decide) rfl ?_
                refine j_istore E 148 dX8_readOne_146 (Nat.le_of_ble_eq_true rfl) rfl rfl ?_
                dsimp only [List.set]
                exact j_sel (by repeat (first | with_reducible exact pick_0 | with_reducible apply pick_s | exact sel_0 | apply sel_s)) (at148 1 (fun q => absurd (by rw [q]; rfl) h130))
              · have q9 : k = 9 := (nI_eq (b := 9) (by omega) (by decide)).mp h130
                have hh9 : hO lb = 1 + wO lb + 1 := by rw [hO, if_pos (by omega)]
                refine j_aload_n E 134 dX8_readOne_133 0 rfl rfl rfl ?_
                refine j_getf E 137 dX8_readOne_134 fl_X8_8 (by repeat (first | with_reducible exact pick_0 | with_reducible apply pick_s)) (by rfl) rfl ?_
                refine j_iload E 139 dX8_readOne_137 rfl rfl ?_
                refine j_iconst E (1) 140 dX8_readOne_139 (by decide) rfl ?_
                refine j_isub E 141 dX8_readOne_140 rfl ?_
                refine j_eqi (y := nI (i + (1 + wO lb))) (by rw [show body = i + (1 + wO lb) + 1 by omega]; exact nI_pred _) ?_
                refine j_baldBA E 142 dX8_readOne_141 (by repeat (first | with_reducible exact pick_0 | with_reducible apply pick_s)) (by omega) rfl ?_
                rw [← hT9]
                refine j_goto E 146 dX8_readOne_142 (by decide) ?_
                refine j_istore E 148 dX8_readOne_146 (Nat.le_of_ble_eq_true rfl) rfl rfl ?_
                dsimp only [List.set]
                exact j_sel (by repeat (first | with_reducible exact pick_0 | with_reducible apply pick_s | exact sel_0 | apply sel_s)) (at148 T9 (fun _ => rfl))
            · have q109 : ¬ (lN mm).toInt ≤ (lN (bs.length - i - hO lb)).toInt := fun y => h109 ((lg_cmp_le _ _).mpr ((fa_le64 _ _).mpr y))
              rw [lN_tiB (by omega), lN_tiB (by omega)] at q109
              rw [if_pos (by omega)] at hRR
              rw [hRR] at B
              dsimp only at B
              refine j_aload_n E 113 dX8_readOne_112 0 rfl rfl rfl ?_
              refine j_iconst E (1) 114 dX8_readOne_113 (by decide) rfl ?_
              refine j_iload_n E 115 dX8_readOne_114 1 rfl rfl rfl ?_
              refine j_callV E (c_m_fail hG (d-1) m r (nI 1) (nI i)) 118 dX8_readOne_115 _ _ _ iv_X8_147 rfl rfl rfl (by repeat (first | with_reducible exact pick_0 | with_reducible apply pick_s | exact sel_0 | apply sel_s)) (by omega) (by omega) (by omega) (Nat.le_of_ble_eq_true rfl) rfl ?_
              rintro _ _ _ _ ⟨rfl, rfl, rfl, rfl⟩
              dsimp only [List.cons_append, List.nil_append, Option.toList]
              exact j_zret E B rfl (by first | exact Or.inl rfl | exact Or.inr rfl) 0 0 dX8_readOne_118 (by repeat (first | with_reducible exact pick_0 | with_reducible apply pick_s | exact sel_0 | apply sel_s)) ⟨rfl, rfl, rfl, _, rfl⟩ (by omega) (by omega) (by omega) (by omega)
          · exact absurd rfl h82
      · have q60 : ¬ i+hO lb ≤ bs.length := mt (nI_leI (a := i+hO lb) (b := bs.length) (by omega) (by omega)).mpr h60
        have hge := own_ge (bs := bs) (i := i) (by rw [← hlb]; exact h12)
        rw [← hlb] at hge
        rw [if_pos (by omega)] at hRR
        rw [hRR] at B
        dsimp only at B
        refine j_aload_n E 64 dX8_readOne_63 0 rfl rfl rfl ?_
        refine j_iconst E (1) 65 dX8_readOne_64 (by decide) rfl ?_
        refine j_iload_n E 66 dX8_readOne_65 1 rfl rfl rfl ?_
        refine j_callV E (c_m_fail hG (d-1) m r (nI 1) (nI i)) 69 dX8_readOne_66 _ _ _ iv_X8_147 rfl rfl rfl (by repeat (first | with_reducible exact pick_0 | with_reducible apply pick_s | exact sel_0 | apply sel_s)) (by omega) (by omega) (by omega) (Nat.le_of_ble_eq_true rfl) rfl ?_
        rintro _ _ _ _ ⟨rfl, rfl, rfl, rfl⟩
        dsimp only [List.cons_append, List.nil_append, Option.toList]
        exact j_zret E B rfl (by first | exact Or.inl rfl | exact Or.inr rfl) 0 0 dX8_readOne_69 (by repeat (first | with_reducible exact pick_0 | with_reducible apply pick_s | exact sel_0 | apply sel_s)) ⟨rfl, rfl, rfl, _, rfl⟩ (by omega) (by omega) (by omega) (by omega)
    · have h12 : kO lb = 12 := by
        by_cases q : kO lb = 12
        · exact q
        · rw [kI_nI (by omega)] at h40
          exact absurd (nI_pos' (by omega)) h40
      rw [if_pos (lead_12.mpr (by rw [← hlb]; exact h12))] at hRR
      rw [hRR] at B
      dsimp only at B
      refine j_aload_n E 44 dX8_readOne_43 0 rfl rfl rfl ?_
      refine j_iconst E (2) 45 dX8_readOne_44 (by decide) rfl ?_
      refine j_iload_n E 46 dX8_readOne_45 1 rfl rfl rfl ?_
      refine j_callV E (c_m_fail hG (d-1) m r (nI 2) (nI i)) 49 dX8_readOne_46 _ _ _ iv_X8_147 rfl rfl rfl (by repeat (first | with_reducible exact pick_0 | with_reducible apply pick_s | exact sel_0 | apply sel_s)) (by omega) (by omega) (by omega) (Nat.le_of_ble_eq_true rfl) rfl ?_
      rintro _ _ _ _ ⟨rfl, rfl, rfl, rfl⟩
      dsimp only [List.cons_append, List.nil_append, Option.toList]
      exact j_zret E B rfl (by first | exact Or.inl rfl | exact Or.inr rfl) 0 0 dX8_readOne_49 (by repeat (first | with_reducible exact pick_0 | with_reducible apply pick_s | exact sel_0 | apply sel_s)) ⟨rfl, rfl, rfl, _, rfl⟩ (by omega) (by omega) (by omega) (by omega)
  · have q10 : ¬ i < bs.length := mt (nI_ltI (a := i) (b := bs.length) (by omega) (by omega)).mpr h10
    rw [if_pos (by omega)] at hRR
    rw [hRR] at B
    dsimp only at B
    rw [show i = bs.length by omega] at B ⊢
    refine j_aload_n E 14 dX8_readOne_13 0 rfl rfl rfl ?_
    refine j_iconst E (1) 15 dX8_readOne_14 (by decide) rfl ?_
    refine j_aload_n E 16 dX8_readOne_15 0 rfl rfl rfl ?_
    refine j_getf E 19 dX8_readOne_16 fl_X8_88 (by repeat (first | with_reducible exact pick_0 | with_reducible apply pick_s)) (by rfl) rfl ?_
    refine j_callV E (c_m_fail hG (d-1) m r (nI 1) (nI bs.length)) 22 dX8_readOne_19 _ _ _ iv_X8_147 rfl rfl rfl (by repeat (first | with_reducible exact pick_0 | with_reducible apply pick_s | exact sel_0 | apply sel_s)) (by omega) (by omega) (by omega) (Nat.le_of_ble_eq_true rfl) rfl ?_
    rintro _ _ _ _ ⟨rfl, rfl, rfl, rfl⟩
    dsimp only [List.cons_append, List.nil_append, Option.toList]
    exact j_zret E B rfl (by first | exact Or.inl rfl | exact Or.inr rfl) 0 0 dX8_readOne_22 (by repeat (first | with_reducible exact pick_0 | with_reducible apply pick_s | exact sel_0 | apply sel_s)) ⟨rfl, rfl, rfl, _, rfl⟩ (by omega) (by omega) (by omega) (by omega)

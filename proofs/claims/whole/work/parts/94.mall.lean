/-! the model: readAll -/
def allQ (g : GT) (m : Nat) (r : Nat → Nat) (th os pkd pkg cm fu : Int32)  (fc fp : Int32) (bs : List UInt8) (us0 : List VT) (zs0 : List Nat) (R0 : LK) (pg : Nat) (RES : TO) (o : Option Value) (dc ds : Nat) (ws' : List Asn) : Prop := dc = 0 ∧ ds = 0 ∧ match RES with
  | .inl x => o = some (.int 0) ∧ ∃ (vc1 lc1 bc1 op1 at1 bgc1 got1 : Int32) (pr1 : Int64) (e : List VT) (ze : List Nat) (f : LK) (nb1 : Nat) (mk1 : Nat → Nat) (gs1 : List Nat) (s1 : PIL), (∀ y ∈ f, us0.length ≤ y.1) ∧ (∀ j, mk1 j ≤ pg) ∧ ws' = [MF m r th (nI bs.length) os vc1 lc1 bc1 pkd pkg cm fu op1 (nI x.1) (nI x.2) at1 bgc1 got1 pr1, BA g (r 1) bs, TB g r (us0 ++ e) (zs0 ++ ze) (f ++ R0) nb1 mk1, GS g r gs1, PL g r s1]
  | .inr x => o = some (.int 1) ∧ ∃ (op1 at1 bgc1 got1 : Int32) (pr1 : Int64) (f : LK) (mk1 : Nat → Nat) (gs1 : List Nat) (s1 : PIL), (∀ y ∈ f, us0.length ≤ y.1) ∧ (∀ j, mk1 j ≤ pg) ∧ (∀ j, j < x.2.1.length → lkP f (us0.length + j) = (vAt x.2.1 j).2.2.2.2) ∧ (f ++ R0).length = x.2.2.1 ∧ x.1 = us0.length ∧ ws' = [MF m r th (nI bs.length) os (nI (us0.length + x.2.1.length)) (nI x.2.2.1) (nI x.2.2.2) pkd pkg cm fu op1 fc fp at1 bgc1 got1 pr1, BA g (r 1) bs, TB g r (us0 ++ x.2.1.map stp) (zs0 ++ x.2.1.map vlen) (f ++ R0) x.2.2.2 mk1, GS g r gs1, PL g r s1]
theorem rdV_root {bs : List UInt8} {f i n np nb : Nat} {x : Nat × Nat × List VT × Nat × Nat × List Nat} (h : rdV bs f i n np nb [] = .inr x) : x.1 = n := by
  have go : ∀ sub : SUBF, rdOne sub bs i n np nb [] = .inr x → x.1 = n := by
    intro sub h
    unfold rdOne at h
    split at h
    · cases h
    · split at h
      · cases h
      · split at h
        · cases h
        · split at h
          · rcases sub with _ | rd
            · cases h
            · unfold rdGroup at h
              dsimp only at h
              split at h
              · split at h
                · cases h
                · cases h
                  rfl
              · cases h
          · exact (rdLeaf_new h).1 rfl
  rcases f with _ | f
  · exact go _ h
  · exact go _ h
theorem pl_set {s t : List (Nat × Nat)} {x : (Nat → Int32) × (Nat → Int64)} {p c c' : Nat} (h : (pil (s ++ (p, c') :: t)).length ≤ 24 ∧ ∀ j e, (pil (s ++ (p, c') :: t))[j]? = some e → x.1 j = nI e.1 ∧ x.2 j = e.2) : (pil (s ++ (p, c) :: t)).length ≤ 24 ∧ ∀ j e, (pil (s ++ (p, c) :: t))[j]? = some e → x.1 j = nI e.1 ∧ vp_updL x.2 s.length (lN c) j = e.2 := by
  rw [pil_len, List.length_append, List.length_cons] at h
  refine ⟨by rw [pil_len, List.length_append, List.length_cons]; exact h.1, fun j e he => ?_⟩
  have hat := h.2 j
  rw [pil, List.getElem?_map] at he hat
  by_cases q : j = s.length
  · subst q
    rw [List.getElem?_append_right (Nat.le_refl _), Nat.sub_self] at he hat
    cases he
    exact ⟨(hat (p, lN c') rfl).1, pk_uLs⟩
  · rw [pk_uLn q]
    refine hat e ?_
    rcases Nat.lt_or_ge j s.length with y | y
    · rw [List.getElem?_append_left y] at he ⊢
      exact he
    · rw [List.getElem?_append_right y] at he ⊢
      obtain ⟨k, hk⟩ : ∃ k, j - s.length = k + 1 := ⟨j - s.length - 1, by omega⟩
      rw [hk] at he ⊢
      exact he
theorem pl_at {s t : List (Nat × Nat)} {x : (Nat → Int32) × (Nat → Int64)} {p c : Nat} (h : (pil (s ++ (p, c) :: t)).length ≤ 24 ∧ ∀ j e, (pil (s ++ (p, c) :: t))[j]? = some e → x.1 j = nI e.1 ∧ x.2 j = e.2) : x.1 s.length = nI p ∧ x.2 s.length = lN c := by
  have hat := h.2 s.length (p, lN c)
  rw [pil, List.getElem?_map, List.getElem?_append_right (Nat.le_refl _), Nat.sub_self] at hat
  exact hat rfl
theorem pl_pop {s t : List (Nat × Nat)} {x : (Nat → Int32) × (Nat → Int64)} (h : (pil (s ++ t)).length ≤ 24 ∧ ∀ j e, (pil (s ++ t))[j]? = some e → x.1 j = nI e.1 ∧ x.2 j = e.2) : (pil s).length ≤ 24 ∧ ∀ j e, (pil s)[j]? = some e → x.1 j = nI e.1 ∧ x.2 j = e.2 := by
  rw [pil_app, List.length_append] at h
  refine ⟨by omega, fun j e he => h.2 j e ?_⟩
  have hj := (List.getElem?_eq_some_iff.mp he).1
  rw [List.getElem?_append_left hj]
  exact he
/-- the pile before and after a value, and its link -/
def PAR (sB sA : List (Nat × Nat)) (lnk : Nat → LK) (bf pa : Int32) : Prop := (sB = [] ∧ sA = [] ∧ (∀ v, lnk v = []) ∧ bf = nI 0 ∧ pa = -1) ∨ ∃ s p c, sB = s ++ [(p, c + 1)] ∧ sA = s ++ [(p, c)] ∧ (∀ v, lnk v = [(p, v)]) ∧ bf = nI (s.length + 1) ∧ pa = nI p
set_option maxHeartbeats 16000000 in
theorem c_m_readAll {g : GT} (hG : GLB g) (d m : Nat) (r : Nat → Nat) {th os pkd pkg cm fu : Int32}  {op at_ bgc : Int32} {pr : Int64} (fc fp got : Int32) (bs : List UInt8) (us0 : List VT) (zs0 : List Nat) (R0 : LK) (nb0 pg : Nat) (mk0 : Nat → Nat) (gs0 : List Nat) (s0 : PIL) (hd : 6 ≤ d) (hmk : ∀ j, mk0 j ≤ pg) : CtrV g mX8_readAll 7 d 0 0 m [] [MF m r th (nI bs.length) os (nI us0.length) (nI R0.length) (nI nb0) pkd pkg cm fu op fc fp at_ bgc got pr, BA g (r 1) bs, TB g r us0 zs0 R0 nb0 mk0, GS g r gs0, PL g r s0] (allQ g m r th os pkd pkg cm fu fc fp bs us0 zs0 R0 pg (rdAll bs us0.length R0.length nb0)) noX := by
  refine ⟨rcv_pt, ?_⟩
  obtain ⟨RES, hRES⟩ : ∃ RES, RES = rdAll bs us0.length R0.length nb0 := ⟨_, rfl⟩
  rw [← hRES]
  refine ctr_intro hG (by decide +kernel) (Nat.le_of_ble_eq_true rfl) ?_
  rintro X F rfl E B hI T
  replace E : JE X RX8 cX8_readAll 4 d 0 0 := E
  show J X _ [MF m r th (nI bs.length) os (nI us0.length) (nI R0.length) (nI nb0) pkd pkg cm fu op fc fp at_ bgc got pr, BA X.1 (r 1) bs, TB X.1 r us0 zs0 R0 nb0 mk0, GS X.1 r gs0, PL X.1 r s0, F] 0 0 0 [some (.ref m), none, none, none] []
  refine j_know (pick_know (P := BA X.1 (r 1) bs) (by repeat (first | with_reducible exact pick_0 | with_reducible apply pick_s)) ba_know) (fun hbl => ?_)
  refine j_know (pick_know (P := TB X.1 r us0 zs0 R0 nb0 mk0) (by repeat (first | with_reducible exact pick_0 | with_reducible apply pick_s)) tb_know) (fun hk9 => ?_)
  unfold allQ at B
  have linkseg : ∀ (sB sA t : List (Nat × Nat)) (lnk : Nat → LK) (bf pa : Int32) (i v : Nat) (us : List VT) (zs : List Nat) (R : LK) (np nb : Nat) (gs : List Nat) (mk : Nat → Nat), PAR sB sA lnk bf pa → INV us0 zs0 R0 pg bs i (sB ++ t) us zs R np nb gs mk → (INV us0 zs0 R0 pg bs i (sA ++ t) us zs (lnk v ++ R) np nb gs mk → J X 4 [MF m r th (nI bs.length) os (nI (us).length) (nI (lnk v ++ R).length) (nI nb) pkd pkg cm fu (nI (pil (sA ++ t)).length) fc fp (nI i) (nI (gs).length) ((nI v)) (lN (np)), BA X.1 (r 1) bs, TB X.1 r (us) (zs) (lnk v ++ R) nb (mk), GS X.1 r (gs), PL X.1 r (pil (sA ++ t)), F] 0 0 92 [some (.ref m), some (.int 1), some (.int bf), some (.int pa)] []) → J X 4 [MF m r th (nI bs.length) os (nI (us).length) (nI (R).length) (nI nb) pkd pkg cm fu (nI (pil (sB ++ t)).length) fc fp (nI i) (nI (gs).length) ((nI v)) (lN (np)), BA X.1 (r 1) bs, TB X.1 r (us) (zs) (R) nb (mk), GS X.1 r (gs), PL X.1 r (pil (sB ++ t)), F] 0 0 67 [some (.ref m), some (.int 1), some (.int bf), some (.int pa)] [] := by
    rintro sB sA t lnk bf pa i v us zs R np nb gs mk (⟨rfl, rfl, hl, rfl, rfl⟩ | ⟨s, p, c, rfl, rfl, hl, rfl, rfl⟩) hinv kk
    · rw [hl, List.nil_append] at kk
      have := kk hinv
      refine j_iload_n E 68 dX8_readAll_67 3 rfl rfl rfl ?_
      refine j_if_lt E 92 71 dX8_readAll_68 (by decide) rfl (fun h68 => ?_) (fun h68 => ?_)
      · exact this
      · exact absurd (by decide) h68
    · rw [List.append_assoc, List.singleton_append] at hinv
      obtain ⟨hinv2, hR6⟩ := inv_link (v := v) hinv
      rw [List.append_assoc, List.singleton_append, hl, List.singleton_append] at kk
      have kk := kk hinv2
      rw [List.append_assoc, List.singleton_append]
      have hp := hinv.2.2.2.2.1 (p, c + 1) (List.mem_append_right _ List.mem_cons_self)
      dsimp only at hp
      have hu3 := hinv.2.2.2.1.1
      have hlen : (pil (s ++ (p, c + 1) :: t)).length = (pil (s ++ (p, c) :: t)).length := by rw [pil_len, pil_len, List.length_append, List.length_append]; rfl
      refine j_iload_n E 68 dX8_readAll_67 3 rfl rfl rfl ?_
      refine j_if_lt E 92 71 dX8_readAll_68 (by decide) rfl (fun h68 => ?_) (fun h68 => ?_)
      · exact absurd h68 (nI_pos (by omega))
      · refine j_aload_n E 72 dX8_readAll_71 0 rfl rfl rfl ?_
        refine j_iload_n E 73 dX8_readAll_72 3 rfl rfl rfl ?_
        refine j_aload_n E 74 dX8_readAll_73 0 rfl rfl rfl ?_
        refine j_getf E 77 dX8_readAll_74 fl_X8_169 (by repeat (first | with_reducible exact pick_0 | with_reducible apply pick_s)) (by rfl) rfl ?_
        refine j_callV E (c_m_link hG (d-1) m r p v us zs R nb mk hp.2.1 hp.2.2.1 hp.2.2.2 hR6) 80 dX8_readAll_77 _ _ _ iv_X8_134 rfl rfl rfl (by repeat (first | with_reducible exact pick_0 | with_reducible apply pick_s | exact sel_0 | apply sel_s)) (by omega) (by omega) (by omega) (Nat.le_of_ble_eq_true rfl) rfl ?_
        rintro _ _ _ _ ⟨rfl, rfl, rfl, rfl⟩
        dsimp only [List.cons_append, List.nil_append, Option.toList]
        refine j_open (by repeat (first | with_reducible exact pick_0 | with_reducible apply pick_s)) pl_open ?_
        rintro ⟨fv, fw⟩ hpl9
        dsimp only [List.cons_append, List.nil_append] at hpl9 ⊢
        have hat := pl_at (x := (fv, fw)) hpl9
        have hl24 := hpl9.1
        rw [pil_len, List.length_append, List.length_cons] at hl24
        refine j_aload_n E 81 dX8_readAll_80 0 rfl rfl rfl ?_
        refine j_getf E 84 dX8_readAll_81 fl_X8_65 (by repeat (first | with_reducible exact pick_0 | with_reducible apply pick_s)) (by rfl) rfl ?_
        refine j_iload_n E 85 dX8_readAll_84 2 rfl rfl rfl ?_
        refine j_iconst E (1) 86 dX8_readAll_85 (by decide) rfl ?_
        refine j_isub E 87 dX8_readAll_86 rfl ?_
        rw [nI_pred]
        refine j_dup2_11 E 88 dX8_readAll_87 rfl rfl rfl ?_
        refine j_lald E 89 dX8_readAll_88 (by repeat (first | with_reducible exact pick_0 | with_reducible apply pick_s)) (vp_in_nI (by omega) (by omega)) rfl ?_
        rw [nI_clamp (by omega)]
        refine j_eql (y := lN (c + 1)) hat.2 ?_
        refine j_lconst E 1 90 dX8_readAll_89 rfl rfl ?_
        refine j_lsub E 91 dX8_readAll_90 rfl ?_
        refine j_eql (y := lN c) (by rw [show (1 : Int64) = lN 1 from rfl, lN_sub (by omega)]; rfl) ?_
        refine j_last E 92 dX8_readAll_91 (by repeat (first | with_reducible exact pick_0 | with_reducible apply pick_s)) (vp_in_nI (by omega) (by omega)) rfl ?_
        rw [nI_clamp (by omega)]
        refine j_close (by repeat (first | with_reducible exact pick_0 | with_reducible apply pick_s | exact sel_0 | apply sel_s)) (pl_of (pil (s ++ (p, c) :: t)) (pl_set (x := (fv, fw)) hpl9)) ?_
        rw [hlen]
        rw [show ((p, v) :: R).length = R.length + 1 from rfl] at kk
        exact j_sel (by repeat (first | with_reducible exact pick_0 | with_reducible apply pick_s | exact sel_0 | apply sel_s)) kk
  have vat_mem : ∀ (new : List VT) (j : Nat), j < new.length → vAt new j ∈ new := fun new j hj => by
    rw [vAt, List.getD_eq_getElem?_getD, List.getElem?_eq_getElem hj]
    exact List.getElem_mem hj
  have vs : ∀ f : Nat, (∀ f1, f = f1 + 1 → ∀ (c : Nat) (s : List (Nat × Nat)) (gi i : Nat) (us : List VT) (zs : List Nat) (R : LK) (np nb : Nat) (gs : List Nat) (mk : Nat → Nat) (got : Int32) (bf pa : Int32), s.length + 1 + f1 = 24 → gi < us.length → INV us0 zs0 R0 pg bs i (s ++ [(gi, c)]) us zs R np nb gs mk → (∀ (ps : List Nat) (e : Nat) (new : List VT) (np1 nb1 : Nat) (gs1 : List Nat) (f' : LK) (mk' : Nat → Nat) (got' bf' pa' : Int32), rdMany (rdV bs f1) c i us.length np nb gs = .inr (ps, e, new, np1, nb1, gs1) → (∀ x ∈ f', x.1 = gi ∨ (us.length ≤ x.1 ∧ x.1 < us.length + new.length)) → lkP f' gi = ps → (∀ j, j < new.length → lkP f' (us.length + j) = (vAt new j).2.2.2.2) → INV us0 zs0 R0 pg bs e s (us ++ new.map stp) (zs ++ new.map vlen) (f' ++ R) np1 nb1 gs1 mk' → J X 4 [MF m r th (nI bs.length) os (nI (us ++ new.map stp).length) (nI (f' ++ R).length) (nI nb1) pkd pkg cm fu (nI (pil (s)).length) fc fp (nI e) (nI (gs1).length) (got') (lN (np1)), BA X.1 (r 1) bs, TB X.1 r (us ++ new.map stp) (zs ++ new.map vlen) (f' ++ R) nb1 (mk'), GS X.1 r (gs1), PL X.1 r (pil (s)), F] 0 0 92 [some (.ref m), some (.int 1), some (.int bf'), some (.int pa')] []) → (∀ x, rdMany (rdV bs f1) c i us.length np nb gs = .inl x → RES = .inl x) → J X 4 [MF m r th (nI bs.length) os (nI (us).length) (nI (R).length) (nI nb) pkd pkg cm fu (nI (pil (s ++ [(gi, c)])).length) fc fp (nI i) (nI (gs).length) got (lN (np)), BA X.1 (r 1) bs, TB X.1 r (us) (zs) (R) nb (mk), GS X.1 r (gs), PL X.1 r (pil (s ++ [(gi, c)])), F] 0 0 92 [some (.ref m), some (.int 1), some (.int bf), some (.int pa)] []) → ∀ (sB sA : List (Nat × Nat)) (lnk : Nat → LK) (i : Nat) (us : List VT) (zs : List Nat) (R : LK) (np nb : Nat) (gs : List Nat) (mk : Nat → Nat) (got : Int32) (l2 l3 : Option Value) (bf pa : Int32), PAR sB sA lnk bf pa → sB.length + f = 24 → INV us0 zs0 R0 pg bs i sB us zs R np nb gs mk → (∀ (v e : Nat) (new : List VT) (np1 nb1 : Nat) (gs1 : List Nat) (f' : LK) (mk' : Nat → Nat) (got' bf' pa' : Int32), rdV bs f i us.length np nb gs = .inr (v, e, new, np1, nb1, gs1) → (∀ x ∈ f', us.length ≤ x.1 ∧ x.1 < us.length + new.length) → (∀ j, j < new.length → lkP f' (us.length + j) = (vAt new j).2.2.2.2) → INV us0 zs0 R0 pg bs e sA (us ++ new.map stp) (zs ++ new.map vlen) (f' ++ (lnk v ++ R)) np1 nb1 gs1 mk' → J X 4 [MF m r th (nI bs.length) os (nI (us ++ new.map stp).length) (nI (f' ++ (lnk v ++ R)).length) (nI nb1) pkd pkg cm fu (nI (pil (sA)).length) fc fp (nI e) (nI (gs1).length) (got') (lN (np1)), BA X.1 (r 1) bs, TB X.1 r (us ++ new.map stp) (zs ++ new.map vlen) (f' ++ (lnk v ++ R)) nb1 (mk'), GS X.1 r (gs1), PL X.1 r (pil (sA)), F] 0 0 92 [some (.ref m), some (.int 1), some (.int bf'), some (.int pa')] []) → (∀ x, rdV bs f i us.length np nb gs = .inl x → RES = .inl x) → J X 4 [MF m r th (nI bs.length) os (nI (us).length) (nI (R).length) (nI nb) pkd pkg cm fu (nI (pil (sB)).length) fc fp (nI i) (nI (gs).length) got (lN (np)), BA X.1 (r 1) bs, TB X.1 r (us) (zs) (R) nb (mk), GS X.1 r (gs), PL X.1 r (pil (sB)), F] 0 0 26 [some (.ref m), some (.int 1), l2, l3] [] := by
    intro f hrec sB sA lnk i us zs R np nb gs mk got l2 l3 bf pa hpar hsf hinv kok kbad
    have hop : (pil sB).length = sB.length := pil_len sB
    have hOK := hinv.2.2.2.1
    have hi := hinv.2.2.2.2.2
    have hu3 := hOK.1
    obtain ⟨sub, hsub, hs0, hsS⟩ : ∃ sub : SUBF, (∀ i n np nb gs, rdV bs f i n np nb gs = rdOne sub bs i n np nb gs) ∧ (sub = none ↔ (pil sB).length = 24) ∧ (∀ f1, f = f1 + 1 → sub = some (rdV bs f1)) := by
      rcases f with _ | f
      · exact ⟨none, fun _ _ _ _ _ => rfl, ⟨fun _ => by omega, fun _ => rfl⟩, fun f1 e => by cases e⟩
      · exact ⟨some (rdV bs f), fun _ _ _ _ _ => rfl, ⟨fun e => (by cases e), fun q => by omega⟩, fun f1 e => (by cases e; rfl)⟩
    have at58 : J X 4 [MF m r th (nI bs.length) os (nI (us).length) (nI (R).length) (nI nb) pkd pkg cm fu (nI (pil (sB)).length) fc fp (nI i) (nI (gs).length) got (lN (np)), BA X.1 (r 1) bs, TB X.1 r (us) (zs) (R) nb (mk), GS X.1 r (gs), PL X.1 r (pil (sB)), F] 0 0 58 [some (.ref m), some (.int 1), some (.int bf), some (.int pa)] [] := by
      refine j_aload_n E 59 dX8_readAll_58 0 rfl rfl rfl ?_
      refine j_callV E (c_m_readOne hG (d-1) m r fc fp got i np gs (pil sB) bs us zs R nb mk (by omega) hi hOK.2.2.2.1 hOK.2.1) 62 dX8_readAll_59 _ _ _ iv_X8_195 rfl rfl rfl (by repeat (first | with_reducible exact pick_0 | with_reducible apply pick_s | exact sel_0 | apply sel_s)) (by omega) (by omega) (by omega) (Nat.le_of_ble_eq_true rfl) rfl ?_
      rintro o dc ds ws' ⟨rfl, rfl, hq⟩
      rcases h1 : rd1 (pil sB).length bs i us.length np nb gs with x | x
      · rw [h1] at hq
        dsimp only at hq
        obtain ⟨rfl, at1, rfl⟩ := hq
        have hbad := kbad x (by rw [hsub]; exact rd1_l hs0 h1)
        rw [hbad] at B
        dsimp only at B
        dsimp only [List.cons_append, List.nil_append, Option.toList]
        obtain ⟨⟨e, ze, f9, rfl, rfl, rfl, hf9⟩, hmk9, -⟩ := hinv
        refine j_if_ne E 67 65 dX8_readAll_62 (by decide) rfl (fun h62 => ?_) (fun h62 => ?_)
        · exact absurd rfl h62
        · refine j_iconst E (0) 66 dX8_readAll_65 (by decide) rfl ?_
          exact j_zret E B rfl (by first | exact Or.inl rfl | exact Or.inr rfl) 0 0 dX8_readAll_66 (by repeat (first | with_reducible exact pick_0 | with_reducible apply pick_s | exact sel_0 | apply sel_s)) ⟨rfl, rfl, rfl, _, _, _, _, _, _, _, _, e, ze, f9, _, _, _, _, hf9, hmk9, rfl⟩ (by omega) (by omega) (by omega) (by omega)
      · rw [h1] at hq
        obtain ⟨rfl, rfl⟩ := hq
        dsimp only [List.cons_append, List.nil_append, Option.toList]
        refine j_if_ne E 67 65 dX8_readAll_62 (by decide) rfl (fun h62 => ?_) (fun h62 => ?_)
        · by_cases hg : grpB bs i
          · obtain ⟨h24, h3000, hnp6, rfl, hle, hrd⟩ := rd1_grp hs0 hg h1
            obtain ⟨f1, hf1⟩ : ∃ f1, f = f1 + 1 := ⟨f - 1, by omega⟩
            have hs1 := hrd _ (hsS f1 hf1)
            obtain ⟨k, hk⟩ : ∃ k, k = (lead bs i).1 := ⟨_, rfl⟩
            obtain ⟨hh, hhh⟩ : ∃ hh, hh = (lead bs i).2.1 := ⟨_, rfl⟩
            obtain ⟨b, hb⟩ : ∃ b, b = (lead bs i).2.2.1 := ⟨_, rfl⟩
            have hg' : k = 7 ∨ k = 8 := by rw [hk]; exact hg
            have hgp : gpu bs i us.length = pil [(us.length, b)] := by
              rw [hb]
              exact if_pos hg
            have hrz : ∀ new, rz bs i new = [if k = 8 then b / 2 else b] := fun new => by
              rw [hk, hb]
              exact if_pos hg
            rw [← hk, ← hhh, ← hb] at hs1
            rw [← hb] at hnp6
            rw [← hhh] at hle
            have hi2 := inv_push (k := k) (b := b) (e1 := i + hh) (zz := [if k = 8 then b / 2 else b]) hinv h3000 hnp6 hg' hle
            have hls : (us ++ [(k, (0 : Int64), (0 : Int32), ([] : List UInt8), ([] : List Nat))]).length = us.length + 1 := by rw [List.length_append]; rfl
            have hsA : sA.length = sB.length := by
              rcases hpar with ⟨rfl, rfl, -⟩ | ⟨s, p, c, rfl, rfl, -⟩
              · rfl
              · rw [List.length_append, List.length_append]
                rfl
            have hL := linkseg sB sA [(us.length, b)] lnk bf pa (i + hh) us.length _ _ R _ nb _ _ hpar hi2 (fun hinv2 => ?_)
            · simp only [hgp, hrz, mkN, if_neg (List.cons_ne_nil _ _), ← pil_app, List.length_append, List.length_singleton, ← hk, ← hhh, ← hb] at hL ⊢
              exact j_sel (by repeat (first | with_reducible exact pick_0 | with_reducible apply pick_s | exact sel_0 | apply sel_s)) hL
            · refine hrec f1 hf1 b sA us.length (i + hh) _ _ (lnk us.length ++ R) _ nb _ _ (nI us.length) bf pa (by omega) (by rw [hls]; exact Nat.lt_succ_self _) hinv2 (fun ps e new np1 nb1 gs1 f' mk' got' bf' pa' hm hf' hps hj hinv3 => ?_) (fun x hx => ?_)
              · rw [hls] at hm hf' hj
                have hz : (if k = 8 then b / 2 else b) = vlen (k, 0, 0, [], ps) := by
                  have h5 := rdMany_len hm
                  dsimp only at h5
                  rw [vlen]
                  dsimp only
                  rw [h5]
                  by_cases q : k = 8
                  · rw [if_pos q, if_pos q]
                  · rw [if_neg q, if_neg q, if_pos (by omega)]
                have e1 : us ++ [(k, 0, 0, [], [])] ++ new.map stp = us ++ ((k, (0 : Int64), (0 : Int32), ([] : List UInt8), ps) :: new).map stp := by
                  rw [List.append_assoc]
                  rfl
                have e2 : zs ++ [if k = 8 then b / 2 else b] ++ new.map vlen = zs ++ ((k, (0 : Int64), (0 : Int32), ([] : List UInt8), ps) :: new).map vlen := by
                  rw [List.append_assoc, hz]
                  rfl
                rw [e1, e2] at hinv3
                rw [e1, e2]
                refine kok us.length e ((k, 0, 0, [], ps) :: new) np1 nb1 gs1 f' mk' got' bf' pa' (by rw [hsub]; exact hs1.2 _ _ _ _ _ _ hm) (fun x hx => ?_) (fun j hjl => ?_) hinv3
                · rw [List.length_cons]
                  have := hf' x hx
                  omega
                · rcases j with _ | j
                  · exact hps
                  · have := hj j (by rw [List.length_cons] at hjl; omega)
                    rw [show us.length + (j + 1) = us.length + 1 + j by omega]
                    exact this
              · rw [hls] at hx
                exact kbad x (by rw [hsub]; exact hs1.1 x hx)
          · obtain ⟨v, e, new, np1, nb1, gs1⟩ := x
            obtain ⟨hone, -, hparts, hnp1, hlen1⟩ := rd1_leaf (sub := sub) hg h1
            dsimp only at hparts hnp1 hlen1
            subst hnp1
            have hgp : gpu bs i us.length = [] := if_neg hg
            have hrz : ∀ new, rz bs i new = new.map vlen := fun new => if_neg hg
            have hrok := rdV_ok (bs := bs) f i us.length np1 nb gs hOK
            rw [hsub, hone] at hrok
            obtain ⟨o1, o2, o3, o4⟩ := hrok
            dsimp only at o1 o2 o3 o4
            have hst : new.map stp = new := by
              have h9 : ∀ v ∈ new, stp v = v := fun v hv => by
                have h8 := hparts v hv
                obtain ⟨v1, v2, v3, v4, v5⟩ := v
                dsimp only at h8
                subst h8
                rfl
              exact (List.map_congr_left h9).trans (List.map_id' _)
            have hi2 := inv_leaf (new := new) (zz := new.map vlen) hinv o1 o4
            have hL := linkseg sB sA [] lnk bf pa e v _ _ R _ nb1 gs1 _ hpar (by rw [List.append_nil]; exact hi2) (fun hinv2 => ?_)
            · simp only [hgp, hrz, List.append_nil, List.length_append] at hL ⊢
              exact j_sel (by repeat (first | with_reducible exact pick_0 | with_reducible apply pick_s | exact sel_0 | apply sel_s)) hL
            · have hK := kok v e new np1 nb1 gs1 [] (mkN mk us.length new) (nI v) bf pa (by rw [hsub]; exact hone) (fun x hx => absurd hx List.not_mem_nil) (fun j hj => (hparts _ (vat_mem new j hj)).symm)
              rw [hst, List.nil_append] at hK
              rw [List.append_nil] at hinv2 ⊢
              exact hK hinv2
        · exact absurd h62 (by decide)
    refine j_iload_n E 27 dX8_readAll_26 1 rfl rfl rfl ?_
    refine j_if_eq E 144 30 dX8_readAll_27 (by decide) rfl (fun h27 => ?_) (fun h27 => ?_)
    · exact absurd h27 (by decide)
    · refine j_aload_n E 31 dX8_readAll_30 0 rfl rfl rfl ?_
      refine j_getf E 34 dX8_readAll_31 fl_X8_186 (by repeat (first | with_reducible exact pick_0 | with_reducible apply pick_s)) (by rfl) rfl ?_
      refine j_istore_n E 35 dX8_readAll_34 2 rfl (Nat.le_of_ble_eq_true rfl) rfl rfl ?_
      dsimp only [List.set]
      refine j_aload_n E 36 dX8_readAll_35 0 rfl rfl rfl ?_
      refine j_getf E 39 dX8_readAll_36 fl_X8_186 (by repeat (first | with_reducible exact pick_0 | with_reducible apply pick_s)) (by rfl) rfl ?_
      refine j_if_le E 56 42 dX8_readAll_39 (by decide) rfl (fun h39 => ?_) (fun h39 => ?_)
      · rcases hpar with ⟨rfl, rfl, hl, rfl, rfl⟩ | ⟨s, p, c, rfl, rfl, hl, rfl, rfl⟩
        · refine j_iconst E (-1) 57 dX8_readAll_56 (by decide) rfl ?_
          refine j_istore_n E 58 dX8_readAll_57 3 rfl (Nat.le_of_ble_eq_true rfl) rfl rfl ?_
          dsimp only [List.set]
          exact at58
        · exact absurd h39 (by rw [hop, List.length_append, List.length_singleton]; exact nI_nle (by omega) (by rw [List.length_append, List.length_singleton] at hsf; omega))
      · rcases hpar with ⟨rfl, rfl, hl, rfl, rfl⟩ | ⟨s, p, c, rfl, rfl, hl, rfl, rfl⟩
        · exact absurd (show (0 : Int32) ≤ 0 by decide) h39
        · have hlen : (pil (s ++ [(p, c + 1)])).length = s.length + 1 := by rw [hop, List.length_append]; rfl
          have hs24 : s.length < 24 := by rw [List.length_append, List.length_singleton] at hsf; omega
          refine j_open (by repeat (first | with_reducible exact pick_0 | with_reducible apply pick_s)) pl_open ?_
          rintro ⟨fv, fw⟩ hpl9
          dsimp only [List.cons_append, List.nil_append] at hpl9 ⊢
          have hat := pl_at (x := (fv, fw)) hpl9
          rw [hlen]
          refine j_aload_n E 43 dX8_readAll_42 0 rfl rfl rfl ?_
          refine j_getf E 46 dX8_readAll_43 fl_X8_62 (by repeat (first | with_reducible exact pick_0 | with_reducible apply pick_s)) (by rfl) rfl ?_
          refine j_aload_n E 47 dX8_readAll_46 0 rfl rfl rfl ?_
          refine j_getf E 50 dX8_readAll_47 fl_X8_186 (by repeat (first | with_reducible exact pick_0 | with_reducible apply pick_s)) (by rfl) rfl ?_
          refine j_iconst E (1) 51 dX8_readAll_50 (by decide) rfl ?_
          refine j_isub E 52 dX8_readAll_51 rfl ?_
          rw [nI_pred]
          refine j_iald E 53 dX8_readAll_52 (by repeat (first | with_reducible exact pick_0 | with_reducible apply pick_s)) (vp_in_nI (by omega) (by omega)) rfl ?_
          rw [nI_clamp (by omega)]
          refine j_eqi (y := nI p) hat.1 ?_
          refine j_goto E 57 dX8_readAll_53 (by decide) ?_
          refine j_istore_n E 58 dX8_readAll_57 3 rfl (Nat.le_of_ble_eq_true rfl) rfl rfl ?_
          dsimp only [List.set]
          refine j_close (by repeat (first | with_reducible exact pick_0 | with_reducible apply pick_s | exact sel_0 | apply sel_s)) (pl_of (pil (s ++ [(p, c + 1)])) hpl9) ?_
          rw [hlen] at at58
          exact j_sel (by repeat (first | with_reducible exact pick_0 | with_reducible apply pick_s | exact sel_0 | apply sel_s)) at58
  have pk : ∀ f : Nat, (∀ (sB sA : List (Nat × Nat)) (lnk : Nat → LK) (i : Nat) (us : List VT) (zs : List Nat) (R : LK) (np nb : Nat) (gs : List Nat) (mk : Nat → Nat) (got : Int32) (l2 l3 : Option Value) (bf pa : Int32), PAR sB sA lnk bf pa → sB.length + f = 24 → INV us0 zs0 R0 pg bs i sB us zs R np nb gs mk → (∀ (v e : Nat) (new : List VT) (np1 nb1 : Nat) (gs1 : List Nat) (f' : LK) (mk' : Nat → Nat) (got' bf' pa' : Int32), rdV bs f i us.length np nb gs = .inr (v, e, new, np1, nb1, gs1) → (∀ x ∈ f', us.length ≤ x.1 ∧ x.1 < us.length + new.length) → (∀ j, j < new.length → lkP f' (us.length + j) = (vAt new j).2.2.2.2) → INV us0 zs0 R0 pg bs e sA (us ++ new.map stp) (zs ++ new.map vlen) (f' ++ (lnk v ++ R)) np1 nb1 gs1 mk' → J X 4 [MF m r th (nI bs.length) os (nI (us ++ new.map stp).length) (nI (f' ++ (lnk v ++ R)).length) (nI nb1) pkd pkg cm fu (nI (pil (sA)).length) fc fp (nI e) (nI (gs1).length) (got') (lN (np1)), BA X.1 (r 1) bs, TB X.1 r (us ++ new.map stp) (zs ++ new.map vlen) (f' ++ (lnk v ++ R)) nb1 (mk'), GS X.1 r (gs1), PL X.1 r (pil (sA)), F] 0 0 92 [some (.ref m), some (.int 1), some (.int bf'), some (.int pa')] []) → (∀ x, rdV bs f i us.length np nb gs = .inl x → RES = .inl x) → J X 4 [MF m r th (nI bs.length) os (nI (us).length) (nI (R).length) (nI nb) pkd pkg cm fu (nI (pil (sB)).length) fc fp (nI i) (nI (gs).length) got (lN (np)), BA X.1 (r 1) bs, TB X.1 r (us) (zs) (R) nb (mk), GS X.1 r (gs), PL X.1 r (pil (sB)), F] 0 0 26 [some (.ref m), some (.int 1), l2, l3] []) → ∀ (c : Nat) (s : List (Nat × Nat)) (gi i : Nat) (us : List VT) (zs : List Nat) (R : LK) (np nb : Nat) (gs : List Nat) (mk : Nat → Nat) (got : Int32) (bf pa : Int32), s.length + 1 + f = 24 → gi < us.length → INV us0 zs0 R0 pg bs i (s ++ [(gi, c)]) us zs R np nb gs mk → (∀ (ps : List Nat) (e : Nat) (new : List VT) (np1 nb1 : Nat) (gs1 : List Nat) (f' : LK) (mk' : Nat → Nat) (got' bf' pa' : Int32), rdMany (rdV bs f) c i us.length np nb gs = .inr (ps, e, new, np1, nb1, gs1) → (∀ x ∈ f', x.1 = gi ∨ (us.length ≤ x.1 ∧ x.1 < us.length + new.length)) → lkP f' gi = ps → (∀ j, j < new.length → lkP f' (us.length + j) = (vAt new j).2.2.2.2) → INV us0 zs0 R0 pg bs e s (us ++ new.map stp) (zs ++ new.map vlen) (f' ++ R) np1 nb1 gs1 mk' → J X 4 [MF m r th (nI bs.length) os (nI (us ++ new.map stp).length) (nI (f' ++ R).length) (nI nb1) pkd pkg cm fu (nI (pil (s)).length) fc fp (nI e) (nI (gs1).length) (got') (lN (np1)), BA X.1 (r 1) bs, TB X.1 r (us ++ new.map stp) (zs ++ new.map vlen) (f' ++ R) nb1 (mk'), GS X.1 r (gs1), PL X.1 r (pil (s)), F] 0 0 92 [some (.ref m), some (.int 1), some (.int bf'), some (.int pa')] []) → (∀ x, rdMany (rdV bs f) c i us.length np nb gs = .inl x → RES = .inl x) → J X 4 [MF m r th (nI bs.length) os (nI (us).length) (nI (R).length) (nI nb) pkd pkg cm fu (nI (pil (s ++ [(gi, c)])).length) fc fp (nI i) (nI (gs).length) got (lN (np)), BA X.1 (r 1) bs, TB X.1 r (us) (zs) (R) nb (mk), GS X.1 r (gs), PL X.1 r (pil (s ++ [(gi, c)])), F] 0 0 92 [some (.ref m), some (.int 1), some (.int bf), some (.int pa)] [] := by
    intro f hvs c
    induction c with
    | zero =>
      intro s gi i us zs R np nb gs mk got bf pa hsf hgi hinv kok kbad
      have hlen : (pil (s ++ [(gi, 0)])).length = s.length + 1 := by rw [pil_len, List.length_append]; rfl
      have hK := kok [] i [] np nb gs [] mk got bf pa rfl (fun x hx => absurd hx List.not_mem_nil) rfl (fun j hj => absurd hj (Nat.not_lt_zero _))
      simp only [List.map_nil, List.append_nil, List.nil_append] at hK
      have hK := hK (inv_pop hinv)
      rw [hlen]
      refine j_aload_n E 93 dX8_readAll_92 0 rfl rfl rfl ?_
      refine j_getf E 96 dX8_readAll_93 fl_X8_186 (by repeat (first | with_reducible exact pick_0 | with_reducible apply pick_s)) (by rfl) rfl ?_
      refine j_if_le E 128 99 dX8_readAll_96 (by decide) rfl (fun h96 => ?_) (fun h96 => ?_)
      · exact absurd h96 (nI_nle (by omega) (by omega))
      · refine j_open (by repeat (first | with_reducible exact pick_0 | with_reducible apply pick_s)) pl_open ?_
        rintro ⟨fv, fw⟩ hpl9
        dsimp only [List.cons_append, List.nil_append] at hpl9 ⊢
        have hat := pl_at (x := (fv, fw)) hpl9
        refine j_aload_n E 100 dX8_readAll_99 0 rfl rfl rfl ?_
        refine j_getf E 103 dX8_readAll_100 fl_X8_65 (by repeat (first | with_reducible exact pick_0 | with_reducible apply pick_s)) (by rfl) rfl ?_
        refine j_aload_n E 104 dX8_readAll_103 0 rfl rfl rfl ?_
        refine j_getf E 107 dX8_readAll_104 fl_X8_186 (by repeat (first | with_reducible exact pick_0 | with_reducible apply pick_s)) (by rfl) rfl ?_
        refine j_iconst E (1) 108 dX8_readAll_107 (by decide) rfl ?_
        refine j_isub E 109 dX8_readAll_108 rfl ?_
        rw [nI_pred]
        refine j_lald E 110 dX8_readAll_109 (by repeat (first | with_reducible exact pick_0 | with_reducible apply pick_s)) (vp_in_nI (by omega) (by omega)) rfl ?_
        rw [nI_clamp (by omega)]
        refine j_eql (y := lN 0) hat.2 ?_
        refine j_close (by repeat (first | with_reducible exact pick_0 | with_reducible apply pick_s | exact sel_0 | apply sel_s)) (pl_of (pil s) (pl_pop (x := (fv, fw)) hpl9)) ?_
        refine j_lconst E 0 111 dX8_readAll_110 rfl rfl ?_
        refine j_lcmp E 112 dX8_readAll_111 rfl ?_
        refine j_if_ne E 128 115 dX8_readAll_112 (by decide) rfl (fun h112 => ?_) (fun h112 => ?_)
        · exact absurd ((lg_cmp_eq _ _).mpr rfl) h112
        · refine j_aload_n E 116 dX8_readAll_115 0 rfl rfl rfl ?_
          refine j_dup E 117 dX8_readAll_116 rfl rfl ?_
          refine j_getf E 120 dX8_readAll_117 fl_X8_186 (by repeat (first | with_reducible exact pick_0 | with_reducible apply pick_s)) (by rfl) rfl ?_
          refine j_iconst E (1) 121 dX8_readAll_120 (by decide) rfl ?_
          refine j_isub E 122 dX8_readAll_121 rfl ?_
          rw [nI_pred]
          refine j_putf E 125 dX8_readAll_122 fl_X8_186 (by repeat (first | with_reducible exact pick_0 | with_reducible apply pick_s)) rfl rfl (Nat.le_of_ble_eq_true rfl) rfl ?_
          dsimp only [List.set]
          refine j_goto E 92 dX8_readAll_125 (by decide) ?_
          rw [pil_len] at hK
          exact j_sel (by repeat (first | with_reducible exact pick_0 | with_reducible apply pick_s | exact sel_0 | apply sel_s)) hK
    | succ c ih =>
      intro s gi i us zs R np nb gs mk got bf pa hsf hgi hinv kok kbad
      have hlen : (pil (s ++ [(gi, c + 1)])).length = s.length + 1 := by rw [pil_len, List.length_append]; rfl
      have hlen2 : (s ++ [(gi, c + 1)]).length = s.length + 1 := by rw [List.length_append]; rfl
      have hL := hvs (s ++ [(gi, c + 1)]) (s ++ [(gi, c)]) (fun v => [(gi, v)]) i us zs R np nb gs mk got (some (.int bf)) (some (.int pa)) (nI (s.length + 1)) (nI gi) (Or.inr ⟨s, gi, c, rfl, rfl, fun _ => rfl, rfl, rfl⟩) (by omega) hinv (fun v e new np1 nb1 gs1 f1 mk1 got1 bf1 pa1 hr hf1 hj1 hinv1 => ?_) (fun x hx => kbad x (by rw [rdMany, hx]))
      · have hpos := hinv.2.2.1
        rw [lsum_app, lsum_1] at hpos
        have hc6 : c + 1 ≤ 6000 := by
          have := hinv.2.2.2.1.2.1
          omega
        rw [hlen] at hL ⊢
        refine j_aload_n E 93 dX8_readAll_92 0 rfl rfl rfl ?_
        refine j_getf E 96 dX8_readAll_93 fl_X8_186 (by repeat (first | with_reducible exact pick_0 | with_reducible apply pick_s)) (by rfl) rfl ?_
        refine j_if_le E 128 99 dX8_readAll_96 (by decide) rfl (fun h96 => ?_) (fun h96 => ?_)
        · exact absurd h96 (nI_nle (by omega) (by omega))
        · refine j_open (by repeat (first | with_reducible exact pick_0 | with_reducible apply pick_s)) pl_open ?_
          rintro ⟨fv, fw⟩ hpl9
          dsimp only [List.cons_append, List.nil_append] at hpl9 ⊢
          have hat := pl_at (x := (fv, fw)) hpl9
          refine j_aload_n E 100 dX8_readAll_99 0 rfl rfl rfl ?_
          refine j_getf E 103 dX8_readAll_100 fl_X8_65 (by repeat (first | with_reducible exact pick_0 | with_reducible apply pick_s)) (by rfl) rfl ?_
          refine j_aload_n E 104 dX8_readAll_103 0 rfl rfl rfl ?_
          refine j_getf E 107 dX8_readAll_104 fl_X8_186 (by repeat (first | with_reducible exact pick_0 | with_reducible apply pick_s)) (by rfl) rfl ?_
          refine j_iconst E (1) 108 dX8_readAll_107 (by decide) rfl ?_
          refine j_isub E 109 dX8_readAll_108 rfl ?_
          rw [nI_pred]
          refine j_lald E 110 dX8_readAll_109 (by repeat (first | with_reducible exact pick_0 | with_reducible apply pick_s)) (vp_in_nI (by omega) (by omega)) rfl ?_
          rw [nI_clamp (by omega)]
          refine j_eql (y := lN (c + 1)) hat.2 ?_
          refine j_close (by repeat (first | with_reducible exact pick_0 | with_reducible apply pick_s | exact sel_0 | apply sel_s)) (pl_of (pil (s ++ [(gi, c + 1)])) hpl9) ?_
          refine j_lconst E 0 111 dX8_readAll_110 rfl rfl ?_
          refine j_lcmp E 112 dX8_readAll_111 rfl ?_
          refine j_if_ne E 128 115 dX8_readAll_112 (by decide) rfl (fun h112 => ?_) (fun h112 => ?_)
          · refine j_aload_n E 129 dX8_readAll_128 0 rfl rfl rfl ?_
            refine j_getf E 132 dX8_readAll_129 fl_X8_186 (by repeat (first | with_reducible exact pick_0 | with_reducible apply pick_s)) (by rfl) rfl ?_
            refine j_if_le E 139 135 dX8_readAll_132 (by decide) rfl (fun h132 => ?_) (fun h132 => ?_)
            · exact absurd h132 (nI_nle (by omega) (by omega))
            · refine j_iconst E (1) 136 dX8_readAll_135 (by decide) rfl ?_
              refine j_goto E 140 dX8_readAll_136 (by decide) ?_
              refine j_istore_n E 141 dX8_readAll_140 1 rfl (Nat.le_of_ble_eq_true rfl) rfl rfl ?_
              dsimp only [List.set]
              refine j_goto E 26 dX8_readAll_141 (by decide) ?_
              exact j_sel (by repeat (first | with_reducible exact pick_0 | with_reducible apply pick_s | exact sel_0 | apply sel_s)) hL
          · have q := (lN_eqB (a := c + 1) (b := 0) (by omega) (by decide)).mp ((lg_cmp_eq _ _).mp h112)
            omega
      · have hlu : (us ++ new.map stp).length = us.length + new.length := by rw [List.length_append, List.length_map]
        refine ih s gi e _ _ _ np1 nb1 gs1 mk1 got1 bf1 pa1 hsf (by rw [hlu]; omega) hinv1 (fun ps e2 new2 np2 nb2 gs2 f2 mk2 got2 bf2 pa2 hm2 hf2 hps2 hj2 hinv2 => ?_) (fun x hx => kbad x (by rw [hlu] at hx; rw [rdMany, hr]; dsimp only; rw [hx]))
        rw [hlu] at hm2 hf2 hj2
        have e1 : us ++ new.map stp ++ new2.map stp = us ++ (new ++ new2).map stp := by rw [List.append_assoc, List.map_append]
        have e2' : zs ++ new.map vlen ++ new2.map vlen = zs ++ (new ++ new2).map vlen := by rw [List.append_assoc, List.map_append]
        have e3 : f2 ++ (f1 ++ ([(gi, v)] ++ R)) = f2 ++ (f1 ++ [(gi, v)]) ++ R := by rw [List.append_assoc, List.append_assoc]
        rw [e1, e2', e3] at hinv2 ⊢
        have hno1 : lkP f1 gi = [] := lkP_no (fun x hx => by have := hf1 x hx; omega)
        have hg1 : lkP [(gi, v)] gi = [v] := by simp [lkP]
        refine kok (v :: ps) e2 (new ++ new2) np2 nb2 gs2 (f2 ++ (f1 ++ [(gi, v)])) mk2 got2 bf2 pa2 (by rw [rdMany, hr]; dsimp only; rw [hm2]) (fun x hx => ?_) (by rw [lkP_app, lkP_app, hg1, hno1, hps2]; rfl) (fun j hj => ?_) hinv2
        · rw [List.length_append]
          rcases List.mem_append.mp hx with q | q
          · have := hf2 x q
            omega
          · rcases List.mem_append.mp q with q | q
            · have := hf1 x q
              omega
            · rw [List.mem_singleton.mp q]
              exact Or.inl rfl
        · have hng : lkP [(gi, v)] (us.length + j) = [] := lkP_no (fun x hx => by rw [List.mem_singleton.mp hx]; dsimp only; omega)
          rw [List.length_append] at hj
          rw [lkP_app, lkP_app, hng, List.nil_append]
          rcases Nat.lt_or_ge j new.length with q | q
          · rw [hj1 j q, vat_old _ q, lkP_no (A := f2) (fun x hx => by have := hf2 x hx; omega), List.append_nil]
          · obtain ⟨j2, rfl⟩ : ∃ j2, j = new.length + j2 := ⟨j - new.length, by omega⟩
            have h8 := hj2 j2 (by omega)
            rw [lkP_no (A := f1) (fun x hx => by have := hf1 x hx; omega), List.nil_append, ← Nat.add_assoc, h8, vAt, vAt, List.getD_eq_getElem?_getD, List.getD_eq_getElem?_getD, List.getElem?_append_right (Nat.le_add_right _ _), Nat.add_sub_cancel_left]
  have all : ∀ f : Nat, ∀ (sB sA : List (Nat × Nat)) (lnk : Nat → LK) (i : Nat) (us : List VT) (zs : List Nat) (R : LK) (np nb : Nat) (gs : List Nat) (mk : Nat → Nat) (got : Int32) (l2 l3 : Option Value) (bf pa : Int32), PAR sB sA lnk bf pa → sB.length + f = 24 → INV us0 zs0 R0 pg bs i sB us zs R np nb gs mk → (∀ (v e : Nat) (new : List VT) (np1 nb1 : Nat) (gs1 : List Nat) (f' : LK) (mk' : Nat → Nat) (got' bf' pa' : Int32), rdV bs f i us.length np nb gs = .inr (v, e, new, np1, nb1, gs1) → (∀ x ∈ f', us.length ≤ x.1 ∧ x.1 < us.length + new.length) → (∀ j, j < new.length → lkP f' (us.length + j) = (vAt new j).2.2.2.2) → INV us0 zs0 R0 pg bs e sA (us ++ new.map stp) (zs ++ new.map vlen) (f' ++ (lnk v ++ R)) np1 nb1 gs1 mk' → J X 4 [MF m r th (nI bs.length) os (nI (us ++ new.map stp).length) (nI (f' ++ (lnk v ++ R)).length) (nI nb1) pkd pkg cm fu (nI (pil (sA)).length) fc fp (nI e) (nI (gs1).length) (got') (lN (np1)), BA X.1 (r 1) bs, TB X.1 r (us ++ new.map stp) (zs ++ new.map vlen) (f' ++ (lnk v ++ R)) nb1 (mk'), GS X.1 r (gs1), PL X.1 r (pil (sA)), F] 0 0 92 [some (.ref m), some (.int 1), some (.int bf'), some (.int pa')] []) → (∀ x, rdV bs f i us.length np nb gs = .inl x → RES = .inl x) → J X 4 [MF m r th (nI bs.length) os (nI (us).length) (nI (R).length) (nI nb) pkd pkg cm fu (nI (pil (sB)).length) fc fp (nI i) (nI (gs).length) got (lN (np)), BA X.1 (r 1) bs, TB X.1 r (us) (zs) (R) nb (mk), GS X.1 r (gs), PL X.1 r (pil (sB)), F] 0 0 26 [some (.ref m), some (.int 1), l2, l3] [] := by
    intro f
    induction f with
    | zero => exact vs 0 (fun f1 e => (by cases e))
    | succ f ihf => exact vs (f + 1) (fun f1 e => by
        cases e
        exact pk f ihf)
  refine j_open (by repeat (first | with_reducible exact pick_0 | with_reducible apply pick_s)) gs_open ?_
  rintro fg ⟨hfg, hfg2⟩
  dsimp only [List.cons_append, List.nil_append]
  refine j_close (by repeat (first | with_reducible exact pick_0 | with_reducible apply pick_s | exact sel_0 | apply sel_s)) (gs_of [] ⟨fun j hj => absurd hj (Nat.not_lt_zero _), Nat.zero_le _⟩) ?_
  refine j_close (by repeat (first | with_reducible exact pick_0 | with_reducible apply pick_s | exact sel_0 | apply sel_s)) (P := PL X.1 r (pil [])) (qs := [PL X.1 r s0]) pl_weak ?_
  have hinv : INV us0 zs0 R0 pg bs 0 [] us0 zs0 R0 R0.length nb0 [] mk0 := ⟨⟨[], [], [], (List.append_nil _).symm, (List.append_nil _).symm, rfl, fun x hx => absurd hx List.not_mem_nil⟩, hmk, rfl, ⟨hk9.2.2.1, hk9.2.2.2.1, hk9.2.2.2.2, Nat.zero_le _, fun j hj => absurd hj List.not_mem_nil⟩, fun x hx => absurd hx List.not_mem_nil, Nat.zero_le _⟩
  refine j_aload_n E 1 dX8_readAll_0 0 rfl rfl rfl ?_
  refine j_iconst E (0) 2 dX8_readAll_1 (by decide) rfl ?_
  refine j_putf E 5 dX8_readAll_2 fl_X8_186 (by repeat (first | with_reducible exact pick_0 | with_reducible apply pick_s)) rfl rfl (Nat.le_of_ble_eq_true rfl) rfl ?_
  dsimp only [List.set]
  refine j_aload_n E 6 dX8_readAll_5 0 rfl rfl rfl ?_
  refine j_iconst E (0) 7 dX8_readAll_6 (by decide) rfl ?_
  refine j_putf E 10 dX8_readAll_7 fl_X8_144 (by repeat (first | with_reducible exact pick_0 | with_reducible apply pick_s)) rfl rfl (Nat.le_of_ble_eq_true rfl) rfl ?_
  dsimp only [List.set]
  refine j_aload_n E 11 dX8_readAll_10 0 rfl rfl rfl ?_
  refine j_iconst E (0) 12 dX8_readAll_11 (by decide) rfl ?_
  refine j_putf E 15 dX8_readAll_12 fl_X8_183 (by repeat (first | with_reducible exact pick_0 | with_reducible apply pick_s)) rfl rfl (Nat.le_of_ble_eq_true rfl) rfl ?_
  dsimp only [List.set]
  refine j_aload_n E 16 dX8_readAll_15 0 rfl rfl rfl ?_
  refine j_aload_n E 17 dX8_readAll_16 0 rfl rfl rfl ?_
  refine j_getf E 20 dX8_readAll_17 fl_X8_117 (by repeat (first | with_reducible exact pick_0 | with_reducible apply pick_s)) (by rfl) rfl ?_
  refine j_i2l E 21 dX8_readAll_20 rfl ?_
  refine j_eql (nI_l (by omega)) ?_
  refine j_putf E 24 dX8_readAll_21 fl_X8_189 (by repeat (first | with_reducible exact pick_0 | with_reducible apply pick_s)) rfl rfl (Nat.le_of_ble_eq_true rfl) rfl ?_
  dsimp only [List.set]
  refine j_iconst E (1) 25 dX8_readAll_24 (by decide) rfl ?_
  refine j_istore_n E 26 dX8_readAll_25 1 rfl (Nat.le_of_ble_eq_true rfl) rfl rfl ?_
  dsimp only [List.set]
  have hA := all 24 [] [] (fun _ => []) 0 us0 zs0 R0 R0.length nb0 [] mk0 got none none (nI 0) (-1) (Or.inl ⟨rfl, rfl, fun _ => rfl, rfl, rfl⟩) rfl hinv (fun v e new np1 nb1 gs1 f' mk' got' bf' pa' hr hf' hj hinv1 => ?_) (fun x hx => by rw [hRES, rdAll, hx])
  · have hA2 : J X 4 [MF m r th (nI bs.length) os (nI us0.length) (nI R0.length) (nI nb0) pkd pkg cm fu 0 fc fp 0 0 got (lN R0.length), BA X.1 (r 1) bs, TB X.1 r us0 zs0 R0 nb0 mk0, GS X.1 r [], PL X.1 r (pil []), F] 0 0 26 [some (.ref m), some (.int 1), none, none] [] := hA
    exact j_sel (by repeat (first | with_reducible exact pick_0 | with_reducible apply pick_s | exact sel_0 | apply sel_s)) hA2
  · have he := hinv1.2.2.2.2.2
    have hv := rdV_root hr
    have hmk1 := hinv1.2.1
    have hsum := hinv1.2.2.1
    have hO1 := hinv1.2.2.2.1
    dsimp only [List.nil_append] at hsum ⊢
    have hlu : (us0 ++ new.map stp).length = us0.length + new.length := by rw [List.length_append, List.length_map]
    rw [hlu] at hO1 ⊢
    have hsum2 : (f' ++ R0).length = np1 := hsum
    rw [hsum2]
    refine j_aload_n E 93 dX8_readAll_92 0 rfl rfl rfl ?_
    refine j_getf E 96 dX8_readAll_93 fl_X8_186 (by repeat (first | with_reducible exact pick_0 | with_reducible apply pick_s)) (by rfl) rfl ?_
    refine j_if_le E 128 99 dX8_readAll_96 (by decide) rfl (fun h96 => ?_) (fun h96 => ?_)
    · refine j_aload_n E 129 dX8_readAll_128 0 rfl rfl rfl ?_
      refine j_getf E 132 dX8_readAll_129 fl_X8_186 (by repeat (first | with_reducible exact pick_0 | with_reducible apply pick_s)) (by rfl) rfl ?_
      refine j_if_le E 139 135 dX8_readAll_132 (by decide) rfl (fun h132 => ?_) (fun h132 => ?_)
      · refine j_iconst E (0) 140 dX8_readAll_139 (by decide) rfl ?_
        refine j_istore_n E 141 dX8_readAll_140 1 rfl (Nat.le_of_ble_eq_true rfl) rfl rfl ?_
        dsimp only [List.set]
        refine j_goto E 26 dX8_readAll_141 (by decide) ?_
        refine j_iload_n E 27 dX8_readAll_26 1 rfl rfl rfl ?_
        refine j_if_eq E 144 30 dX8_readAll_27 (by decide) rfl (fun h27 => ?_) (fun h27 => ?_)
        · refine j_aload_n E 145 dX8_readAll_144 0 rfl rfl rfl ?_
          refine j_getf E 148 dX8_readAll_145 fl_X8_144 (by repeat (first | with_reducible exact pick_0 | with_reducible apply pick_s)) (by rfl) rfl ?_
          refine j_aload_n E 149 dX8_readAll_148 0 rfl rfl rfl ?_
          refine j_getf E 152 dX8_readAll_149 fl_X8_88 (by repeat (first | with_reducible exact pick_0 | with_reducible apply pick_s)) (by rfl) rfl ?_
          refine j_icmp_eq E 168 155 dX8_readAll_152 (by decide) rfl (fun h152 => ?_) (fun h152 => ?_)
          · have q : e = bs.length := (nI_eq (by omega) (by omega)).mp h152
            have hR2 : RES = .inr (v, new, np1, nb1) := by rw [hRES, rdAll, hr]; exact if_neg (by omega)
            rw [hR2] at B
            dsimp only at B
            refine j_iconst E (1) 169 dX8_readAll_168 (by decide) rfl ?_
            refine j_goto E 173 dX8_readAll_169 (by decide) ?_
            exact j_zret E B rfl (by first | exact Or.inl rfl | exact Or.inr rfl) 0 0 dX8_readAll_173 (by repeat (first | with_reducible exact pick_0 | with_reducible apply pick_s | exact sel_0 | apply sel_s)) ⟨rfl, rfl, rfl, _, _, _, _, _, f', mk', _, _, fun y hy => (hf' y hy).1, hmk1, hj, hsum2, hv, rfl⟩ (by omega) (by omega) (by omega) (by omega)
          · have q : ¬ e = bs.length := fun q => h152 (by rw [q])
            have hR2 : RES = .inl (8, e) := by rw [hRES, rdAll, hr]; exact if_pos (by omega)
            rw [hR2] at B
            dsimp only at B
            refine j_aload_n E 156 dX8_readAll_155 0 rfl rfl rfl ?_
            refine j_bipush E (8) 158 dX8_readAll_156 (by decide) rfl ?_
            refine j_aload_n E 159 dX8_readAll_158 0 rfl rfl rfl ?_
            refine j_getf E 162 dX8_readAll_159 fl_X8_144 (by repeat (first | with_reducible exact pick_0 | with_reducible apply pick_s)) (by rfl) rfl ?_
            refine j_callV E (c_m_fail hG (d-1) m r (nI 8) (nI e)) 165 dX8_readAll_162 _ _ _ iv_X8_147 rfl rfl rfl (by repeat (first | with_reducible exact pick_0 | with_reducible apply pick_s | exact sel_0 | apply sel_s)) (by omega) (by omega) (by omega) (Nat.le_of_ble_eq_true rfl) rfl ?_
            rintro _ _ _ _ ⟨rfl, rfl, rfl, rfl⟩
            dsimp only [List.cons_append, List.nil_append, Option.toList]
            refine j_if_eq E 172 168 dX8_readAll_165 (by decide) rfl (fun h165 => ?_) (fun h165 => ?_)
            · refine j_iconst E (0) 173 dX8_readAll_172 (by decide) rfl ?_
              exact j_zret E B rfl (by first | exact Or.inl rfl | exact Or.inr rfl) 0 0 dX8_readAll_173 (by repeat (first | with_reducible exact pick_0 | with_reducible apply pick_s | exact sel_0 | apply sel_s)) ⟨rfl, rfl, rfl, _, _, _, _, _, _, _, _, new.map stp, new.map vlen, f', _, mk', _, _, fun y hy => (hf' y hy).1, hmk1, rfl⟩ (by omega) (by omega) (by omega) (by omega)
            · exact absurd rfl h165
        · exact absurd rfl h27
      · exact absurd (show (0 : Int32) ≤ 0 by decide) h132
    · exact absurd (show (0 : Int32) ≤ 0 by decide) h96

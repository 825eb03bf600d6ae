/-! Packer: a value and all within it -/
/-- what holds of every value: n values there, np parts at most -/
def VTok (n np : Nat) (v : VT) : Prop := v.1 ≤ 10 ∧ v.2.2.2.1.length ≤ 65536 ∧ v.2.2.2.2.length ≤ np ∧ (∀ p ∈ v.2.2.2.2, p < n) ∧ (¬ (v.1 = 5 ∨ v.1 = 6 ∨ v.1 = 9) → v.2.2.2.1 = []) ∧ (¬ (v.1 = 7 ∨ v.1 = 8) → v.2.2.2.2 = []) ∧ (v.1 = 8 → v.2.2.2.2.length % 2 = 0) ∧ (v.1 = 10 → ∃ m, m ≤ 999999999 ∧ v.2.2.1 = nI m) ∧ (¬ (v.1 = 1 ∨ v.1 = 2 ∨ v.1 = 9 ∨ v.1 = 10) → v.2.2.1 = 0) ∧ (v.1 = 2 → v.2.2.1 = 0 ∨ v.2.2.1 = 1)
def VSOK (vs : List VE) : Prop := vs.length ≤ 3000 ∧ ∀ e ∈ vs, VTok vs.length 6000 e.2.1 ∧ e.2.2 = -1
theorem vAt_big {us : List VT} {i : Nat} (h : us.length ≤ i) : vAt us i = (0, 0, 0, [], []) := by
  rw [vAt, List.getD_eq_getElem?_getD, List.getElem?_eq_none h]
  rfl
theorem VSOK.parts {vs : List VE} (h : VSOK vs) : ∀ i, ∀ p ∈ (vAt (vts vs) i).2.2.2.2, p < vs.length := by
  intro i p hp
  rcases hv : vs[i]? with _ | e
  · rw [vAt_big (by rw [vts, List.length_map]; exact List.getElem?_eq_none_iff.mp hv)] at hp
    exact absurd hp List.not_mem_nil
  · rw [vAt_of hv] at hp
    exact (h.2 e (List.mem_of_getElem? hv)).1.2.2.2.1 p hp
theorem gad_snoc {vs : List VE} {gs : List Nat} {j : Nat} {e : VE} (h : vs[j]? = some e) : gad vs gs ++ [e.1] = gad vs (gs ++ [j]) := by
  rw [gad, gad, List.map_append]
  congr 1
  show [e.1] = [(adr vs).getD j 0]
  rw [adr_at h]
theorem vlen_le {v : VT} (h : v.1 = 7 ∨ v.1 = 8) : vlen v ≤ v.2.2.2.2.length := by
  unfold vlen
  split
  · exact Nat.div_le_self _ _
  · rw [if_pos (by omega)]
    exact Nat.le_refl _
/-- what the packing of a value leaves behind -/
def PKQ (g : GT) (z : Nat → Nat) (pk pr cm vl most cap capC capV np nb M N : Nat) (vs : List VE) (s : PS) : PoT := fun o dc ds ws' => ∃ xcap xcC, o = none ∧ ws' = [PKO g pk pr cm most s.1 xcap, LST g z cm (gad vs s.2) xcC, VLS g z vl (tvs vs (tn s.2)) np nb capV] ∧ 320 * dc + 5 * cap + 64 * capC ≤ 5 * xcap + 64 * xcC ∧ ds + 2 * cap + 4 * capC ≤ 2 * xcap + 4 * xcC ∧ dc ≤ M ∧ ds ≤ N
set_option maxHeartbeats 8000000 in
theorem c_pk_begin {g : GT} {z : Nat → Nat} (hA : GA g z) (d M N pk pr cm vl most cap capC capV np nb j op a : Nat) (v : VT) (t : Int32) (vs : List VE) (st : Option (List UInt8)) (come : List Nat) (hd : 11 ≤ d) (hv : VSOK vs) (hj : vs[j]? = some (a, v, t)) (hk : v.1 = 7 ∨ v.1 = 8) (hc : COk vs.length come) (hjc : ¬ j ∈ come) (hop : op ≤ 24) (hm : most ≤ 65536) (hM : 1935680 ≤ 320 * M + 5 * cap + 64 * capC) (hN : 500000 ≤ N + 2 * cap + 4 * capC) : CtrV g mX3_beginGroup 2 d M N pk [.ref a, .int (nI op)] [PKO g pk pr cm most st cap, LST g z cm (gad vs come) capC, VLS g z vl (tvs vs (tn come)) np nb capV] (PKQ g z pk pr cm vl most cap capC capV np nb M N vs (if 24 ≤ op then (none, come) else (wr most st (grpE v), come ++ [j]))) noX := by
  refine ⟨pko_rcv, ?_⟩
  have hG := hA.1
  refine ctr_intro hG (by decide +kernel) (Nat.le_of_ble_eq_true rfl) ?_
  rintro X F rfl E B hI T
  replace E : JE X RX3 cX3_beginGroup 4 d M N := E
  show J X _ [PKO X.1 pk pr cm most st cap, LST X.1 z cm (gad vs come) capC, VLS X.1 z vl (tvs vs (tn come)) np nb capV, F] 0 0 0 [some (.ref pk), some (.ref a), some (.int (nI op)), none] []
  refine j_know (pick_know (P := PKO X.1 pk pr cm most st cap) (by repeat (first | with_reducible exact pick_0 | with_reducible apply pick_s)) pko_know) (fun hcap => ?_)
  refine j_know (pick_know (P := LST X.1 z cm (gad vs come) capC) (by repeat (first | with_reducible exact pick_0 | with_reducible apply pick_s)) lst_know) (fun hcC => ?_)
  have hvt : VTok vs.length 6000 v := (hv.2 _ (List.mem_of_getElem? hj)).1
  have hjl : j < vs.length := (List.getElem?_eq_some_iff.mp hj).1
  have hv3 := hv.1
  refine j_iload_n E 1 dX3_beginGroup_0 2 rfl rfl rfl ?_
  refine j_bipush E (24) 3 dX3_beginGroup_1 (by decide) rfl ?_
  refine j_icmp_lt E 12 6 dX3_beginGroup_3 (by decide) rfl (fun h3 => ?_) (fun h3 => ?_)
  · have q3 : op < 24 := (nI_ltI (a := op) (b := 24) (by omega) (by omega)).mp h3
    rw [if_neg (by omega)] at B
    refine j_open (P := VLS X.1 z vl (tvs vs (tn come)) np nb capV) (by repeat (first | with_reducible exact pick_0 | with_reducible apply pick_s)) vls_open ?_
    rintro al -
    dsimp only [VLSo, List.cons_append, List.nil_append]
    refine j_open (P := VSL X.1 z 0 (tvs vs (tn come))) (by repeat (first | with_reducible exact pick_0 | with_reducible apply pick_s)) (vsl_open (tvs_at hj)) ?_
    rintro _ -
    dsimp only [List.cons_append, List.nil_append]
    refine j_open (by repeat (first | with_reducible exact pick_0 | with_reducible apply pick_s)) valc_open ?_
    rintro ⟨bq, pq, xf⟩ hx
    dsimp only [VALo, List.cons_append, List.nil_append] at hx ⊢
    refine j_open (by repeat (first | with_reducible exact pick_0 | with_reducible apply pick_s)) pko_open ?_
    rintro bs hbs
    dsimp only [List.cons_append, List.nil_append]
    refine j_aload_n E 13 dX3_beginGroup_12 1 rfl rfl rfl ?_
    refine j_aload_n E 14 dX3_beginGroup_13 0 rfl rfl rfl ?_
    refine j_getf E 17 dX3_beginGroup_14 fl_X3_21 (by repeat (first | with_reducible exact pick_0 | with_reducible apply pick_s)) (by rfl) rfl ?_
    refine j_callV E (c_lst_size hG z (d-1) cm capC (gad vs come)) 20 dX3_beginGroup_17 _ _ _ iv_X3_47 rfl rfl rfl (by repeat (first | with_reducible exact pick_0 | with_reducible apply pick_s | exact sel_0 | apply sel_s)) (by omega) (by omega) (by omega) (Nat.le_of_ble_eq_true rfl) rfl ?_
    rintro _ _ _ _ ⟨rfl, rfl, rfl, rfl⟩
    dsimp only [List.cons_append, List.nil_append, Option.toList]
    rw [gad_len]
    refine j_putfN E 23 dX3_beginGroup_20 fl_X3_57 (by repeat (first | with_reducible exact pick_0 | with_reducible apply pick_s)) rfl rfl (Nat.le_of_ble_eq_true rfl) rfl ?_
    dsimp only [List.set]
    refine valc_close v _ (by repeat (first | with_reducible exact pick_0 | with_reducible apply pick_s | exact sel_0 | apply sel_s)) rfl hx ?_
    refine j_close (by repeat (first | with_reducible exact pick_0 | with_reducible apply pick_s | exact sel_0 | apply sel_s)) (vsl_set (L := tvs vs (tn come)) (a, v, nI come.length) (by rw [tvs_len]; exact hjl)) ?_
    rw [tvs_set hj, ← tn_push hjc]
    refine j_aload_n E 24 dX3_beginGroup_23 0 rfl rfl rfl ?_
    refine j_getf E 27 dX3_beginGroup_24 fl_X3_21 (by repeat (first | with_reducible exact pick_0 | with_reducible apply pick_s)) (by rfl) rfl ?_
    refine j_aload_n E 28 dX3_beginGroup_27 1 rfl rfl rfl ?_
    refine pko_close st bs (by repeat (first | with_reducible exact pick_0 | with_reducible apply pick_s | exact sel_0 | apply sel_s)) (by rfl) hbs ?_
    have hco := hc.push hjl hjc
    refine j_callV E (c_lst_add hA (d-1) (by omega) cm a capC (gad vs come) (VSL X.1 z 0 (tvs vs (tn (come ++ [j])))) (fun x hx => vsl_has x (by have h7 := gad_mem hc.2 x hx; rw [← adr_tvs vs (tn (come ++ [j]))] at h7; exact h7)) (vsl_has a (List.mem_map.mpr ⟨_, List.mem_of_getElem? (tvs_at hj), rfl⟩)) (by rw [gad_len]; have := hc.len; omega)) 31 dX3_beginGroup_28 _ _ _ iv_X3_112 rfl rfl rfl (by repeat (first | with_reducible exact pick_0 | with_reducible apply pick_s | exact sel_0 | apply sel_s)) (by omega) (by omega) (by omega) (Nat.le_of_ble_eq_true rfl) rfl ?_
    rintro _ bdc bds _ ⟨cC1, rfl, rfl, f1, f2, f3, f4⟩
    dsimp only [List.cons_append, List.nil_append, Option.toList]
    rw [gad_snoc (e := (a, v, t)) hj]
    refine j_know (pick_know (P := LST X.1 z cm (gad vs (come ++ [j])) cC1) (by repeat (first | with_reducible exact pick_0 | with_reducible apply pick_s)) lst_know) (fun hcC1 => ?_)
    refine j_open (P := VSL X.1 z 0 (tvs vs (tn (come ++ [j])))) (by repeat (first | with_reducible exact pick_0 | with_reducible apply pick_s)) (vsl_open (tvs_at hj)) ?_
    rintro _ -
    dsimp only [List.cons_append, List.nil_append]
    refine j_pop E 32 dX3_beginGroup_31 rfl rfl ?_
    refine j_aload_n E 33 dX3_beginGroup_32 1 rfl rfl rfl ?_
    refine j_callV E (c_val_length hA (d-1) a j (pcap v.2.2.2.2.length) (by omega) v (tn (come ++ [j]) j) (by omega) (by have := hvt.2.2.1; omega)) 36 dX3_beginGroup_33 _ _ _ iv_X3_116 rfl rfl rfl (by repeat (first | with_reducible exact pick_0 | with_reducible apply pick_s | exact sel_0 | apply sel_s)) (by omega) (by omega) (by omega) (Nat.le_of_ble_eq_true rfl) rfl ?_
    rintro _ _ _ _ ⟨rfl, rfl, rfl, rfl⟩
    dsimp only [List.cons_append, List.nil_append, Option.toList]
    refine j_istore_n E 37 dX3_beginGroup_36 3 rfl (Nat.le_of_ble_eq_true rfl) rfl rfl ?_
    dsimp only [List.set]
    have hvl := vlen_le hk
    have hvn := hvt.2.2.1
    have hgE : grpE v = if vlen v < 16 then b1 ((if v.1 = 7 then 144 else 128) + vlen v) else b1 (if v.1 = 7 then 220 else 222) ++ beB (lN (vlen v)) 2 := rfl
    obtain ⟨n, hn⟩ : ∃ n, n = vlen v := ⟨_, rfl⟩
    rw [← hn] at hvl hgE ⊢
    refine j_open (by repeat (first | with_reducible exact pick_0 | with_reducible apply pick_s)) valc_open ?_
    rintro ⟨bq2, pq2, xf2⟩ hx2
    dsimp only [VALo, List.cons_append, List.nil_append] at hx2 ⊢
    have t62 : ∀ L : Nat, L ≤ 144 → L = (if v.1 = 7 then 144 else 128) → n < 16 → J X 4 [PKO X.1 pk pr cm most st cap, LST X.1 z cm (gad vs (come ++ [j])) cC1, VLS X.1 z vl (tvs vs (tn (come ++ [j]))) np nb capV, F] bdc bds 62 [some (.ref pk), some (.ref a), some (.int (nI op)), some (.int (nI n))] [.int (nI L), .ref pk] := by
      intro L hL9 hL hq
      rw [← hL, if_pos hq] at hgE
      rw [hgE] at B
      refine j_iload_n E 63 dX3_beginGroup_62 3 rfl rfl rfl ?_
      refine j_iadd E 64 dX3_beginGroup_63 rfl ?_
      refine j_eqi (nI_add L n) ?_
      refine j_i2l E 65 dX3_beginGroup_64 rfl ?_
      rw [nI_l (by omega)]
      refine j_iconst E (1) 66 dX3_beginGroup_65 (by decide) rfl ?_
      refine j_callV E (c_pk_bytes hG (d-1) (M - bdc) (N - bds) pk pr cm most cap 1 st (lN (L + n)) (by omega) (by omega) hm (by omega) (by omega)) 69 dX3_beginGroup_66 _ _ _ iv_X3_71 rfl rfl rfl (by repeat (first | with_reducible exact pick_0 | with_reducible apply pick_s | exact sel_0 | apply sel_s)) (by omega) (by omega) (by omega) (Nat.le_of_ble_eq_true rfl) rfl ?_
      rintro _ xadc xads _ ⟨xacap, rfl, rfl, xa1, xa2, xa3, xa4⟩
      dsimp only [List.cons_append, List.nil_append, Option.toList]
      refine j_goto E 102 dX3_beginGroup_69 (by decide) ?_
      exact j_vret E B rfl (bdc + xadc) (bds + xads) dX3_beginGroup_102 (by repeat (first | with_reducible exact pick_0 | with_reducible apply pick_s | exact sel_0 | apply sel_s)) ⟨xacap, cC1, rfl, rfl, by omega, by omega, by omega, by omega⟩ (by omega) (by omega) (by omega) (by omega)
    have t91 : ∀ L : Nat, L ≤ 222 → L = (if v.1 = 7 then 220 else 222) → ¬ n < 16 → J X 4 [PKO X.1 pk pr cm most st cap, LST X.1 z cm (gad vs (come ++ [j])) cC1, VLS X.1 z vl (tvs vs (tn (come ++ [j]))) np nb capV, F] bdc bds 91 [some (.ref pk), some (.ref a), some (.int (nI op)), some (.int (nI n))] [.long (lN L), .ref pk] := by
      intro L hL9 hL hq
      rw [← hL, if_neg hq] at hgE
      rw [hgE] at B
      refine j_iconst E (1) 92 dX3_beginGroup_91 (by decide) rfl ?_
      refine j_callV E (c_pk_bytes hG (d-1) (M - bdc) (N - bds) pk pr cm most cap 1 st (lN L) (by omega) (by omega) hm (by omega) (by omega)) 95 dX3_beginGroup_92 _ _ _ iv_X3_71 rfl rfl rfl (by repeat (first | with_reducible exact pick_0 | with_reducible apply pick_s | exact sel_0 | apply sel_s)) (by omega) (by omega) (by omega) (Nat.le_of_ble_eq_true rfl) rfl ?_
      rintro _ xadc xads _ ⟨xacap, rfl, rfl, xa1, xa2, xa3, xa4⟩
      dsimp only [List.cons_append, List.nil_append, Option.toList]
      refine j_aload_n E 96 dX3_beginGroup_95 0 rfl rfl rfl ?_
      refine j_iload_n E 97 dX3_beginGroup_96 3 rfl rfl rfl ?_
      refine j_i2l E 98 dX3_beginGroup_97 rfl ?_
      rw [nI_l (by omega)]
      refine j_iconst E (2) 99 dX3_beginGroup_98 (by decide) rfl ?_
      refine j_callV E (c_pk_bytes hG (d-1) (M - bdc - xadc) (N - bds - xads) pk pr cm most xacap 2 _ (lN n) (by omega) (by omega) hm (by omega) (by omega)) 102 dX3_beginGroup_99 _ _ _ iv_X3_71 rfl rfl rfl (by repeat (first | with_reducible exact pick_0 | with_reducible apply pick_s | exact sel_0 | apply sel_s)) (by omega) (by omega) (by omega) (Nat.le_of_ble_eq_true rfl) rfl ?_
      rintro _ xbdc xbds _ ⟨xbcap, rfl, rfl, xb1, xb2, xb3, xb4⟩
      dsimp only [List.cons_append, List.nil_append, Option.toList]
      rw [wr_app]
      exact j_vret E B rfl (bdc + xadc + xbdc) (bds + xads + xbds) dX3_beginGroup_102 (by repeat (first | with_reducible exact pick_0 | with_reducible apply pick_s | exact sel_0 | apply sel_s)) ⟨xbcap, cC1, rfl, rfl, by omega, by omega, by omega, by omega⟩ (by omega) (by omega) (by omega) (by omega)
    have e00 : 0 + 0 + bdc + 0 = bdc := by omega
    have e01 : 0 + 0 + bds + 0 = bds := by omega
    rw [e00, e01]
    refine j_iload_n E 38 dX3_beginGroup_37 3 rfl rfl rfl ?_
    refine j_bipush E (16) 40 dX3_beginGroup_38 (by decide) rfl ?_
    refine j_icmp_ge E 72 43 dX3_beginGroup_40 (by decide) rfl (fun h40 => ?_) (fun h40 => ?_)
    · have qn : ¬ n < 16 := fun q => absurd (show nI 16 ≤ nI n from h40) (nI_ge q (by decide))
      refine j_aload_n E 73 dX3_beginGroup_72 0 rfl rfl rfl ?_
      refine j_aload_n E 74 dX3_beginGroup_73 1 rfl rfl rfl ?_
      refine j_getfF E 77 dX3_beginGroup_74 fl_X3_66 (by repeat (first | with_reducible exact pick_0 | with_reducible apply pick_s)) (by rfl) rfl ?_
      refine j_bipush E (7) 79 dX3_beginGroup_77 (by decide) rfl ?_
      refine j_icmp_ne E 88 82 dX3_beginGroup_79 (by decide) rfl (fun h79 => ?_) (fun h79 => ?_)
      · have q7 : ¬ v.1 = 7 := fun q => h79 (congrArg nI q)
        refine valc_close v _ (by repeat (first | with_reducible exact pick_0 | with_reducible apply pick_s | exact sel_0 | apply sel_s)) rfl hx2 ?_
        refine j_close (by repeat (first | with_reducible exact pick_0 | with_reducible apply pick_s | exact sel_0 | apply sel_s)) (vsl_back (L := tvs vs (tn (come ++ [j]))) (tvs_at hj)) ?_
        refine j_close (by repeat (first | with_reducible exact pick_0 | with_reducible apply pick_s | exact sel_0 | apply sel_s)) (vls_of' (by rw [adr_tvs, adr_tvs])) ?_
        refine j_ldcL E _ 91 dX3_beginGroup_88 kc_X3_121 rfl ?_
        exact j_sel (by repeat (first | with_reducible exact pick_0 | with_reducible apply pick_s | exact sel_0 | apply sel_s)) (t91 222 (by decide) (by rw [if_neg q7]) qn)
      · have q7 : v.1 = 7 := (nI_eq (by omega) (by decide)).mp h79
        refine valc_close v _ (by repeat (first | with_reducible exact pick_0 | with_reducible apply pick_s | exact sel_0 | apply sel_s)) rfl hx2 ?_
        refine j_close (by repeat (first | with_reducible exact pick_0 | with_reducible apply pick_s | exact sel_0 | apply sel_s)) (vsl_back (L := tvs vs (tn (come ++ [j]))) (tvs_at hj)) ?_
        refine j_close (by repeat (first | with_reducible exact pick_0 | with_reducible apply pick_s | exact sel_0 | apply sel_s)) (vls_of' (by rw [adr_tvs, adr_tvs])) ?_
        refine j_ldcL E _ 85 dX3_beginGroup_82 kc_X3_119 rfl ?_
        refine j_goto E 91 dX3_beginGroup_85 (by decide) ?_
        exact j_sel (by repeat (first | with_reducible exact pick_0 | with_reducible apply pick_s | exact sel_0 | apply sel_s)) (t91 220 (by decide) (by rw [if_pos q7]) qn)
    · have qn : n < 16 := Nat.lt_of_not_le fun q => h40 (nI_le (a := 16) q (by omega))
      refine j_aload_n E 44 dX3_beginGroup_43 0 rfl rfl rfl ?_
      refine j_aload_n E 45 dX3_beginGroup_44 1 rfl rfl rfl ?_
      refine j_getfF E 48 dX3_beginGroup_45 fl_X3_66 (by repeat (first | with_reducible exact pick_0 | with_reducible apply pick_s)) (by rfl) rfl ?_
      refine j_bipush E (7) 50 dX3_beginGroup_48 (by decide) rfl ?_
      refine j_icmp_ne E 59 53 dX3_beginGroup_50 (by decide) rfl (fun h50 => ?_) (fun h50 => ?_)
      · have q7 : ¬ v.1 = 7 := fun q => h50 (congrArg nI q)
        refine valc_close v _ (by repeat (first | with_reducible exact pick_0 | with_reducible apply pick_s | exact sel_0 | apply sel_s)) rfl hx2 ?_
        refine j_close (by repeat (first | with_reducible exact pick_0 | with_reducible apply pick_s | exact sel_0 | apply sel_s)) (vsl_back (L := tvs vs (tn (come ++ [j]))) (tvs_at hj)) ?_
        refine j_close (by repeat (first | with_reducible exact pick_0 | with_reducible apply pick_s | exact sel_0 | apply sel_s)) (vls_of' (by rw [adr_tvs, adr_tvs])) ?_
        refine j_sipush E (128) 62 dX3_beginGroup_59 (by decide) rfl ?_
        exact j_sel (by repeat (first | with_reducible exact pick_0 | with_reducible apply pick_s | exact sel_0 | apply sel_s)) (t62 128 (by decide) (by rw [if_neg q7]) qn)
      · have q7 : v.1 = 7 := (nI_eq (by omega) (by decide)).mp h50
        refine valc_close v _ (by repeat (first | with_reducible exact pick_0 | with_reducible apply pick_s | exact sel_0 | apply sel_s)) rfl hx2 ?_
        refine j_close (by repeat (first | with_reducible exact pick_0 | with_reducible apply pick_s | exact sel_0 | apply sel_s)) (vsl_back (L := tvs vs (tn (come ++ [j]))) (tvs_at hj)) ?_
        refine j_close (by repeat (first | with_reducible exact pick_0 | with_reducible apply pick_s | exact sel_0 | apply sel_s)) (vls_of' (by rw [adr_tvs, adr_tvs])) ?_
        refine j_sipush E (144) 56 dX3_beginGroup_53 (by decide) rfl ?_
        refine j_goto E 62 dX3_beginGroup_56 (by decide) ?_
        exact j_sel (by repeat (first | with_reducible exact pick_0 | with_reducible apply pick_s | exact sel_0 | apply sel_s)) (t62 144 (by decide) (by rw [if_pos q7]) qn)
  · have q3 : ¬ op < 24 := mt (nI_ltI (a := op) (b := 24) (by omega) (by omega)).mpr h3
    rw [if_pos (by omega)] at B
    refine j_open (by repeat (first | with_reducible exact pick_0 | with_reducible apply pick_s)) pko_open ?_
    rintro bs hbs
    dsimp only [List.cons_append, List.nil_append]
    refine j_aload_n E 7 dX3_beginGroup_6 0 rfl rfl rfl ?_
    refine j_iconst E (1) 8 dX3_beginGroup_7 (by decide) rfl ?_
    refine j_putf E 11 dX3_beginGroup_8 fl_X3_33 (by repeat (first | with_reducible exact pick_0 | with_reducible apply pick_s)) (by decide) (by decide) (Nat.le_of_ble_eq_true rfl) rfl ?_
    dsimp only [List.set]
    refine pko_close none bs (by repeat (first | with_reducible exact pick_0 | with_reducible apply pick_s | exact sel_0 | apply sel_s)) (by rfl) (stB_le hbs) ?_
    exact j_vret E B rfl 0 0 dX3_beginGroup_11 (by repeat (first | with_reducible exact pick_0 | with_reducible apply pick_s | exact sel_0 | apply sel_s)) ⟨cap, capC, rfl, rfl, by omega, by omega, by omega, by omega⟩ (by omega) (by omega) (by omega) (by omega)

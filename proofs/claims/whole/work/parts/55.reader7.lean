/-! Reader: readGroup, with values within -/
theorem adr_app_at {vs ms : List VE} {j : Nat} (h : j < vs.length) : (adr (vs ++ ms)).getD j 0 = (adr vs).getD j 0 := by
  rw [adr, List.map_append, List.getD_eq_getElem?_getD, List.getD_eq_getElem?_getD, List.getElem?_append_left (by rw [List.length_map]; exact h)]
  rfl
theorem gad_push {vs : List VE} {gs : List Nat} {e : VE} (h : ∀ j ∈ gs, j < vs.length) : gad vs gs ++ [e.1] = gad (vs ++ [e]) (gs ++ [vs.length]) := by
  rw [gad, gad, List.map_append]
  congr 1
  · exact (gad_app (ms := [e]) h).symm
  · show [e.1] = [(adr (vs ++ [e])).getD vs.length 0]
    rw [adr_at (e := e) (by simp)]
theorem gad_mem {vs : List VE} {gs : List Nat} (h : ∀ j ∈ gs, j < vs.length) : ∀ x ∈ gad vs gs, x ∈ adr vs := by
  intro x hx
  obtain ⟨j, hj, e⟩ := List.mem_map.mp hx
  have h1 := h j hj
  rw [← e, List.getD_eq_getElem?_getD, List.getElem?_eq_getElem (by rw [adr_len]; exact h1)]
  exact List.getElem_mem _
theorem vls_of' {g : GT} {z : Nat → Nat} {s np nb cap al : Nat} {vs : List VE} {as : List Nat} (h : as = adr vs) : ∀ w, sepL [pt s (.inr (5, [.ref al, .int (nI np), .int (nI nb)])), LST g z al as cap, VSL g z 0 vs] w → VLS g z s vs np nb cap w := by
  subst h
  exact vls_of
theorem ents_app {ads0 ads2 : List Nat} {new0 new2 : List VT} (h : ads0.length = new0.length) : ents (ads0 ++ ads2) (new0 ++ new2) = ents ads0 new0 ++ ents ads2 new2 := List.zipWith_append h
theorem ents_len {ads : List Nat} {new : List VT} (h : ads.length = new.length) : (ents ads new).length = new.length := by rw [ents, List.length_zipWith, h, Nat.min_self]
theorem adr_set {L : List VE} {n : Nat} {e e0 : VE} (h : L[n]? = some e0) (h1 : e.1 = e0.1) : adr (L.set n e) = adr L := by
  obtain ⟨hn, he⟩ := List.getElem?_eq_some_iff.mp h
  refine List.ext_getElem? fun j => ?_
  rw [adr, adr, List.getElem?_map, List.getElem?_map, List.getElem?_set]
  by_cases e : n = j
  · subst e
    rw [if_pos rfl, if_pos hn, h]
    exact congrArg some h1
  · rw [if_neg e]
theorem gad_adr {vs us : List VE} {gs : List Nat} (h : adr vs = adr us) : gad vs gs = gad us gs := by rw [gad, gad, h]
theorem set_mid {A B : List VE} {x y : VE} : (A ++ x :: B).set A.length y = A ++ y :: B := by
  rw [List.set_append_right _ _ (Nat.le_refl _), Nat.sub_self]
  rfl
theorem rdGroup_some {rd : Nat → Nat → Nat → Nat → List Nat → RO} {i n np nb k h b : Nat} {gs : List Nat} (q : (n < 3000 ∧ nb + 0 ≤ 65536) ∧ np + b ≤ 6000) : rdGroup (some rd) i n np nb gs k h b = comb n k [] [] (rdMany rd b (i + h) (n + 1) (np + b) nb (gs ++ [n])) := by
  unfold rdGroup
  dsimp only
  rw [if_pos q]
  rcases rdMany rd b (i + h) (n + 1) (np + b) nb (gs ++ [n]) with x | ⟨ps, i2, new, np2, nb2, gs2⟩
  · rfl
  · rfl
theorem rdQ_inr {g : GT} {z : Nat → Nat} {rd ld gr tp vl i capV capG cap2 v e np nb cV cG dc ds : Nat} {ads gs new} {cd pl : Int32} {bs : List UInt8} {vs : List VE} (h0 : ads.length = new.length) (h1 : 20 * dc + 4 * (capV + capG) + 10 ≤ 4 * (cV + cG) + 50 * (e - i)) (h2 : ds + 4 * (capV + capG) + 4 ≤ 4 * (cV + cG) + 21 * (e - i)) : rdQ g z rd ld gr tp vl bs cap2 i cd pl vs capV capG (.inr (v, e, new, np, nb, gs)) (some (.int (nI v))) dc ds [RDR rd ld gr e cd pl, LEAx ld, ROW g tp bs cap2, LST g z gr (gad (vs ++ ents ads new) gs) cG, VLS g z vl (vs ++ ents ads new) np nb cV] := ⟨ads, cV, cG, h0, rfl, rfl, h1, h2⟩
set_option maxHeartbeats 8000000 in
theorem c_rd_group1 {g : GT} {z : Nat → Nat} (hA : GA g z) {f : Nat} (hf24 : f + 1 ≤ 24) (hval : RDV g z f) : RDG g z (f + 1) (fun bs => some (rdV bs f)) := by
  intro d M N rd ld gr tp vl i np nb capV capG cap2 k h b cd pl ty bs vs gs hd hok hk hh hi hb2 hb hM hN
  refine ⟨rcv_pt, ?_⟩
  have hG := hA.1
  refine ctr_intro hG (by decide +kernel) (Nat.le_of_ble_eq_true rfl) ?_
  rintro X F rfl E B hI T
  replace E : JE X RX4 cX4_readGroup 10 d M N := E
  show J X _ [RDR rd ld gr (i + h) cd pl, LEA ld k h b ty, ROW X.1 tp bs cap2, LST X.1 z gr (gad vs gs) capG, VLS X.1 z vl vs np nb capV, F] 0 0 0 [some (.ref rd), some (.ref tp), some (.ref vl), some (.int (nI i)), some (.int (nI (24 - (f + 1)))), none, none, none, none, none] []
  refine j_know (pick_know (P := LST X.1 z gr (gad vs gs) capG) (by repeat (first | with_reducible exact pick_0 | with_reducible apply pick_s)) lst_know) (fun hcG => ?_)
  refine j_know (pick_know (P := VLS X.1 z vl vs np nb capV) (by repeat (first | with_reducible exact pick_0 | with_reducible apply pick_s)) vls_know) (fun hcV => ?_)
  have hgs := hok.2.2.2.2
  have hv3 := hok.1
  have hnp := hok.2.1
  have hnb := hok.2.2.1
  have hgl := hok.2.2.2.1
  refine j_iload E 2 dX4_readGroup_0 rfl rfl ?_
  refine j_bipush E (24) 4 dX4_readGroup_2 (by decide) rfl ?_
  refine j_icmp_lt E 15 7 dX4_readGroup_4 (by decide) rfl (fun h4 => ?_) (fun h4 => ?_)
  · have full : ¬ ((vs.length < 3000 ∧ nb + 0 ≤ 65536) ∧ np + b ≤ 6000) → J X 10 [RDR rd ld gr (i + h) cd pl, LEA ld k h b ty, ROW X.1 tp bs cap2, LST X.1 z gr (gad vs gs) capG, VLS X.1 z vl vs np nb capV, F] 0 0 37 [some (.ref rd), some (.ref tp), some (.ref vl), some (.int (nI i)), some (.int (nI (24 - (f + 1)))), none, none, none, none, none] [] := by
      intro q
      rw [rdGroup] at B
      dsimp only at B
      rw [if_neg q] at B
      refine j_aload_n E 38 dX4_readGroup_37 0 rfl rfl rfl ?_
      refine j_bipush E (7) 40 dX4_readGroup_38 (by decide) rfl ?_
      refine j_iload_n E 41 dX4_readGroup_40 3 rfl rfl rfl ?_
      refine j_callV E (c_rd_refuse hG (d-1) rd ld gr (i + h) cd pl (nI 7) (nI i)) 44 dX4_readGroup_41 _ _ _ iv_X4_54 rfl rfl rfl (by repeat (first | with_reducible exact pick_0 | with_reducible apply pick_s | exact sel_0 | apply sel_s)) (by omega) (by omega) (by omega) (Nat.le_of_ble_eq_true rfl) rfl ?_
      rintro _ _ _ _ ⟨rfl, rfl, rfl, rfl⟩
      dsimp only [List.cons_append, List.nil_append, Option.toList]
      refine j_close (by repeat (first | with_reducible exact pick_0 | with_reducible apply pick_s | exact sel_0 | apply sel_s)) (leax_of (ld := ld) (k := k) (h := h) (b := b) (ty := ty)) ?_
      exact j_iret E B rfl 0 0 dX4_readGroup_44 (by repeat (first | with_reducible exact pick_0 | with_reducible apply pick_s | exact sel_0 | apply sel_s)) ⟨rdQ_inl hok.1, by omega, by omega⟩ (by omega) (by omega) (by omega) (by omega)
    refine j_aload_n E 16 dX4_readGroup_15 2 rfl rfl rfl ?_
    refine j_iconst E (0) 17 dX4_readGroup_16 (by decide) rfl ?_
    rw [show (0 : Int32) = nI 0 from rfl]
    refine j_callV E (c_vls_takes hG (d-1) vl np nb capV 0 (by omega) vs (by omega) (by omega)) 20 dX4_readGroup_17 _ _ _ iv_X4_103 rfl rfl rfl (by repeat (first | with_reducible exact pick_0 | with_reducible apply pick_s | exact sel_0 | apply sel_s)) (by omega) (by omega) (by omega) (Nat.le_of_ble_eq_true rfl) rfl ?_
    rintro _ _ _ _ ⟨rfl, rfl, rfl, rfl⟩
    dsimp only [List.cons_append, List.nil_append, Option.toList]
    by_cases q1 : vs.length < 3000 ∧ nb + 0 ≤ 65536
    · rw [if_pos q1]
      refine j_if_eq E 37 23 dX4_readGroup_20 (by decide) rfl (fun h20 => ?_) (fun h20 => ?_)
      · exact absurd h20 (by decide)
      · refine j_aload_n E 24 dX4_readGroup_23 2 rfl rfl rfl ?_
        refine j_aload_n E 25 dX4_readGroup_24 0 rfl rfl rfl ?_
        refine j_getf E 28 dX4_readGroup_25 fl_X4_12 (by repeat (first | with_reducible exact pick_0 | with_reducible apply pick_s)) (by rfl) rfl ?_
        refine j_getfN E 31 dX4_readGroup_28 fl_X4_80 (by repeat (first | with_reducible exact pick_0 | with_reducible apply pick_s)) (by rfl) rfl ?_
        refine j_callV E (c_vls_parts hG (d-1) vl np nb capV b vs (by omega) (by omega)) 34 dX4_readGroup_31 _ _ _ iv_X4_107 rfl rfl rfl (by repeat (first | with_reducible exact pick_0 | with_reducible apply pick_s | exact sel_0 | apply sel_s)) (by omega) (by omega) (by omega) (Nat.le_of_ble_eq_true rfl) rfl ?_
        rintro _ _ _ _ ⟨rfl, rfl, rfl, rfl⟩
        dsimp only [List.cons_append, List.nil_append, Option.toList]
        by_cases q2 : np + b ≤ 6000
        · rw [if_pos q2]
          refine j_if_ne E 45 37 dX4_readGroup_34 (by decide) rfl (fun h34 => ?_) (fun h34 => ?_)
          · rw [rdGroup_some ⟨q1, q2⟩] at B
            refine j_aload_n E 46 dX4_readGroup_45 0 rfl rfl rfl ?_
            refine j_getf E 49 dX4_readGroup_46 fl_X4_12 (by repeat (first | with_reducible exact pick_0 | with_reducible apply pick_s)) (by rfl) rfl ?_
            refine j_getfN E 52 dX4_readGroup_49 fl_X4_80 (by repeat (first | with_reducible exact pick_0 | with_reducible apply pick_s)) (by rfl) rfl ?_
            refine j_l2i E 53 dX4_readGroup_52 rfl ?_
            rw [lN_i]
            refine j_istore E 55 dX4_readGroup_53 (Nat.le_of_ble_eq_true rfl) rfl rfl ?_
            dsimp only [List.set]
            refine j_aload_n E 56 dX4_readGroup_55 2 rfl rfl rfl ?_
            refine j_iload E 58 dX4_readGroup_56 rfl rfl ?_
            refine j_callV E (c_vls_hold hG (d-1) vl np nb capV b vs) 61 dX4_readGroup_58 _ _ _ iv_X4_111 rfl rfl rfl (by repeat (first | with_reducible exact pick_0 | with_reducible apply pick_s | exact sel_0 | apply sel_s)) (by omega) (by omega) (by omega) (Nat.le_of_ble_eq_true rfl) rfl ?_
            rintro _ _ _ _ ⟨rfl, rfl, rfl, rfl⟩
            dsimp only [List.cons_append, List.nil_append, Option.toList]
            refine j_aload_n E 62 dX4_readGroup_61 2 rfl rfl rfl ?_
            refine j_aload_n E 63 dX4_readGroup_62 0 rfl rfl rfl ?_
            refine j_getf E 66 dX4_readGroup_63 fl_X4_12 (by repeat (first | with_reducible exact pick_0 | with_reducible apply pick_s)) (by rfl) rfl ?_
            refine j_getfN E 69 dX4_readGroup_66 fl_X4_69 (by repeat (first | with_reducible exact pick_0 | with_reducible apply pick_s)) (by rfl) rfl ?_
            refine j_eqi (kI_nI (by omega)) ?_
            refine j_lconst E 0 70 dX4_readGroup_69 rfl rfl ?_
            refine j_iconst E (0) 71 dX4_readGroup_70 (by decide) rfl ?_
            refine j_getsN E 74 dX4_readGroup_71 hA.2.2.1.1 gs_X4_115 rfl ?_
            refine j_close (P := BYS X.1 z (z 0) []) (qs := []) (by repeat (first | with_reducible exact pick_0 | with_reducible apply pick_s | exact sel_0 | apply sel_s)) bys_nil ?_
            refine j_callV E (c_vls_keep hA (d-1) vl (np + b) nb capV k (z 0) (by omega) 0 0 [] vs (by omega)) 77 dX4_readGroup_74 _ _ _ iv_X4_119 rfl rfl rfl (by repeat (first | with_reducible exact pick_0 | with_reducible apply pick_s | exact sel_0 | apply sel_s)) (by omega) (by omega) (by omega) (Nat.le_of_ble_eq_true rfl) rfl ?_
            rintro _ adc ads _ ⟨xa, cV1, rfl, rfl, e1, e2, e3, e4⟩
            dsimp only [List.cons_append, List.nil_append, Option.toList]
            obtain ⟨vs1, hvs1⟩ : ∃ vs1, vs1 = vs ++ [((xa, (k, 0, 0, [], []), -1) : VE)] := ⟨_, rfl⟩
            have hl1 : vs1.length = vs.length + 1 := by rw [hvs1, List.length_append]; rfl
            have hat : vs1[vs.length]? = some (xa, (k, 0, 0, [], []), -1) := by rw [hvs1]; simp
            rw [← hvs1]
            refine j_istore E 79 dX4_readGroup_77 (Nat.le_of_ble_eq_true rfl) rfl rfl ?_
            dsimp only [List.set]
            refine j_aload_n E 80 dX4_readGroup_79 2 rfl rfl rfl ?_
            refine j_iload E 82 dX4_readGroup_80 rfl rfl ?_
            refine j_callV E (c_vls_at (z := z) hG (d-1) vl (np + b) (nb + ([] : List UInt8).length) cV1 vs.length (by omega) vs1 _ hat (by omega)) 85 dX4_readGroup_82 _ _ _ iv_X4_123 rfl rfl rfl (by repeat (first | with_reducible exact pick_0 | with_reducible apply pick_s | exact sel_0 | apply sel_s)) (by omega) (by omega) (by omega) (Nat.le_of_ble_eq_true rfl) rfl ?_
            rintro _ _ _ _ ⟨rfl, rfl, rfl, rfl⟩
            dsimp only [List.cons_append, List.nil_append, Option.toList]
            refine j_astore E 87 dX4_readGroup_85 (Nat.le_of_ble_eq_true rfl) rfl rfl ?_
            dsimp only [List.set]
            refine j_aload_n E 88 dX4_readGroup_87 0 rfl rfl rfl ?_
            refine j_getf E 91 dX4_readGroup_88 fl_X4_21 (by repeat (first | with_reducible exact pick_0 | with_reducible apply pick_s)) (by rfl) rfl ?_
            refine j_aload E 93 dX4_readGroup_91 rfl rfl ?_
            refine j_open (P := VLS X.1 z vl vs1 (np + b) (nb + ([] : List UInt8).length) cV1) (by repeat (first | with_reducible exact pick_0 | with_reducible apply pick_s)) vls_open ?_
            rintro al -
            dsimp only [VLSo, List.cons_append, List.nil_append]
            refine j_callV E (c_lst_add hA (d-1) (by omega) gr xa capG (gad vs gs) (VSL X.1 z 0 vs1) (fun x hx => vsl_has x (by rw [hvs1, List.map_append]; exact List.mem_append_left _ (gad_mem hgs x hx))) (vsl_has xa (List.mem_map.mpr ⟨_, List.mem_of_getElem? hat, rfl⟩)) (by rw [gad_len]; omega)) 96 dX4_readGroup_93 _ _ _ iv_X4_126 rfl rfl rfl (by repeat (first | with_reducible exact pick_0 | with_reducible apply pick_s | exact sel_0 | apply sel_s)) (by omega) (by omega) (by omega) (Nat.le_of_ble_eq_true rfl) rfl ?_
            rintro _ bdc bds _ ⟨cG1, rfl, rfl, f1, f2, f3, f4⟩
            dsimp only [List.cons_append, List.nil_append, Option.toList]
            rw [show gad vs gs ++ [xa] = gad vs1 (gs ++ [vs.length]) by rw [hvs1]; exact gad_push (e := (xa, (k, 0, 0, [], []), -1)) hgs]
            refine j_close (by repeat (first | with_reducible exact pick_0 | with_reducible apply pick_s | exact sel_0 | apply sel_s)) vls_of ?_
            refine j_close (by repeat (first | with_reducible exact pick_0 | with_reducible apply pick_s | exact sel_0 | apply sel_s)) (leax_of (ld := ld) (k := k) (h := h) (b := b) (ty := ty)) ?_
            refine j_pop E 97 dX4_readGroup_96 rfl rfl ?_
            refine j_iconst E (0) 98 dX4_readGroup_97 (by decide) rfl ?_
            refine j_istore E 100 dX4_readGroup_98 (Nat.le_of_ble_eq_true rfl) rfl rfl ?_
            dsimp only [List.set]
            obtain ⟨Rf, hRf⟩ : ∃ Rf, Rf = comb vs.length k [] [] (rdMany (rdV bs f) b (i + h) (vs.length + 1) (np + b) nb (gs ++ [vs.length])) := ⟨_, rfl⟩
            rw [← hRf] at B
            have loop : ∀ (q : Nat) (ps0 ads0 : List Nat) (new0 : List VT) (i1 np1 nb1 cV cG kk nn : Nat) (gs1 : List Nat) (l9 : Option Value), ps0.length + q = b → ads0.length = new0.length → i + h ≤ i1 → i1 ≤ bs.length → OKs (vs.length + 1 + new0.length) np1 nb1 gs1 → Rf = comb vs.length k ps0 new0 (rdMany (rdV bs f) q i1 (vs.length + 1 + new0.length) np1 nb1 gs1) →
                20 * kk + 4 * (capV + capG) + 10 * ps0.length ≤ 4 * (cV + cG) + 20 + 5 * pcap ps0.length + 50 * (i1 - (i + h)) → nn + 4 * (capV + capG) + 4 * ps0.length ≤ 4 * (cV + cG) + 8 + 2 * pcap ps0.length + 21 * (i1 - (i + h)) →
                J X 10 [RDR rd ld gr i1 cd pl, LEAx ld, ROW X.1 tp bs cap2, LST X.1 z gr (gad (vs ++ ((xa, (k, 0, 0, [], ps0), -1) : VE) :: ents ads0 new0) gs1) cG, VLS X.1 z vl (vs ++ ((xa, (k, 0, 0, [], ps0), -1) : VE) :: ents ads0 new0) np1 nb1 cV, F] kk nn 100 [some (.ref rd), some (.ref tp), some (.ref vl), some (.int (nI i)), some (.int (nI (24 - (f + 1)))), some (.int (nI b)), some (.int (nI vs.length)), some (.ref xa), some (.int (nI ps0.length)), l9] [] := by
              intro q
              induction q with
              | zero =>
                intro ps0 ads0 new0 i1 np1 nb1 cV cG kk nn gs1 l9 hq hl0 hi1 hi2 hok1 hR hK hS
                have hpc := pcap_le ps0.length
                refine j_know (pick_know (P := LST X.1 z gr (gad (vs ++ ((xa, (k, 0, 0, [], ps0), -1) : VE) :: ents ads0 new0) gs1) cG) (by repeat (first | with_reducible exact pick_0 | with_reducible apply pick_s)) lst_know) (fun hcG2 => ?_)
                refine j_know (pick_know (P := VLS X.1 z vl (vs ++ ((xa, (k, 0, 0, [], ps0), -1) : VE) :: ents ads0 new0) np1 nb1 cV) (by repeat (first | with_reducible exact pick_0 | with_reducible apply pick_s)) vls_know) (fun hcV2 => ?_)
                have hR2 : Rf = .inr (vs.length, i1, (k, 0, 0, [], ps0) :: new0, np1, nb1, gs1) := by
                  rw [hR, rdMany]
                  simp only [comb, List.append_nil]
                rw [hR2] at B
                refine j_iload E 102 dX4_readGroup_100 rfl rfl ?_
                refine j_iload E 104 dX4_readGroup_102 rfl rfl ?_
                refine j_icmp_ge E 140 107 dX4_readGroup_104 (by decide) rfl (fun h104 => ?_) (fun h104 => ?_)
                · refine j_iload E 142 dX4_readGroup_140 rfl rfl ?_
                  rw [show ((xa, (k, 0, 0, [], ps0), -1) : VE) :: ents ads0 new0 = ents (xa :: ads0) ((k, 0, 0, [], ps0) :: new0) from rfl]
                  exact j_iret E B rfl kk nn dX4_readGroup_142 (by repeat (first | with_reducible exact pick_0 | with_reducible apply pick_s | exact sel_0 | apply sel_s)) ⟨rdQ_inr (by rw [List.length_cons, List.length_cons, hl0]) (by omega) (by omega), by omega, by omega⟩ (by omega) (by omega) (by omega) (by omega)
                · exact absurd (nI_le (by omega) (by omega)) h104
              | succ q ih =>
                intro ps0 ads0 new0 i1 np1 nb1 cV cG kk nn gs1 l9 hq hl0 hi1 hi2 hok1 hR hK hS
                have hpc := pcap_le ps0.length
                obtain ⟨vx, hvx⟩ : ∃ vx, vx = vs ++ ((xa, (k, 0, 0, [], ps0), -1) : VE) :: ents ads0 new0 := ⟨_, rfl⟩
                have hxl : vx.length = vs.length + 1 + new0.length := by rw [hvx, List.length_append, List.length_cons, ents_len hl0]; omega
                rw [← hvx]
                refine j_know (pick_know (P := LST X.1 z gr (gad vx gs1) cG) (by repeat (first | with_reducible exact pick_0 | with_reducible apply pick_s)) lst_know) (fun hcG2 => ?_)
                refine j_know (pick_know (P := VLS X.1 z vl vx np1 nb1 cV) (by repeat (first | with_reducible exact pick_0 | with_reducible apply pick_s)) vls_know) (fun hcV2 => ?_)
                refine j_iload E 102 dX4_readGroup_100 rfl rfl ?_
                refine j_iload E 104 dX4_readGroup_102 rfl rfl ?_
                refine j_icmp_ge E 140 107 dX4_readGroup_104 (by decide) rfl (fun h104 => ?_) (fun h104 => ?_)
                · exact absurd h104 (nI_ge (by omega) (by omega))
                · refine j_aload_n E 108 dX4_readGroup_107 0 rfl rfl rfl ?_
                  refine j_aload_n E 109 dX4_readGroup_108 1 rfl rfl rfl ?_
                  refine j_aload_n E 110 dX4_readGroup_109 2 rfl rfl rfl ?_
                  refine j_iload E 112 dX4_readGroup_110 rfl rfl ?_
                  refine j_iconst E (1) 113 dX4_readGroup_112 (by decide) rfl ?_
                  refine j_iadd E 114 dX4_readGroup_113 rfl ?_
                  refine j_eqi (y := nI (24 - f)) ((nI_1 _).trans (congrArg nI (by omega))) ?_
                  have hkM : kk ≤ M := by omega
                  have hnN : nn ≤ N := by omega
                  refine j_callV E (hval (d-1) (M - kk) (N - nn) rd ld gr tp vl i1 np1 nb1 cV cG cap2 cd pl bs vx gs1 (by omega) (by rw [hxl]; exact hok1) hi2 hb (by omega) (by omega)) 117 dX4_readGroup_114 _ _ _ iv_X4_47 rfl rfl rfl (by repeat (first | with_reducible exact pick_0 | with_reducible apply pick_s | exact sel_0 | apply sel_s)) (by omega) (by omega) (by omega) (Nat.le_of_ble_eq_true rfl) rfl ?_
                  rintro o xdc xds ws' ⟨hq1, hq2, hq3⟩
                  rw [hxl] at hq1
                  have hrk := rdV_ok (bs := bs) f i1 (vs.length + 1 + new0.length) np1 nb1 gs1 hok1
                  rcases hr : rdV bs f i1 (vs.length + 1 + new0.length) np1 nb1 gs1 with x | ⟨v, i2, new, np2, nb2, gs2⟩
                  · rw [hr] at hq1
                    rw [hR, comb_bad hr] at B
                    obtain ⟨e9, ms, np9, nb9, cV9, cG9, xs9, rfl, rfl, g1, g2, g3⟩ := hq1
                    dsimp only [List.cons_append, List.nil_append, Option.toList]
                    refine j_istore E 119 dX4_readGroup_117 (Nat.le_of_ble_eq_true rfl) rfl rfl ?_
                    dsimp only [List.set]
                    refine j_iload E 121 dX4_readGroup_119 rfl rfl ?_
                    refine j_iconst E (-1) 122 dX4_readGroup_121 (by decide) rfl ?_
                    refine j_icmp_ne E 127 125 dX4_readGroup_122 (by decide) rfl (fun h122 => ?_) (fun h122 => ?_)
                    · exact absurd rfl h122
                    · refine j_iconst E (-1) 126 dX4_readGroup_125 (by decide) rfl ?_
                      rw [hvx, List.append_assoc] at g1 ⊢
                      exact j_iret E B rfl (kk + xdc) (nn + xds) dX4_readGroup_126 (by repeat (first | with_reducible exact pick_0 | with_reducible apply pick_s | exact sel_0 | apply sel_s)) ⟨⟨e9, _, np9, nb9, cV9, cG9, xs9, rfl, rfl, g1, by omega, by omega⟩, by omega, by omega⟩ (by omega) (by omega) (by omega) (by omega)
                  · rw [hr] at hq1 hrk
                    obtain ⟨g1, g2, g3, g4⟩ := hrk
                    dsimp only at g1 g2 g3 g4
                    obtain ⟨ads2, cV9, cG9, f9, rfl, rfl, k1, k2⟩ := hq1
                    dsimp only at f9 k1 k2
                    dsimp only [List.cons_append, List.nil_append, Option.toList]
                    refine j_istore E 119 dX4_readGroup_117 (Nat.le_of_ble_eq_true rfl) rfl rfl ?_
                    dsimp only [List.set]
                    refine j_iload E 121 dX4_readGroup_119 rfl rfl ?_
                    refine j_iconst E (-1) 122 dX4_readGroup_121 (by decide) rfl ?_
                    refine j_icmp_ne E 127 125 dX4_readGroup_122 (by decide) rfl (fun h122 => ?_) (fun h122 => ?_)
                    · obtain ⟨LL, hLL⟩ : ∃ LL, LL = vx ++ ents ads2 new := ⟨_, rfl⟩
                      have hLat : LL[vs.length]? = some (xa, (k, 0, 0, [], ps0), -1) := by rw [hLL, hvx]; simp
                      have hLset : LL.set vs.length (xa, (k, 0, 0, [], ps0 ++ [v]), -1) = vs ++ ((xa, (k, 0, 0, [], ps0 ++ [v]), -1) : VE) :: ents (ads0 ++ ads2) (new0 ++ new) := by
                        rw [hLL, hvx, List.append_assoc, List.cons_append, set_mid, ents_app hl0]
                      have hLadr : adr (vs ++ ((xa, (k, 0, 0, [], ps0 ++ [v]), -1) : VE) :: ents (ads0 ++ ads2) (new0 ++ new)) = adr LL := by rw [← hLset]; exact adr_set hLat rfl
                      rw [← hLL]
                      refine j_know (pick_know (P := LST X.1 z gr (gad LL gs2) cG9) (by repeat (first | with_reducible exact pick_0 | with_reducible apply pick_s)) lst_know) (fun hcG3 => ?_)
                      refine j_know (pick_know (P := VLS X.1 z vl LL np2 nb2 cV9) (by repeat (first | with_reducible exact pick_0 | with_reducible apply pick_s)) vls_know) (fun hcV3 => ?_)
                      refine j_open (P := VLS X.1 z vl LL np2 nb2 cV9) (by repeat (first | with_reducible exact pick_0 | with_reducible apply pick_s)) vls_open ?_
                      rintro al2 -
                      dsimp only [VLSo, List.cons_append, List.nil_append]
                      refine j_open (P := VSL X.1 z 0 LL) (by repeat (first | with_reducible exact pick_0 | with_reducible apply pick_s)) (vsl_open hLat) ?_
                      rintro _ -
                      dsimp only [List.cons_append, List.nil_append]
                      refine j_aload E 129 dX4_readGroup_127 rfl rfl ?_
                      refine j_iload E 131 dX4_readGroup_129 rfl rfl ?_
                      refine j_callV E (c_val_append hA (d-1) xa vs.length (pcap ps0.length) v (by omega) (k, 0, 0, [], ps0) (-1) (by show ps0.length ≤ 9000; omega)) 134 dX4_readGroup_131 _ _ _ iv_X4_130 rfl rfl rfl (by repeat (first | with_reducible exact pick_0 | with_reducible apply pick_s | exact sel_0 | apply sel_s)) (by omega) (by omega) (by omega) (Nat.le_of_ble_eq_true rfl) rfl ?_
                      rintro _ ydc yds _ ⟨xcap, rfl, rfl, m1, m2, m3, m4, m5⟩
                      dsimp only [List.cons_append, List.nil_append, Option.toList]
                      have hxc : xcap = pcap (ps0.length + 1) := m5.trans (pcap_step rfl)
                      rw [hxc] at m3 m4
                      rw [show vadd (k, 0, 0, [], ps0) v = (k, 0, 0, [], ps0 ++ [v]) from rfl]
                      refine j_close (by repeat (first | with_reducible exact pick_0 | with_reducible apply pick_s | exact sel_0 | apply sel_s)) (val_of (g := X.1) (z := z) (a := xa) (i := vs.length) (t := -1) (cap := xcap) (v := (k, 0, 0, [], ps0 ++ [v])) (by rw [hxc]; show _ = pcap (ps0 ++ [v]).length; rw [List.length_append]; rfl)) ?_
                      refine j_close (by repeat (first | with_reducible exact pick_0 | with_reducible apply pick_s | exact sel_0 | apply sel_s)) (vsl_set (L := LL) (xa, (k, 0, 0, [], ps0 ++ [v]), -1) (List.getElem?_eq_some_iff.mp hLat).1) ?_
                      rw [hLset]
                      refine j_close (by repeat (first | with_reducible exact pick_0 | with_reducible apply pick_s | exact sel_0 | apply sel_s)) (vls_of' hLadr.symm) ?_
                      rw [gad_adr hLadr.symm]
                      refine j_iinc E _ 137 dX4_readGroup_134 rfl rfl (Nat.le_of_ble_eq_true rfl) rfl rfl ?_
                      dsimp only [List.set]
                      refine j_goto E 100 dX4_readGroup_137 (by decide) ?_
                      have hpl : (ps0 ++ [v]).length = ps0.length + 1 := by rw [List.length_append]; rfl
                      have hnl : vs.length + 1 + (new0 ++ new).length = vs.length + 1 + new0.length + new.length := by rw [List.length_append]; omega
                      have hz2 := ih (ps0 ++ [v]) (ads0 ++ ads2) (new0 ++ new) i2 np2 nb2 cV9 cG9 (kk + xdc + ydc) (nn + xds + yds) gs2 (some (.int (nI v))) (by omega) (by rw [List.length_append, List.length_append, hl0, f9]) (by omega) g4 (by rw [hnl]; exact g1) (by rw [hnl, hR]; exact comb_step hr) (by rw [hpl]; omega) (by rw [hpl]; omega)
                      rw [hpl, ← nI_1] at hz2
                      exact j_sel (by repeat (first | with_reducible exact pick_0 | with_reducible apply pick_s | exact sel_0 | apply sel_s)) hz2
                    · exact absurd h122 (nI_m1 (by have := g1.1; omega))
            have hz := loop b [] [] [] (i + h) (np + b) nb cV1 cG1 (0 + 0 + 0 + 0 + adc + 0 + bdc) (0 + 0 + 0 + 0 + ads + 0 + bds) (gs ++ [vs.length]) none (Nat.zero_add _) rfl (Nat.le_refl _) hi ⟨by show vs.length + 1 + 0 ≤ 3000; omega, q2, hnb, by rw [List.length_append, List.length_singleton]; show gs.length + 1 ≤ vs.length + 1 + 0; omega, fun j hj => by
              rcases List.mem_append.mp hj with e | e
              · have := hgs j e
                show j < vs.length + 1 + 0
                omega
              · have := List.mem_singleton.mp e
                show j < vs.length + 1 + 0
                omega⟩ hRf (by show 20 * _ + 4 * (capV + capG) + 10 * 0 ≤ 4 * (cV1 + cG1) + 20 + 5 * 0 + 50 * _; omega) (by show _ + 4 * (capV + capG) + 4 * 0 ≤ 4 * (cV1 + cG1) + 8 + 2 * 0 + 21 * _; omega)
            rw [show ents [] [] = [] from rfl] at hz
            rw [hvs1, show nb + ([] : List UInt8).length = nb from rfl]
            exact j_sel (by repeat (first | with_reducible exact pick_0 | with_reducible apply pick_s | exact sel_0 | apply sel_s)) hz
          · exact absurd h34 (by decide)
        · rw [if_neg q2]
          refine j_if_ne E 45 37 dX4_readGroup_34 (by decide) rfl (fun h34 => ?_) (fun h34 => ?_)
          · exact absurd rfl h34
          · exact j_sel (by repeat (first | with_reducible exact pick_0 | with_reducible apply pick_s | exact sel_0 | apply sel_s)) (full (fun q => q2 q.2))
    · rw [if_neg q1]
      refine j_if_eq E 37 23 dX4_readGroup_20 (by decide) rfl (fun h20 => ?_) (fun h20 => ?_)
      · exact j_sel (by repeat (first | with_reducible exact pick_0 | with_reducible apply pick_s | exact sel_0 | apply sel_s)) (full (fun q => q1 q.1))
      · exact absurd rfl h20
  · exact absurd (nI_lt (a := 24 - (f + 1)) (b := 24) (by omega) (by decide)) h4

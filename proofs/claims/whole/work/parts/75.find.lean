/-! PackedGraph: find -/
theorem findV_even {us : List VT} {p : List UInt8} {c v : Nat} {ps : List Nat} : findV us p (c :: v :: ps) = if packU us 65536 c = some p then nI v else findV us p ps := rfl
theorem drop2 {ps : List Nat} {i : Nat} (h : i + 1 < ps.length) : ps.drop i = ps.getD i 0 :: ps.getD (i + 1) 0 :: ps.drop (i + 2) := by
  rw [List.drop_eq_getElem_cons (show i < ps.length by omega), List.drop_eq_getElem_cons (show i + 1 < ps.length by omega), List.getD_eq_getElem?_getD, List.getD_eq_getElem?_getD, List.getElem?_eq_getElem (show i < ps.length by omega), List.getElem?_eq_getElem h]
  rfl
set_option maxHeartbeats 16000000 in
theorem c_pg_find {g : GT} {z : Nat → Nat} (hA : GA g z) (d M N x P Q : Nat) (m c : Int32) (S : AS) (hd : 100 ≤ d) (hM : 9100000 + 800 * S.1.length ≤ 320 * M + P) (hN : 1700000 + 21 * S.1.length ≤ N + Q) : CtrV g mX7_find 6 d M N x [.int m, .int c] [PGA g z x S P Q] (pgo g z x P Q S.1.length M N (sFind m c S).1 (some (.int (sFind m c S).2.1)) (sFind m c S).2.2) (pgx g z x P Q S.1.length M N (sFind m c S).1 (sFind m c S).2.2 [(exI, 1), (exA, 2), (exU, 3)]) := by
  refine ⟨pga_rcv, ?_⟩
  have hG := hA.1
  have h2 := hA.2.1
  obtain ⟨tape, us, np, nb, out, cd, pl⟩ := S
  dsimp only at hM hN
  refine ctr_intro hG (by decide +kernel) (Nat.le_of_ble_eq_true rfl) ?_
  rintro X F rfl E B hI T
  replace E : JE X RX7 cX7_find 6 d M N := E
  show J X _ [PGA X.1 z x (tape, us, np, nb, out, cd, pl) P Q, F] 0 0 0 [some (.ref x), some (.int m), some (.int c), none, none, none] []
  refine pga_open (by repeat (first | with_reducible exact pick_0 | with_reducible apply pick_s)) ?_
  intro tp vl rd ld gr e0 ou p1 m1 lf p2 m2 rt p3 m3 capT capV capG c1 k1 c2 k2 c3 k3 b2 b3 vs hS
  refine j_know (fun w hw => pgl_know w hw) (fun hcp => ?_)
  dsimp only [PGL, List.cons_append, List.nil_append]
  obtain ⟨hok, hvt, htz, hP, hQ⟩ := hS
  dsimp only at hvt hP hQ
  have hvs := vsok_of hok hvt htz
  have hlen : vs.length = us.length := by rw [← hvt, vts_len]
  have h65 : tape.length ≤ 65536 := hok.1
  have h30 : us.length ≤ 3000 := hok.2.1
  have h60 : np ≤ 6000 := hok.2.2.1
  have hnb : nb ≤ 65536 := hok.2.2.2.1
  have hou : out.length ≤ 65536 := hok.2.2.2.2.1
  dsimp only at B
  refine j_aload_n E 1 dX7_find_0 0 rfl rfl rfl ?_
  refine j_iload_n E 2 dX7_find_1 1 rfl rfl rfl ?_
  refine j_callVX E (c_nd_value hA (d-1) x tp vl rd ou lf rt np nb capV m vs (by omega)) 5 dX7_find_2 _ _ _ iv_X7_90 rfl rfl rfl (by repeat (first | with_reducible exact pick_0 | with_reducible apply pick_s | exact sel_0 | apply sel_s)) (by omega) (by omega) (by omega) (Nat.le_of_ble_eq_true rfl) rfl ?_ ?_
  · rintro _ _ _ _ ⟨qb1, rfl, rfl, rfl, rfl⟩
    dsimp only [List.cons_append, List.nil_append, Option.toList]
    rw [hlen] at qb1
    refine j_aload_n E 6 dX7_find_5 0 rfl rfl rfl ?_
    refine j_iload_n E 7 dX7_find_6 2 rfl rfl rfl ?_
    refine j_callVX E (c_nd_value hA (d-1) x tp vl rd ou lf rt np nb capV c vs (by omega)) 10 dX7_find_7 _ _ _ iv_X7_90 rfl rfl rfl (by repeat (first | with_reducible exact pick_0 | with_reducible apply pick_s | exact sel_0 | apply sel_s)) (by omega) (by omega) (by omega) (Nat.le_of_ble_eq_true rfl) rfl ?_ ?_
    · rintro _ _ _ _ ⟨qb2, rfl, rfl, rfl, rfl⟩
      dsimp only [List.cons_append, List.nil_append, Option.toList]
      rw [hlen] at qb2
      obtain ⟨j, hj, rfl⟩ := inB_t (by omega) qb1
      obtain ⟨i0, hi0, rfl⟩ := inB_t (by omega) qb2
      obtain ⟨⟨ea, ev, et⟩, he⟩ : ∃ e, vs[j]? = some e := ⟨_, List.getElem?_eq_getElem (by omega)⟩
      have hev : vAt us j = ev := by rw [← hvt]; exact vAt_of he
      have het : VTok us.length np ev := by rw [← hev]; exact aok_at hok (show j < us.length by omega)
      have hek : ev.1 ≤ 10 := het.1
      obtain ⟨⟨fa, fv, ft⟩, hf⟩ : ∃ e, vs[i0]? = some e := ⟨_, List.getElem?_eq_getElem (by omega)⟩
      have hfv : vAt us i0 = fv := by rw [← hvt]; exact vAt_of hf
      have hft : VTok us.length np fv := by rw [← hfv]; exact aok_at hok (show i0 < us.length by omega)
      have hfk : fv.1 ≤ 10 := hft.1
      refine j_aload_n E 11 dX7_find_10 0 rfl rfl rfl ?_
      refine j_iload_n E 12 dX7_find_11 1 rfl rfl rfl ?_
      refine j_bipush E (8) 14 dX7_find_12 (by decide) rfl ?_
      refine j_callVX E (c_nd_kind hA (d-1) x tp vl rd ou lf rt np nb capV j 8 (ea, ev, et) vs (by omega) he (by omega) (by decide) (show ev.1 < 100 by omega)) 17 dX7_find_14 _ _ _ iv_X7_142 rfl rfl rfl (by repeat (first | with_reducible exact pick_0 | with_reducible apply pick_s | exact sel_0 | apply sel_s)) (by omega) (by omega) (by omega) (Nat.le_of_ble_eq_true rfl) rfl ?_ ?_
      · rintro _ _ _ _ ⟨qk, rfl, rfl, rfl, rfl⟩
        dsimp only [List.cons_append, List.nil_append, Option.toList] at qk ⊢
        have e8 : sFind (nI j) (nI i0) (tape, us, np, nb, out, cd, pl) = match packU us 65536 i0 with
          | none => (3, 0, (tape, us, np, nb, out, cd, pl))
          | some p => (0, findV us p ev.2.2.2.2, (tape, us, np, nb, out, cd, pl)) := by
          unfold sFind
          dsimp only
          rw [if_neg (fun q => q.elim (fun q => q qb1) (fun q => q qb2)), nI_clamp (by omega), nI_clamp (by omega), hev, if_neg (fun q => q qk)]
          rfl
        rw [e8] at B
        refine j_aload_n E 18 dX7_find_17 0 rfl rfl rfl ?_
        refine j_getf E 21 dX7_find_18 fl_X7_37 (by repeat (first | with_reducible exact pick_0 | with_reducible apply pick_s)) (by rfl) rfl ?_
        refine j_aload_n E 22 dX7_find_21 0 rfl rfl rfl ?_
        refine j_getf E 25 dX7_find_22 fl_X7_19 (by repeat (first | with_reducible exact pick_0 | with_reducible apply pick_s)) (by rfl) rfl ?_
        refine j_iload_n E 26 dX7_find_25 2 rfl rfl rfl ?_
        refine j_ldcI E _ 28 dX7_find_26 kc_X7_47 rfl ?_
        rw [show (65536 : Int32) = nI 65536 from rfl]
        refine j_callV E (c_pk_write hA (d-1) M N lf p2 m2 vl 65536 c2 k2 capV np nb i0 fa fv ft b2 vs (by omega) hvs hf (Nat.le_refl _) (by omega) (by omega)) 31 dX7_find_28 _ _ _ iv_X7_93 rfl rfl rfl (by repeat (first | with_reducible exact pick_0 | with_reducible apply pick_s | exact sel_0 | apply sel_s)) (by omega) (by omega) (by omega) (Nat.le_of_ble_eq_true rfl) rfl ?_
        rintro _ xdc xds _ ⟨xcap, xcC, rfl, rfl, g1, g2, g3, g4⟩
        dsimp only [List.cons_append, List.nil_append, Option.toList]
        rw [hvt]
        refine j_know (pick_know (P := PCK X.1 z lf p2 m2 _ xcap xcC) (by repeat (first | with_reducible exact pick_0 | with_reducible apply pick_s)) pck_know) (fun hcx => ?_)
        rcases hp : packU us 65536 i0 with _ | p
        · rw [hp] at B
          dsimp only [Option.isSome_none, Option.getD_none] at B ⊢
          refine j_if_ne E 44 34 dX7_find_31 (by decide) rfl (fun h31 => ?_) (fun h31 => ?_)
          · exact absurd rfl h31
          · refine pga_close us (by repeat (first | with_reducible exact pick_0 | with_reducible apply pick_s | exact sel_0 | apply sel_s)) hok hvt htz ?_
            exact j_throwS E B T h2 (tk_U sr_206) (xdc + 1) (xds + 6) dX7_find_34 37 38 40 43 rfl rfl rfl rfl dX7_find_37 dX7_find_38 dX7_find_40 dX7_find_43 (by repeat (first | with_reducible exact pick_0 | with_reducible apply pick_s | exact sel_0 | apply sel_s)) ⟨_, _, mm2, rfl, by omega, by omega, by omega, by omega⟩ (by omega) (by omega) (by omega) (by omega) (by show 2 + 3 < d; omega) (by show 0 + (13 * (2 + 1) + 43) ≤ 46 * d; omega)
        · rw [hp] at B
          dsimp only [Option.isSome_some, Option.getD_some] at B ⊢
          have hpl := packU_len hp
          have hnl := het.2.2.1
          have hpar := het.2.2.2.1
          have hev2 := het.2.2.2.2.2.2.1 qk
          have hpc1 := pcap_le ev.2.2.2.2.length
          refine j_if_ne E 44 34 dX7_find_31 (by decide) rfl (fun h31 => ?_) (fun h31 => ?_)
          · refine j_aload_n E 45 dX7_find_44 0 rfl rfl rfl ?_
            refine j_getf E 48 dX7_find_45 fl_X7_19 (by repeat (first | with_reducible exact pick_0 | with_reducible apply pick_s)) (by rfl) rfl ?_
            refine j_iload_n E 49 dX7_find_48 1 rfl rfl rfl ?_
            refine j_callV E (c_vls_at (z := z) hG (d-1) vl np nb capV j (by omega) vs _ he (by omega)) 52 dX7_find_49 _ _ _ iv_X7_152 rfl rfl rfl (by repeat (first | with_reducible exact pick_0 | with_reducible apply pick_s | exact sel_0 | apply sel_s)) (by omega) (by omega) (by omega) (Nat.le_of_ble_eq_true rfl) rfl ?_
            rintro _ _ _ _ ⟨rfl, rfl, rfl, rfl⟩
            dsimp only [List.cons_append, List.nil_append, Option.toList]
            refine j_astore_n E 53 dX7_find_52 3 rfl (Nat.le_of_ble_eq_true rfl) rfl rfl ?_
            dsimp only [List.set]
            refine j_open (P := PCK X.1 z lf p2 m2 p xcap xcC) (by repeat (first | with_reducible exact pick_0 | with_reducible apply pick_s)) pck_open ?_
            rintro ⟨mo, fl⟩ -
            dsimp only [List.cons_append, List.nil_append]
            refine j_aload_n E 54 dX7_find_53 0 rfl rfl rfl ?_
            refine j_getf E 57 dX7_find_54 fl_X7_37 (by repeat (first | with_reducible exact pick_0 | with_reducible apply pick_s)) (by rfl) rfl ?_
            refine j_getfF E 60 dX7_find_57 fl_X7_99 (by repeat (first | with_reducible exact pick_0 | with_reducible apply pick_s)) (by rfl) rfl ?_
            refine j_callV E (c_row_size hG (d-1) p2 xcap p) 63 dX7_find_60 _ _ _ iv_X7_43 rfl rfl rfl (by repeat (first | with_reducible exact pick_0 | with_reducible apply pick_s | exact sel_0 | apply sel_s)) (by omega) (by omega) (by omega) (Nat.le_of_ble_eq_true rfl) rfl ?_
            rintro _ _ _ _ ⟨rfl, rfl, rfl, rfl⟩
            dsimp only [List.cons_append, List.nil_append, Option.toList]
            refine j_istore E 65 dX7_find_63 (Nat.le_of_ble_eq_true rfl) rfl rfl ?_
            dsimp only [List.set]
            refine j_close (by repeat (first | with_reducible exact pick_0 | with_reducible apply pick_s | exact sel_0 | apply sel_s)) (pck_of (g := X.1) (z := z) (pk := lf) (pr := p2) (cm := m2) (cap := xcap) (capC := xcC) (bs := p) (mo := mo) (fa := fl)) ?_
            refine j_iconst E (0) 66 dX7_find_65 (by decide) rfl ?_
            refine j_istore E 68 dX7_find_66 (Nat.le_of_ble_eq_true rfl) rfl rfl ?_
            dsimp only [List.set]
            obtain ⟨R, hR⟩ : ∃ R, R = findV us p ev.2.2.2.2 := ⟨_, rfl⟩
            rw [← hR] at B
            have loop : ∀ (q i : Nat) (bb : List UInt8) (cc9 kc9 kk nn : Nat), i + 2 * q = ev.2.2.2.2.length → R = findV us p (ev.2.2.2.2.drop i) → 320 * kk + 5 * (c2 + c3) + 64 * (k2 + k3) ≤ 5 * (xcap + cc9) + 64 * (xcC + kc9) → nn + 2 * (c2 + c3) + 4 * (k2 + k3) ≤ 2 * (xcap + cc9) + 4 * (xcC + kc9) → kk ≤ M → nn ≤ N → J X 6 [PCK X.1 z lf p2 m2 p xcap xcC, PGF x tp vl rd ou lf rt, ROW X.1 tp tape capT, VLS X.1 z vl vs np nb capV, RDR rd ld gr e0 (nI cd) (nI pl), LEAx ld, LST X.1 z gr [] capG, PCK X.1 z ou p1 m1 out c1 k1, PCK X.1 z rt p3 m3 bb cc9 kc9, F] kk nn 68 [some (.ref x), some (.int (nI j)), some (.int (nI i0)), some (.ref ea), some (.int (nI p.length)), some (.int (nI i))] [] := by
              intro q
              induction q with
              | zero =>
                intro i bb cc9 kc9 kk nn hq hRR hK hS hkM hnN
                rw [List.drop_of_length_le (by omega)] at hRR
                have hR1 : R = -1 := hRR
                rw [hR1] at B
                refine j_know (pick_know (P := PCK X.1 z rt p3 m3 bb cc9 kc9) (by repeat (first | with_reducible exact pick_0 | with_reducible apply pick_s)) pck_know) (fun hcy => ?_)
                refine j_open (P := VLS X.1 z vl vs np nb capV) (by repeat (first | with_reducible exact pick_0 | with_reducible apply pick_s)) vls_open ?_
                rintro al -
                dsimp only [VLSo, List.cons_append, List.nil_append]
                refine j_open (P := VSL X.1 z 0 vs) (by repeat (first | with_reducible exact pick_0 | with_reducible apply pick_s)) (vsl_open he) ?_
                rintro _ -
                dsimp only [List.cons_append, List.nil_append]
                refine j_open (by repeat (first | with_reducible exact pick_0 | with_reducible apply pick_s)) valc_open ?_
                rintro ⟨bq, pq, xf⟩ hx
                dsimp only [VALo, List.cons_append, List.nil_append] at hx ⊢
                refine j_iload E 70 dX7_find_68 rfl rfl ?_
                refine j_iconst E (1) 71 dX7_find_70 (by decide) rfl ?_
                refine j_iadd E 72 dX7_find_71 rfl ?_
                refine j_eqi (nI_1 i) ?_
                refine j_aload_n E 73 dX7_find_72 3 rfl rfl rfl ?_
                refine j_getfN E 76 dX7_find_73 fl_X7_191 (by repeat (first | with_reducible exact pick_0 | with_reducible apply pick_s)) (by rfl) rfl ?_
                refine j_icmp_ge E 138 79 dX7_find_76 (by decide) rfl (fun h76 => ?_) (fun h76 => ?_)
                · refine j_iconst E (-1) 139 dX7_find_138 (by decide) rfl ?_
                  refine valc_close ev _ (by repeat (first | with_reducible exact pick_0 | with_reducible apply pick_s | exact sel_0 | apply sel_s)) rfl hx ?_
                  refine j_close (by repeat (first | with_reducible exact pick_0 | with_reducible apply pick_s | exact sel_0 | apply sel_s)) (vsl_back he) ?_
                  refine j_close (by repeat (first | with_reducible exact pick_0 | with_reducible apply pick_s | exact sel_0 | apply sel_s)) vls_of ?_
                  refine pga_close (us) (by repeat (first | with_reducible exact pick_0 | with_reducible apply pick_s | exact sel_0 | apply sel_s)) hok hvt htz ?_
                  exact j_iret E B rfl kk nn dX7_find_139 (by repeat (first | with_reducible exact pick_0 | with_reducible apply pick_s | exact sel_0 | apply sel_s)) ⟨_, _, rfl, rfl, rfl, by omega, by omega, by omega, by omega⟩ (by omega) (by omega) (by omega) (by omega)
                · exact absurd (nI_le (by omega) (by omega)) h76
              | succ q ih =>
                intro i bb cc9 kc9 kk nn hq hRR hK hS hkM hnN
                rw [drop2 (by omega), findV_even] at hRR
                refine j_know (pick_know (P := PCK X.1 z rt p3 m3 bb cc9 kc9) (by repeat (first | with_reducible exact pick_0 | with_reducible apply pick_s)) pck_know) (fun hcy => ?_)
                refine j_open (P := VLS X.1 z vl vs np nb capV) (by repeat (first | with_reducible exact pick_0 | with_reducible apply pick_s)) vls_open ?_
                rintro al -
                dsimp only [VLSo, List.cons_append, List.nil_append]
                refine j_open (P := VSL X.1 z 0 vs) (by repeat (first | with_reducible exact pick_0 | with_reducible apply pick_s)) (vsl_open he) ?_
                rintro _ -
                dsimp only [List.cons_append, List.nil_append]
                refine j_open (by repeat (first | with_reducible exact pick_0 | with_reducible apply pick_s)) valc_open ?_
                rintro ⟨bq, pq, xf⟩ hx
                dsimp only [VALo, List.cons_append, List.nil_append] at hx ⊢
                refine j_iload E 70 dX7_find_68 rfl rfl ?_
                refine j_iconst E (1) 71 dX7_find_70 (by decide) rfl ?_
                refine j_iadd E 72 dX7_find_71 rfl ?_
                refine j_eqi (nI_1 i) ?_
                refine j_aload_n E 73 dX7_find_72 3 rfl rfl rfl ?_
                refine j_getfN E 76 dX7_find_73 fl_X7_191 (by repeat (first | with_reducible exact pick_0 | with_reducible apply pick_s)) (by rfl) rfl ?_
                refine j_icmp_ge E 138 79 dX7_find_76 (by decide) rfl (fun h76 => ?_) (fun h76 => ?_)
                · exact absurd h76 (nI_ge (by omega) (by omega))
                · have hcapP : 0 < pcap ev.2.2.2.2.length := by omega
                  have hci : ev.2.2.2.2.getD i 0 < us.length := hpar _ (by rw [List.getD_eq_getElem?_getD, List.getElem?_eq_getElem (show i < ev.2.2.2.2.length by omega)]; exact List.getElem_mem _)
                  obtain ⟨⟨ga, gv, gt⟩, hg⟩ : ∃ e, vs[ev.2.2.2.2.getD i 0]? = some e := ⟨_, List.getElem?_eq_getElem (by omega)⟩
                  refine j_aload_n E 80 dX7_find_79 0 rfl rfl rfl ?_
                  refine j_getf E 83 dX7_find_80 fl_X7_40 (by repeat (first | with_reducible exact pick_0 | with_reducible apply pick_s)) (by rfl) rfl ?_
                  refine j_aload_n E 84 dX7_find_83 0 rfl rfl rfl ?_
                  refine j_getf E 87 dX7_find_84 fl_X7_19 (by repeat (first | with_reducible exact pick_0 | with_reducible apply pick_s)) (by rfl) rfl ?_
                  refine j_aload_n E 88 dX7_find_87 3 rfl rfl rfl ?_
                  refine j_getfN E 91 dX7_find_88 fl_X7_194 (by repeat (first | with_reducible exact pick_0 | with_reducible apply pick_s)) (by rfl) rfl ?_
                  refine j_open (by repeat (first | with_reducible exact pick_0 | with_reducible apply pick_s)) (prt_open hcapP) ?_
                  rintro _ -
                  dsimp only [List.cons_append, List.nil_append]
                  refine j_iload E 93 dX7_find_91 rfl rfl ?_
                  refine j_iald E 94 dX7_find_93 (by repeat (first | with_reducible exact pick_0 | with_reducible apply pick_s)) (vp_in_nI (by omega) (by omega)) rfl ?_
                  refine j_eqi (y := nI (ev.2.2.2.2.getD i 0)) (by rw [nI_clamp (by omega)]; exact hx.2.2.2 i (by omega)) ?_
                  refine j_close (by repeat (first | with_reducible exact pick_0 | with_reducible apply pick_s | exact sel_0 | apply sel_s)) (prt_of (z := z) hcapP) ?_
                  refine valc_close ev _ (by repeat (first | with_reducible exact pick_0 | with_reducible apply pick_s | exact sel_0 | apply sel_s)) rfl hx ?_
                  refine j_close (by repeat (first | with_reducible exact pick_0 | with_reducible apply pick_s | exact sel_0 | apply sel_s)) (vsl_back he) ?_
                  refine j_close (by repeat (first | with_reducible exact pick_0 | with_reducible apply pick_s | exact sel_0 | apply sel_s)) vls_of ?_
                  refine j_iload E 96 dX7_find_94 rfl rfl ?_
                  refine j_callV E (c_pk_write hA (d-1) (M - kk) (N - nn) rt p3 m3 vl p.length cc9 kc9 capV np nb (ev.2.2.2.2.getD i 0) ga gv gt bb vs (by omega) hvs hg hpl (by omega) (by omega)) 99 dX7_find_96 _ _ _ iv_X7_93 rfl rfl rfl (by repeat (first | with_reducible exact pick_0 | with_reducible apply pick_s | exact sel_0 | apply sel_s)) (by omega) (by omega) (by omega) (Nat.le_of_ble_eq_true rfl) rfl ?_
                  rintro _ ydc yds _ ⟨ycap, ycC, rfl, rfl, y1, y2, y3, y4⟩
                  dsimp only [List.cons_append, List.nil_append, Option.toList]
                  rw [hvt]
                  refine j_know (pick_know (P := PCK X.1 z rt p3 m3 _ ycap ycC) (by repeat (first | with_reducible exact pick_0 | with_reducible apply pick_s)) pck_know) (fun hcz => ?_)
                  have hlim := packU_lim (us := us) (j := ev.2.2.2.2.getD i 0) hpl (Nat.le_refl p.length)
                  have nxt : ¬ packU us 65536 (ev.2.2.2.2.getD i 0) = some p → ∀ bz : List UInt8, J X 6 [PCK X.1 z lf p2 m2 p xcap xcC, PGF x tp vl rd ou lf rt, ROW X.1 tp tape capT, VLS X.1 z vl vs np nb capV, RDR rd ld gr e0 (nI cd) (nI pl), LEAx ld, LST X.1 z gr [] capG, PCK X.1 z ou p1 m1 out c1 k1, PCK X.1 z rt p3 m3 bz ycap ycC, F] (kk + ydc) (nn + yds) 132 [some (.ref x), some (.int (nI j)), some (.int (nI i0)), some (.ref ea), some (.int (nI p.length)), some (.int (nI i))] [] := by
                    intro qn bz
                    rw [if_neg qn] at hRR
                    refine j_iinc E _ 135 dX7_find_132 rfl rfl (Nat.le_of_ble_eq_true rfl) rfl rfl ?_
                    dsimp only [List.set]
                    refine j_goto E 68 dX7_find_135 (by decide) ?_
                    have hz := ih (i + 2) bz ycap ycC (kk + ydc) (nn + yds) (by omega) hRR (by omega) (by omega) (by omega) (by omega)
                    rw [← nI_add] at hz
                    exact hz
                  rcases hp2 : packU us p.length (ev.2.2.2.2.getD i 0) with _ | p9
                  · dsimp only [Option.isSome_none, Option.getD_none]
                    refine j_if_eq E 132 102 dX7_find_99 (by decide) rfl (fun h99 => ?_) (fun h99 => ?_)
                    · exact j_sel (by repeat (first | with_reducible exact pick_0 | with_reducible apply pick_s | exact sel_0 | apply sel_s)) (nxt (fun q => by rw [← hlim, hp2] at q; cases q) _)
                    · exact absurd rfl h99
                  · dsimp only [Option.isSome_some, Option.getD_some]
                    refine j_if_eq E 132 102 dX7_find_99 (by decide) rfl (fun h99 => ?_) (fun h99 => ?_)
                    · exact absurd h99 (by decide)
                    · refine j_open (P := PCK X.1 z lf p2 m2 p xcap xcC) (by repeat (first | with_reducible exact pick_0 | with_reducible apply pick_s)) pck_open ?_
                      rintro ⟨mo, fl⟩ -
                      dsimp only [List.cons_append, List.nil_append]
                      refine j_open (P := PCK X.1 z rt p3 m3 p9 ycap ycC) (by repeat (first | with_reducible exact pick_0 | with_reducible apply pick_s)) pck_open ?_
                      rintro ⟨mo2, fl2⟩ -
                      dsimp only [List.cons_append, List.nil_append]
                      refine j_aload_n E 103 dX7_find_102 0 rfl rfl rfl ?_
                      refine j_getf E 106 dX7_find_103 fl_X7_37 (by repeat (first | with_reducible exact pick_0 | with_reducible apply pick_s)) (by rfl) rfl ?_
                      refine j_getfF E 109 dX7_find_106 fl_X7_99 (by repeat (first | with_reducible exact pick_0 | with_reducible apply pick_s)) (by rfl) rfl ?_
                      refine j_aload_n E 110 dX7_find_109 0 rfl rfl rfl ?_
                      refine j_getf E 113 dX7_find_110 fl_X7_40 (by repeat (first | with_reducible exact pick_0 | with_reducible apply pick_s)) (by rfl) rfl ?_
                      refine j_getfF E 116 dX7_find_113 fl_X7_99 (by repeat (first | with_reducible exact pick_0 | with_reducible apply pick_s)) (by rfl) rfl ?_
                      refine j_callV E (c_row_same hG (d-1) p2 xcap p3 ycap p p9) 119 dX7_find_116 _ _ _ iv_X7_202 rfl rfl rfl (by repeat (first | with_reducible exact pick_0 | with_reducible apply pick_s | exact sel_0 | apply sel_s)) (by omega) (by omega) (by omega) (Nat.le_of_ble_eq_true rfl) rfl ?_
                      rintro _ _ _ _ ⟨rfl, rfl, rfl, rfl⟩
                      dsimp only [List.cons_append, List.nil_append, Option.toList]
                      refine j_close (by repeat (first | with_reducible exact pick_0 | with_reducible apply pick_s | exact sel_0 | apply sel_s)) (pck_of (g := X.1) (z := z) (pk := lf) (pr := p2) (cm := m2) (cap := xcap) (capC := xcC) (bs := p) (mo := mo) (fa := fl)) ?_
                      refine j_close (by repeat (first | with_reducible exact pick_0 | with_reducible apply pick_s | exact sel_0 | apply sel_s)) (pck_of (g := X.1) (z := z) (pk := rt) (pr := p3) (cm := m3) (cap := ycap) (capC := ycC) (bs := p9) (mo := mo2) (fa := fl2)) ?_
                      by_cases qe : p = p9
                      · rw [if_pos qe]
                        subst qe
                        have hRv : R = nI (ev.2.2.2.2.getD (i + 1) 0) := by rw [hRR, if_pos (hlim.mp hp2)]
                        rw [hRv] at B
                        refine j_if_eq E 132 122 dX7_find_119 (by decide) rfl (fun h119 => ?_) (fun h119 => ?_)
                        · exact absurd h119 (by decide)
                        · refine j_open (P := VLS X.1 z vl vs np nb capV) (by repeat (first | with_reducible exact pick_0 | with_reducible apply pick_s)) vls_open ?_
                          rintro al -
                          dsimp only [VLSo, List.cons_append, List.nil_append]
                          refine j_open (P := VSL X.1 z 0 vs) (by repeat (first | with_reducible exact pick_0 | with_reducible apply pick_s)) (vsl_open he) ?_
                          rintro _ -
                          dsimp only [List.cons_append, List.nil_append]
                          refine j_open (by repeat (first | with_reducible exact pick_0 | with_reducible apply pick_s)) valc_open ?_
                          rintro ⟨bq, pq, xf⟩ hx
                          dsimp only [VALo, List.cons_append, List.nil_append] at hx ⊢
                          refine j_aload_n E 123 dX7_find_122 3 rfl rfl rfl ?_
                          refine j_getfN E 126 dX7_find_123 fl_X7_194 (by repeat (first | with_reducible exact pick_0 | with_reducible apply pick_s)) (by rfl) rfl ?_
                          refine j_open (by repeat (first | with_reducible exact pick_0 | with_reducible apply pick_s)) (prt_open hcapP) ?_
                          rintro _ -
                          dsimp only [List.cons_append, List.nil_append]
                          refine j_iload E 128 dX7_find_126 rfl rfl ?_
                          refine j_iconst E (1) 129 dX7_find_128 (by decide) rfl ?_
                          refine j_iadd E 130 dX7_find_129 rfl ?_
                          refine j_eqi (nI_1 i) ?_
                          refine j_iald E 131 dX7_find_130 (by repeat (first | with_reducible exact pick_0 | with_reducible apply pick_s)) (vp_in_nI (by omega) (by omega)) rfl ?_
                          refine j_eqi (y := nI (ev.2.2.2.2.getD (i + 1) 0)) (by rw [nI_clamp (by omega)]; exact hx.2.2.2 (i + 1) (by omega)) ?_
                          refine j_close (by repeat (first | with_reducible exact pick_0 | with_reducible apply pick_s | exact sel_0 | apply sel_s)) (prt_of (z := z) hcapP) ?_
                          refine valc_close ev _ (by repeat (first | with_reducible exact pick_0 | with_reducible apply pick_s | exact sel_0 | apply sel_s)) rfl hx ?_
                          refine j_close (by repeat (first | with_reducible exact pick_0 | with_reducible apply pick_s | exact sel_0 | apply sel_s)) (vsl_back he) ?_
                          refine j_close (by repeat (first | with_reducible exact pick_0 | with_reducible apply pick_s | exact sel_0 | apply sel_s)) vls_of ?_
                          refine pga_close (us) (by repeat (first | with_reducible exact pick_0 | with_reducible apply pick_s | exact sel_0 | apply sel_s)) hok hvt htz ?_
                          exact j_iret E B rfl (kk + ydc) (nn + yds) dX7_find_131 (by repeat (first | with_reducible exact pick_0 | with_reducible apply pick_s | exact sel_0 | apply sel_s)) ⟨_, _, rfl, rfl, rfl, by omega, by omega, by omega, by omega⟩ (by omega) (by omega) (by omega) (by omega)
                      · rw [if_neg qe]
                        refine j_if_eq E 132 122 dX7_find_119 (by decide) rfl (fun h119 => ?_) (fun h119 => ?_)
                        · refine j_widen (k' := kk + ydc) (n' := nn + yds) (by omega) (by omega) ?_
                          exact j_sel (by repeat (first | with_reducible exact pick_0 | with_reducible apply pick_s | exact sel_0 | apply sel_s)) (nxt (fun q => by rw [← hlim, hp2] at q; cases q; exact qe rfl) _)
                        · exact absurd rfl h119
            refine j_widen (k' := xdc) (n' := xds) (by omega) (by omega) ?_
            exact j_sel (by repeat (first | with_reducible exact pick_0 | with_reducible apply pick_s | exact sel_0 | apply sel_s)) (loop (ev.2.2.2.2.length / 2) 0 b3 c3 k3 xdc xds (by omega) hR (by omega) (by omega) (by omega) (by omega))
          · exact absurd h31 (by decide)
      · rintro En _ _ _ ⟨qk, rfl, rfl, rfl, rfl⟩
        dsimp only [List.cons_append, List.nil_append] at qk ⊢
        have e9 : sFind (nI j) (nI i0) (tape, us, np, nb, out, cd, pl) = (2, 0, (tape, us, np, nb, out, cd, pl)) := by
          unfold sFind
          dsimp only
          rw [if_neg (fun q => q.elim (fun q => q qb1) (fun q => q qb2)), nI_clamp (by omega), hev, if_pos qk]
        rw [e9] at B
        refine pgax_close us (by repeat (first | with_reducible exact pick_0 | with_reducible apply pick_s | exact sel_0 | apply sel_s)) hok hvt htz ?_
        exact jx_out E B T 1 6 (by repeat (first | with_reducible exact pick_0 | with_reducible apply pick_s | exact sel_0 | apply sel_s)) ⟨_, _, mm1, rfl, by omega, by omega, by omega, by omega⟩ (by omega) (by omega) (by omega) (by omega)
    · rintro En _ _ _ ⟨qn, rfl, rfl, rfl, rfl⟩
      dsimp only [List.cons_append, List.nil_append]
      rw [hlen] at qn
      have e9 : sFind m c (tape, us, np, nb, out, cd, pl) = (1, 0, (tape, us, np, nb, out, cd, pl)) := if_pos (Or.inr (by dsimp only; rw [qn]; decide))
      rw [e9] at B
      refine pgax_close us (by repeat (first | with_reducible exact pick_0 | with_reducible apply pick_s | exact sel_0 | apply sel_s)) hok hvt htz ?_
      exact jx_out E B T 1 6 (by repeat (first | with_reducible exact pick_0 | with_reducible apply pick_s | exact sel_0 | apply sel_s)) ⟨_, _, mm0, rfl, by omega, by omega, by omega, by omega⟩ (by omega) (by omega) (by omega) (by omega)
  · rintro En _ _ _ ⟨qn, rfl, rfl, rfl, rfl⟩
    dsimp only [List.cons_append, List.nil_append]
    rw [hlen] at qn
    have e9 : sFind m c (tape, us, np, nb, out, cd, pl) = (1, 0, (tape, us, np, nb, out, cd, pl)) := if_pos (Or.inl (by dsimp only; rw [qn]; decide))
    rw [e9] at B
    refine pgax_close us (by repeat (first | with_reducible exact pick_0 | with_reducible apply pick_s | exact sel_0 | apply sel_s)) hok hvt htz ?_
    exact jx_out E B T 1 6 (by repeat (first | with_reducible exact pick_0 | with_reducible apply pick_s | exact sel_0 | apply sel_s)) ⟨_, _, mm0, rfl, by omega, by omega, by omega, by omega⟩ (by omega) (by omega) (by omega) (by omega)

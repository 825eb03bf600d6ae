/-! Packer: writeValue -/
theorem pkMany_none {rd : Nat → PS → PS} {come : List Nat} : ∀ ps : List Nat, pkMany rd ps (none, come) = (none, come)
  | [] => rfl
  | _ :: _ => rfl
theorem pkMany_cons {rd : Nat → PS → PS} {p : Nat} {ps : List Nat} {s : PS} {q : List UInt8} (h : s.1 = some q) : pkMany rd (p :: ps) s = pkMany rd ps (rd p s) := by
  rw [pkMany]
  obtain ⟨s1, s2⟩ := s
  dsimp only at h
  subst h
  rfl
/-- what writeValue keeps -/
def WVC (g : GT) (z : Nat → Nat) (f : Nat) : Prop :=
  ∀ (d M N pk pr cm vl most cap capC capV np nb j a : Nat) (v : VT) (t : Int32) (vs : List VE) (s : PS), f + 14 ≤ d → VSOK vs → vs[j]? = some (a, v, t) → COk vs.length s.2 → most ≤ 65536 → 1935680 ≤ 320 * M + 5 * cap + 64 * capC → 500000 ≤ N + 2 * cap + 4 * capC →
    CtrV g mX3_writeValue 2 d M N pk [.ref vl, .ref a, .int (nI (24 - f))] [PKO g pk pr cm most s.1 cap, LST g z cm (gad vs s.2) capC, VLS g z vl (tvs vs (tn s.2)) np nb capV] (PKQ g z pk pr cm vl most cap capC capV np nb M N vs (pkV (vts vs) most f j s)) noX
theorem wv_some {m : Nat} (h : m < 2 ^ 31) : ¬ nI m = -1 := nI_m1 h
set_option maxHeartbeats 16000000 in
theorem c_pk_value {g : GT} {z : Nat → Nat} (hA : GA g z) {f : Nat} (hf24 : f ≤ 24) (hrec : ∀ f', f = f' + 1 → WVC g z f') : WVC g z f := by
  intro d M N pk pr cm vl most cap capC capV np nb j a v t vs s hd hv hj hc hm hM hN
  refine ⟨pko_rcv, ?_⟩
  have hG := hA.1
  obtain ⟨st, come⟩ := s
  obtain ⟨kd, nm, dt, bs, ps⟩ := v
  dsimp only at hc ⊢
  refine ctr_intro hG (by decide +kernel) (Nat.le_of_ble_eq_true rfl) ?_
  rintro X F rfl E B hI T
  replace E : JE X RX3 cX3_writeValue 5 d M N := E
  show J X _ [PKO X.1 pk pr cm most st cap, LST X.1 z cm (gad vs come) capC, VLS X.1 z vl (tvs vs (tn come)) np nb capV, F] 0 0 0 [some (.ref pk), some (.ref vl), some (.ref a), some (.int (nI (24 - f))), none] []
  refine j_know (pick_know (P := PKO X.1 pk pr cm most st cap) (by repeat (first | with_reducible exact pick_0 | with_reducible apply pick_s)) pko_know) (fun hcap => ?_)
  refine j_know (pick_know (P := LST X.1 z cm (gad vs come) capC) (by repeat (first | with_reducible exact pick_0 | with_reducible apply pick_s)) lst_know) (fun hcC => ?_)
  have hvt : VTok vs.length 6000 (kd, nm, dt, bs, ps) := (hv.2 _ (List.mem_of_getElem? hj)).1
  have hjl : j < vs.length := (List.getElem?_eq_some_iff.mp hj).1
  have hv3 := hv.1
  have hk10 : kd ≤ 10 := hvt.1
  have hbl : bs.length ≤ 65536 := hvt.2.1
  have hvA : vAt (vts vs) j = (kd, nm, dt, bs, ps) := vAt_of hj
  have hsp : ∀ R : PS, R = pkV (vts vs) most f j (st, come) → True := fun _ _ => trivial
  refine j_open (P := VLS X.1 z vl (tvs vs (tn come)) np nb capV) (by repeat (first | with_reducible exact pick_0 | with_reducible apply pick_s)) vls_open ?_
  rintro al -
  dsimp only [VLSo, List.cons_append, List.nil_append]
  refine j_open (P := VSL X.1 z 0 (tvs vs (tn come))) (by repeat (first | with_reducible exact pick_0 | with_reducible apply pick_s)) (vsl_open (tvs_at hj)) ?_
  rintro _ -
  dsimp only [List.cons_append, List.nil_append]
  refine j_open (by repeat (first | with_reducible exact pick_0 | with_reducible apply pick_s)) valc_open ?_
  rintro ⟨bq, pq, xf⟩ hx
  dsimp only [VALo, List.cons_append, List.nil_append] at hx ⊢
  by_cases hjc : j ∈ come
  · have e9 : pkV (vts vs) most f j (st, come) = (wr most st (refE (come.idxOf j)), come) := by
      cases f <;> (rw [pkV, pkOne]; dsimp only; rw [if_pos hjc])
    rw [e9] at B
    have htn : tn come j = nI (come.idxOf j) := if_pos hjc
    have hix : come.idxOf j < come.length := List.idxOf_lt_length_of_mem hjc
    have hcl := hc.len
    refine j_aload_n E 1 dX3_writeValue_0 2 rfl rfl rfl ?_
    refine j_getfN E 4 dX3_writeValue_1 fl_X3_57 (by repeat (first | with_reducible exact pick_0 | with_reducible apply pick_s)) (by rfl) rfl ?_
    refine j_iconst E (-1) 5 dX3_writeValue_4 (by decide) rfl ?_
    refine j_icmp_eq E 17 8 dX3_writeValue_5 (by decide) rfl (fun h5 => ?_) (fun h5 => ?_)
    · exact absurd (htn.symm.trans h5) (nI_m1 (by omega))
    · refine j_aload_n E 9 dX3_writeValue_8 0 rfl rfl rfl ?_
      refine j_aload_n E 10 dX3_writeValue_9 2 rfl rfl rfl ?_
      refine j_getfN E 13 dX3_writeValue_10 fl_X3_57 (by repeat (first | with_reducible exact pick_0 | with_reducible apply pick_s)) (by rfl) rfl ?_
      refine j_eqi htn ?_
      refine valc_close (kd, nm, dt, bs, ps) _ (by repeat (first | with_reducible exact pick_0 | with_reducible apply pick_s | exact sel_0 | apply sel_s)) rfl hx ?_
      refine j_close (by repeat (first | with_reducible exact pick_0 | with_reducible apply pick_s | exact sel_0 | apply sel_s)) (vsl_back (L := tvs vs (tn come)) (tvs_at hj)) ?_
      refine j_close (by repeat (first | with_reducible exact pick_0 | with_reducible apply pick_s | exact sel_0 | apply sel_s)) vls_of ?_
      refine j_callV E (c_pk_ref hG (d-1) M N pk pr cm most cap (come.idxOf j) st (by omega) (by omega) hm (by omega) (by omega)) 16 dX3_writeValue_13 _ _ _ iv_X3_63 rfl rfl rfl (by repeat (first | with_reducible exact pick_0 | with_reducible apply pick_s | exact sel_0 | apply sel_s)) (by omega) (by omega) (by omega) (Nat.le_of_ble_eq_true rfl) rfl ?_
      rintro _ xadc xads _ ⟨xacap, rfl, rfl, xa1, xa2, xa3, xa4⟩
      dsimp only [List.cons_append, List.nil_append, Option.toList]
      exact j_vret E B rfl xadc xads dX3_writeValue_16 (by repeat (first | with_reducible exact pick_0 | with_reducible apply pick_s | exact sel_0 | apply sel_s)) ⟨xacap, capC, rfl, rfl, by omega, by omega, by omega, by omega⟩ (by omega) (by omega) (by omega) (by omega)
  · have htn : tn come j = -1 := if_neg hjc
    refine j_aload_n E 1 dX3_writeValue_0 2 rfl rfl rfl ?_
    refine j_getfN E 4 dX3_writeValue_1 fl_X3_57 (by repeat (first | with_reducible exact pick_0 | with_reducible apply pick_s)) (by rfl) rfl ?_
    refine j_iconst E (-1) 5 dX3_writeValue_4 (by decide) rfl ?_
    refine j_icmp_eq E 17 8 dX3_writeValue_5 (by decide) rfl (fun h5 => ?_) (fun h5 => ?_)
    · refine j_aload_n E 18 dX3_writeValue_17 2 rfl rfl rfl ?_
      refine j_getfF E 21 dX3_writeValue_18 fl_X3_66 (by repeat (first | with_reducible exact pick_0 | with_reducible apply pick_s)) (by rfl) rfl ?_
      by_cases hg : kd = 7 ∨ kd = 8
      · refine valc_close (kd, nm, dt, bs, ps) _ (by repeat (first | with_reducible exact pick_0 | with_reducible apply pick_s | exact sel_0 | apply sel_s)) rfl hx ?_
        refine j_close (by repeat (first | with_reducible exact pick_0 | with_reducible apply pick_s | exact sel_0 | apply sel_s)) (vsl_back (L := tvs vs (tn come)) (tvs_at hj)) ?_
        refine j_close (by repeat (first | with_reducible exact pick_0 | with_reducible apply pick_s | exact sel_0 | apply sel_s)) vls_of ?_
        obtain ⟨rd, s1, hrd, hs1, hR⟩ : ∃ (rd : Nat → PS → PS) (s1 : PS), (s1.1 = none ∨ ∃ f', f = f' + 1 ∧ rd = pkV (vts vs) most f') ∧ s1 = (if 24 ≤ 24 - f then (none, come) else (wr most st (grpE (kd, nm, dt, bs, ps)), come ++ [j])) ∧ pkV (vts vs) most f j (st, come) = pkMany rd ps s1 := by
          rcases f with _ | f'
          · refine ⟨fun _ s => s, (none, come), Or.inl rfl, rfl, ?_⟩
            rw [pkV, pkOne, hvA]
            dsimp only
            rw [if_neg hjc, if_pos hg, pkMany_none]
          · refine ⟨pkV (vts vs) most f', (wr most st (grpE (kd, nm, dt, bs, ps)), come ++ [j]), Or.inr ⟨f', rfl, rfl⟩, (if_neg (by omega)).symm, ?_⟩
            rw [pkV, pkOne, hvA]
            dsimp only
            rw [if_neg hjc, if_pos hg]
        rw [hR] at B
        have hco1 : COk vs.length s1.2 := by
          rw [hs1]
          split
          · exact hc
          · exact hc.push hjl hjc
        obtain ⟨R, hR2⟩ : ∃ R, R = pkMany rd ps s1 := ⟨_, rfl⟩
        rw [← hR2] at B
        have loop : ∀ (q i : Nat) (s2 : PS) (cap2 capC2 kk nn : Nat), i + q = ps.length → (s2.1 = none ∨ ∃ f', f = f' + 1 ∧ rd = pkV (vts vs) most f') → COk vs.length s2.2 → R = pkMany rd (ps.drop i) s2 → 320 * kk + 5 * cap + 64 * capC ≤ 5 * cap2 + 64 * capC2 → nn + 2 * cap + 4 * capC ≤ 2 * cap2 + 4 * capC2 → kk ≤ M → nn ≤ N → J X 5 [PKO X.1 pk pr cm most s2.1 cap2, LST X.1 z cm (gad vs s2.2) capC2, VLS X.1 z vl (tvs vs (tn s2.2)) np nb capV, F] kk nn 188 [some (.ref pk), some (.ref vl), some (.ref a), some (.int (nI (24 - f))), some (.int (nI i))] [] := by
          intro q
          induction q with
          | zero =>
            intro i s2 cap2 capC2 kk nn hq hrd2 hc2 hRR hK hS hkM hnN
            refine j_know (pick_know (P := PKO X.1 pk pr cm most s2.1 cap2) (by repeat (first | with_reducible exact pick_0 | with_reducible apply pick_s)) pko_know) (fun hcap2 => ?_)
            refine j_know (pick_know (P := LST X.1 z cm (gad vs s2.2) capC2) (by repeat (first | with_reducible exact pick_0 | with_reducible apply pick_s)) lst_know) (fun hcC2 => ?_)
            rw [List.drop_of_length_le (by omega)] at hRR
            rw [pkMany] at hRR
            rw [hRR] at B
            refine j_open (P := VLS X.1 z vl (tvs vs (tn s2.2)) np nb capV) (by repeat (first | with_reducible exact pick_0 | with_reducible apply pick_s)) vls_open ?_
            rintro al2 -
            dsimp only [VLSo, List.cons_append, List.nil_append]
            refine j_open (P := VSL X.1 z 0 (tvs vs (tn s2.2))) (by repeat (first | with_reducible exact pick_0 | with_reducible apply pick_s)) (vsl_open (tvs_at hj)) ?_
            rintro _ -
            dsimp only [List.cons_append, List.nil_append]
            refine j_open (by repeat (first | with_reducible exact pick_0 | with_reducible apply pick_s)) valc_open ?_
            rintro ⟨bq2, pq2, xf2⟩ hx2
            dsimp only [VALo, List.cons_append, List.nil_append] at hx2 ⊢
            refine j_iload E 190 dX3_writeValue_188 rfl rfl ?_
            refine j_aload_n E 191 dX3_writeValue_190 2 rfl rfl rfl ?_
            refine j_getfN E 194 dX3_writeValue_191 fl_X3_101 (by repeat (first | with_reducible exact pick_0 | with_reducible apply pick_s)) (by rfl) rfl ?_
            refine j_icmp_ge E 229 197 dX3_writeValue_194 (by decide) rfl (fun h194 => ?_) (fun h194 => ?_)
            · refine valc_close (kd, nm, dt, bs, ps) _ (by repeat (first | with_reducible exact pick_0 | with_reducible apply pick_s | exact sel_0 | apply sel_s)) rfl hx2 ?_
              refine j_close (by repeat (first | with_reducible exact pick_0 | with_reducible apply pick_s | exact sel_0 | apply sel_s)) (vsl_back (L := tvs vs (tn s2.2)) (tvs_at hj)) ?_
              refine j_close (by repeat (first | with_reducible exact pick_0 | with_reducible apply pick_s | exact sel_0 | apply sel_s)) vls_of ?_
              refine j_goto E 237 dX3_writeValue_229 (by decide) ?_
              exact j_vret E B rfl kk nn dX3_writeValue_237 (by repeat (first | with_reducible exact pick_0 | with_reducible apply pick_s | exact sel_0 | apply sel_s)) ⟨cap2, capC2, rfl, rfl, hK, hS, hkM, hnN⟩ (by omega) (by omega) (by omega) (by omega)
            · exact absurd (nI_le (by omega) (by have := hvt.2.2.1; dsimp only at this; omega)) h194
          | succ q ih =>
            intro i s2 cap2 capC2 kk nn hq hrd2 hc2 hRR hK hS hkM hnN
            refine j_know (pick_know (P := PKO X.1 pk pr cm most s2.1 cap2) (by repeat (first | with_reducible exact pick_0 | with_reducible apply pick_s)) pko_know) (fun hcap2 => ?_)
            refine j_know (pick_know (P := LST X.1 z cm (gad vs s2.2) capC2) (by repeat (first | with_reducible exact pick_0 | with_reducible apply pick_s)) lst_know) (fun hcC2 => ?_)
            have hi : i < ps.length := by omega
            have hps : ps.length ≤ 6000 := hvt.2.2.1
            have hdr : ps.drop i = ps.getD i 0 :: ps.drop (i + 1) := by
              rw [List.drop_eq_getElem_cons hi, List.getD_eq_getElem?_getD, List.getElem?_eq_getElem hi]
              rfl
            rw [hdr] at hRR
            refine j_open (P := VLS X.1 z vl (tvs vs (tn s2.2)) np nb capV) (by repeat (first | with_reducible exact pick_0 | with_reducible apply pick_s)) vls_open ?_
            rintro al2 -
            dsimp only [VLSo, List.cons_append, List.nil_append]
            refine j_open (P := VSL X.1 z 0 (tvs vs (tn s2.2))) (by repeat (first | with_reducible exact pick_0 | with_reducible apply pick_s)) (vsl_open (tvs_at hj)) ?_
            rintro _ -
            dsimp only [List.cons_append, List.nil_append]
            refine j_open (by repeat (first | with_reducible exact pick_0 | with_reducible apply pick_s)) valc_open ?_
            rintro ⟨bq2, pq2, xf2⟩ hx2
            dsimp only [VALo, List.cons_append, List.nil_append] at hx2 ⊢
            refine j_iload E 190 dX3_writeValue_188 rfl rfl ?_
            refine j_aload_n E 191 dX3_writeValue_190 2 rfl rfl rfl ?_
            refine j_getfN E 194 dX3_writeValue_191 fl_X3_101 (by repeat (first | with_reducible exact pick_0 | with_reducible apply pick_s)) (by rfl) rfl ?_
            refine j_icmp_ge E 229 197 dX3_writeValue_194 (by decide) rfl (fun h194 => ?_) (fun h194 => ?_)
            · exact absurd h194 (nI_ge hi (by omega))
            · refine j_open (by repeat (first | with_reducible exact pick_0 | with_reducible apply pick_s)) pko_open ?_
              rintro bs9 hbs9
              dsimp only [List.cons_append, List.nil_append]
              rcases hs2 : s2.1 with _ | p9
              · have hRn : R = s2 := by
                  obtain ⟨u1, u2⟩ := s2
                  dsimp only at hs2
                  subst hs2
                  exact hRR
                rw [hRn] at B
                rw [hs2] at hbs9
                dsimp only [stF]
                refine j_aload_n E 198 dX3_writeValue_197 0 rfl rfl rfl ?_
                refine j_getf E 201 dX3_writeValue_198 fl_X3_33 (by repeat (first | with_reducible exact pick_0 | with_reducible apply pick_s)) (by rfl) rfl ?_
                refine j_if_ne E 229 204 dX3_writeValue_201 (by decide) rfl (fun h201 => ?_) (fun h201 => ?_)
                · refine pko_close none bs9 (by repeat (first | with_reducible exact pick_0 | with_reducible apply pick_s | exact sel_0 | apply sel_s)) (by rfl) hbs9 ?_
                  rw [← hs2]
                  refine valc_close (kd, nm, dt, bs, ps) _ (by repeat (first | with_reducible exact pick_0 | with_reducible apply pick_s | exact sel_0 | apply sel_s)) rfl hx2 ?_
                  refine j_close (by repeat (first | with_reducible exact pick_0 | with_reducible apply pick_s | exact sel_0 | apply sel_s)) (vsl_back (L := tvs vs (tn s2.2)) (tvs_at hj)) ?_
                  refine j_close (by repeat (first | with_reducible exact pick_0 | with_reducible apply pick_s | exact sel_0 | apply sel_s)) vls_of ?_
                  refine j_goto E 237 dX3_writeValue_229 (by decide) ?_
                  exact j_vret E B rfl kk nn dX3_writeValue_237 (by repeat (first | with_reducible exact pick_0 | with_reducible apply pick_s | exact sel_0 | apply sel_s)) ⟨cap2, capC2, rfl, rfl, hK, hS, hkM, hnN⟩ (by omega) (by omega) (by omega) (by omega)
                · exact absurd h201 (by decide)
              · rw [pkMany_cons hs2] at hRR
                rw [hs2] at hbs9
                dsimp only [stF]
                refine j_aload_n E 198 dX3_writeValue_197 0 rfl rfl rfl ?_
                refine j_getf E 201 dX3_writeValue_198 fl_X3_33 (by repeat (first | with_reducible exact pick_0 | with_reducible apply pick_s)) (by rfl) rfl ?_
                refine j_if_ne E 229 204 dX3_writeValue_201 (by decide) rfl (fun h201 => ?_) (fun h201 => ?_)
                · exact absurd rfl h201
                · refine pko_close (some p9) bs9 (by repeat (first | with_reducible exact pick_0 | with_reducible apply pick_s | exact sel_0 | apply sel_s)) (by rfl) hbs9 ?_
                  rw [← hs2]
                  obtain ⟨f', rfl, rfl⟩ := hrd2.resolve_left (by rw [hs2]; exact fun e => by cases e)
                  have hcapP : 0 < pcap ps.length := by
                    have := pcap_le ps.length
                    omega
                  have hpi : ps.getD i 0 < vs.length := hvt.2.2.2.1 _ (by
                    show ps.getD i 0 ∈ ps
                    rw [List.getD_eq_getElem?_getD, List.getElem?_eq_getElem hi]
                    exact List.getElem_mem hi)
                  obtain ⟨e2, he2⟩ : ∃ e2, vs[ps.getD i 0]? = some e2 := ⟨_, List.getElem?_eq_getElem hpi⟩
                  refine j_aload_n E 205 dX3_writeValue_204 0 rfl rfl rfl ?_
                  refine j_aload_n E 206 dX3_writeValue_205 1 rfl rfl rfl ?_
                  refine j_aload_n E 207 dX3_writeValue_206 1 rfl rfl rfl ?_
                  refine j_aload_n E 208 dX3_writeValue_207 2 rfl rfl rfl ?_
                  refine j_getfN E 211 dX3_writeValue_208 fl_X3_104 (by repeat (first | with_reducible exact pick_0 | with_reducible apply pick_s)) (by rfl) rfl ?_
                  refine j_open (by repeat (first | with_reducible exact pick_0 | with_reducible apply pick_s)) (prt_open hcapP) ?_
                  rintro _ -
                  dsimp only [List.cons_append, List.nil_append]
                  refine j_iload E 213 dX3_writeValue_211 rfl rfl ?_
                  refine j_iald E 214 dX3_writeValue_213 (by repeat (first | with_reducible exact pick_0 | with_reducible apply pick_s)) (vp_in_nI (by have := pcap_le ps.length; omega) (by have := pcap_le ps.length; omega)) rfl ?_
                  refine j_eqi (y := nI (ps.getD i 0)) (by rw [nI_clamp (by omega)]; exact hx2.2.2.2 i hi) ?_
                  refine j_close (by repeat (first | with_reducible exact pick_0 | with_reducible apply pick_s | exact sel_0 | apply sel_s)) (prt_of (z := z) hcapP) ?_
                  refine valc_close (kd, nm, dt, bs, ps) _ (by repeat (first | with_reducible exact pick_0 | with_reducible apply pick_s | exact sel_0 | apply sel_s)) rfl hx2 ?_
                  refine j_close (by repeat (first | with_reducible exact pick_0 | with_reducible apply pick_s | exact sel_0 | apply sel_s)) (vsl_back (L := tvs vs (tn s2.2)) (tvs_at hj)) ?_
                  refine j_close (by repeat (first | with_reducible exact pick_0 | with_reducible apply pick_s | exact sel_0 | apply sel_s)) vls_of ?_
                  refine j_callV E (c_vls_at (z := z) hG (d-1) vl np nb capV (ps.getD i 0) (by omega) (tvs vs (tn s2.2)) _ (tvs_at he2) (by rw [tvs_len]; omega)) 217 dX3_writeValue_214 _ _ _ iv_X3_37 rfl rfl rfl (by repeat (first | with_reducible exact pick_0 | with_reducible apply pick_s | exact sel_0 | apply sel_s)) (by omega) (by omega) (by omega) (Nat.le_of_ble_eq_true rfl) rfl ?_
                  rintro _ _ _ _ ⟨rfl, rfl, rfl, rfl⟩
                  dsimp only [List.cons_append, List.nil_append, Option.toList]
                  refine j_iload_n E 218 dX3_writeValue_217 3 rfl rfl rfl ?_
                  refine j_iconst E (1) 219 dX3_writeValue_218 (by decide) rfl ?_
                  refine j_iadd E 220 dX3_writeValue_219 rfl ?_
                  refine j_eqi (y := nI (24 - f')) ((nI_1 _).trans (congrArg nI (by omega))) ?_
                  obtain ⟨a2, v2, t2⟩ := e2
                  refine j_callV E (hrec f' rfl (d-1) (M - kk) (N - nn) pk pr cm vl most cap2 capC2 capV np nb (ps.getD i 0) a2 v2 t2 vs s2 (by omega) hv he2 hc2 hm (by omega) (by omega)) 223 dX3_writeValue_220 _ _ _ iv_X3_43 rfl rfl rfl (by repeat (first | with_reducible exact pick_0 | with_reducible apply pick_s | exact sel_0 | apply sel_s)) (by omega) (by omega) (by omega) (Nat.le_of_ble_eq_true rfl) rfl ?_
                  rintro _ xdc xds _ ⟨xcap, xcC, rfl, rfl, g1, g2, g3, g4⟩
                  dsimp only [List.cons_append, List.nil_append, Option.toList]
                  refine j_iinc E _ 226 dX3_writeValue_223 rfl rfl (Nat.le_of_ble_eq_true rfl) rfl rfl ?_
                  dsimp only [List.set]
                  refine j_goto E 188 dX3_writeValue_226 (by decide) ?_
                  have hz := ih (i + 1) (pkV (vts vs) most f' (ps.getD i 0) s2) xcap xcC (kk + xdc) (nn + xds) (by omega) (Or.inr ⟨f', rfl, rfl⟩) (pkV_ok hv.parts f' _ hpi s2 hc2) hRR (by omega) (by omega) (by omega) (by omega)
                  rw [← nI_1] at hz
                  exact j_sel (by repeat (first | with_reducible exact pick_0 | with_reducible apply pick_s | exact sel_0 | apply sel_s)) hz
        have grp : J X 5 [PKO X.1 pk pr cm most st cap, LST X.1 z cm (gad vs come) capC, VLS X.1 z vl (tvs vs (tn come)) np nb capV, F] 0 0 179 [some (.ref pk), some (.ref vl), some (.ref a), some (.int (nI (24 - f))), none] [] := by
          refine j_aload_n E 180 dX3_writeValue_179 0 rfl rfl rfl ?_
          refine j_aload_n E 181 dX3_writeValue_180 2 rfl rfl rfl ?_
          refine j_iload_n E 182 dX3_writeValue_181 3 rfl rfl rfl ?_
          refine j_callV E (c_pk_begin hA (d-1) M N pk pr cm vl most cap capC capV np nb j (24 - f) a (kd, nm, dt, bs, ps) t vs st come (by omega) hv hj hg hc hjc (by omega) hm hM hN) 185 dX3_writeValue_182 _ _ _ iv_X3_97 rfl rfl rfl (by repeat (first | with_reducible exact pick_0 | with_reducible apply pick_s | exact sel_0 | apply sel_s)) (by omega) (by omega) (by omega) (Nat.le_of_ble_eq_true rfl) rfl ?_
          rw [← hs1]
          rintro _ xdc xds _ ⟨xcap, xcC, rfl, rfl, g1, g2, g3, g4⟩
          dsimp only [List.cons_append, List.nil_append, Option.toList]
          refine j_iconst E (0) 186 dX3_writeValue_185 (by decide) rfl ?_
          refine j_istore E 188 dX3_writeValue_186 (Nat.le_of_ble_eq_true rfl) rfl rfl ?_
          dsimp only [List.set]
          exact j_sel (by repeat (first | with_reducible exact pick_0 | with_reducible apply pick_s | exact sel_0 | apply sel_s)) (loop ps.length 0 s1 xcap xcC (0 + xdc) (0 + xds) (Nat.zero_add _) hrd hco1 hR2 (by omega) (by omega) (by omega) (by omega))
        rcases hg with e | e
        · subst e
          refine j_tableIn E (off := 158) 179 dX3_writeValue_21 (by decide) (by decide) (by rfl) (by decide) ?_
          exact j_sel (by repeat (first | with_reducible exact pick_0 | with_reducible apply pick_s | exact sel_0 | apply sel_s)) grp
        · subst e
          refine j_tableIn E (off := 158) 179 dX3_writeValue_21 (by decide) (by decide) (by rfl) (by decide) ?_
          exact j_sel (by repeat (first | with_reducible exact pick_0 | with_reducible apply pick_s | exact sel_0 | apply sel_s)) grp
      · have e9 : pkV (vts vs) most f j (st, come) = (wr most st (leafE (kd, nm, dt, bs, ps)), come) := by
          cases f <;> (rw [pkV, pkOne, hvA]; dsimp only; rw [if_neg hjc, if_neg hg])
        rw [e9] at B
        have ek : kd = 0 ∨ kd = 1 ∨ kd = 2 ∨ kd = 3 ∨ kd = 4 ∨ kd = 5 ∨ kd = 6 ∨ kd = 9 ∨ kd = 10 := by omega
        rcases ek with e | e | e | e | e | e | e | e | e
        · subst e
          refine j_tableIn E (off := 59) 80 dX3_writeValue_21 (by decide) (by decide) (by rfl) (by decide) ?_
          rw [show leafE (0, nm, dt, bs, ps) = b1 192 from rfl] at B
          refine valc_close (0, nm, dt, bs, ps) _ (by repeat (first | with_reducible exact pick_0 | with_reducible apply pick_s | exact sel_0 | apply sel_s)) rfl hx ?_
          refine j_close (by repeat (first | with_reducible exact pick_0 | with_reducible apply pick_s | exact sel_0 | apply sel_s)) (vsl_back (L := tvs vs (tn come)) (tvs_at hj)) ?_
          refine j_close (by repeat (first | with_reducible exact pick_0 | with_reducible apply pick_s | exact sel_0 | apply sel_s)) vls_of ?_
          refine j_aload_n E 81 dX3_writeValue_80 0 rfl rfl rfl ?_
          refine j_ldcL E _ 84 dX3_writeValue_81 kc_X3_69 rfl ?_
          refine j_iconst E (1) 85 dX3_writeValue_84 (by decide) rfl ?_
          refine j_callV E (c_pk_bytes hG (d-1) M N pk pr cm most cap 1 st (lN 192) (by omega) (by omega) hm (by omega) (by omega)) 88 dX3_writeValue_85 _ _ _ iv_X3_71 rfl rfl rfl (by repeat (first | with_reducible exact pick_0 | with_reducible apply pick_s | exact sel_0 | apply sel_s)) (by omega) (by omega) (by omega) (Nat.le_of_ble_eq_true rfl) rfl ?_
          rintro _ xadc xads _ ⟨xacap, rfl, rfl, xa1, xa2, xa3, xa4⟩
          dsimp only [List.cons_append, List.nil_append, Option.toList]
          refine j_goto E 237 dX3_writeValue_88 (by decide) ?_
          exact j_vret E B rfl xadc xads dX3_writeValue_237 (by repeat (first | with_reducible exact pick_0 | with_reducible apply pick_s | exact sel_0 | apply sel_s)) ⟨xacap, capC, rfl, rfl, by omega, by omega, by omega, by omega⟩ (by omega) (by omega) (by omega) (by omega)
        · subst e
          refine j_tableIn E (off := 70) 91 dX3_writeValue_21 (by decide) (by decide) (by rfl) (by decide) ?_
          rw [show leafE (1, nm, dt, bs, ps) = beB (194 + dt).toInt64 1 from rfl] at B
          refine j_aload_n E 92 dX3_writeValue_91 0 rfl rfl rfl ?_
          refine j_sipush E (194) 95 dX3_writeValue_92 (by decide) rfl ?_
          refine j_aload_n E 96 dX3_writeValue_95 2 rfl rfl rfl ?_
          refine j_getfF E 99 dX3_writeValue_96 fl_X3_75 (by repeat (first | with_reducible exact pick_0 | with_reducible apply pick_s)) (by rfl) rfl ?_
          refine j_iadd E 100 dX3_writeValue_99 rfl ?_
          refine j_i2l E 101 dX3_writeValue_100 rfl ?_
          refine valc_close (1, nm, dt, bs, ps) _ (by repeat (first | with_reducible exact pick_0 | with_reducible apply pick_s | exact sel_0 | apply sel_s)) rfl hx ?_
          refine j_close (by repeat (first | with_reducible exact pick_0 | with_reducible apply pick_s | exact sel_0 | apply sel_s)) (vsl_back (L := tvs vs (tn come)) (tvs_at hj)) ?_
          refine j_close (by repeat (first | with_reducible exact pick_0 | with_reducible apply pick_s | exact sel_0 | apply sel_s)) vls_of ?_
          refine j_iconst E (1) 102 dX3_writeValue_101 (by decide) rfl ?_
          refine j_callV E (c_pk_bytes hG (d-1) M N pk pr cm most cap 1 st (194 + dt).toInt64 (by omega) (by omega) hm (by omega) (by omega)) 105 dX3_writeValue_102 _ _ _ iv_X3_71 rfl rfl rfl (by repeat (first | with_reducible exact pick_0 | with_reducible apply pick_s | exact sel_0 | apply sel_s)) (by omega) (by omega) (by omega) (Nat.le_of_ble_eq_true rfl) rfl ?_
          rintro _ xadc xads _ ⟨xacap, rfl, rfl, xa1, xa2, xa3, xa4⟩
          dsimp only [List.cons_append, List.nil_append, Option.toList]
          refine j_goto E 237 dX3_writeValue_105 (by decide) ?_
          exact j_vret E B rfl xadc xads dX3_writeValue_237 (by repeat (first | with_reducible exact pick_0 | with_reducible apply pick_s | exact sel_0 | apply sel_s)) ⟨xacap, capC, rfl, rfl, by omega, by omega, by omega, by omega⟩ (by omega) (by omega) (by omega) (by omega)
        · subst e
          refine j_tableIn E (off := 87) 108 dX3_writeValue_21 (by decide) (by decide) (by rfl) (by decide) ?_
          rw [show leafE (2, nm, dt, bs, ps) = intE nm (decide (dt = 1)) from rfl] at B
          refine j_aload_n E 109 dX3_writeValue_108 0 rfl rfl rfl ?_
          refine j_aload_n E 110 dX3_writeValue_109 2 rfl rfl rfl ?_
          refine j_getfF E 113 dX3_writeValue_110 fl_X3_78 (by repeat (first | with_reducible exact pick_0 | with_reducible apply pick_s)) (by rfl) rfl ?_
          refine j_aload_n E 114 dX3_writeValue_113 2 rfl rfl rfl ?_
          refine valc_close (2, nm, dt, bs, ps) _ (by repeat (first | with_reducible exact pick_0 | with_reducible apply pick_s | exact sel_0 | apply sel_s)) rfl hx ?_
          refine j_callV E (c_val_isHigh (z := z) hG (d-1) a j (pcap ps.length) (2, nm, dt, bs, ps) (tn come j) (show 2 < 2 ^ 31 by decide)) 117 dX3_writeValue_114 _ _ _ iv_X3_82 rfl rfl rfl (by repeat (first | with_reducible exact pick_0 | with_reducible apply pick_s | exact sel_0 | apply sel_s)) (by omega) (by omega) (by omega) (Nat.le_of_ble_eq_true rfl) rfl ?_
          rintro _ _ _ _ ⟨rfl, rfl, rfl, rfl⟩
          dsimp only [List.cons_append, List.nil_append, Option.toList]
          refine j_eqi (y := bI (decide (dt = 1))) (by by_cases q : dt = 1 <;> simp [bI, q]) ?_
          refine j_close (by repeat (first | with_reducible exact pick_0 | with_reducible apply pick_s | exact sel_0 | apply sel_s)) (vsl_back (L := tvs vs (tn come)) (tvs_at hj)) ?_
          refine j_close (by repeat (first | with_reducible exact pick_0 | with_reducible apply pick_s | exact sel_0 | apply sel_s)) vls_of ?_
          refine j_callV E (c_pk_int hG (d-1) M N pk pr cm most cap nm (decide (dt = 1)) st (by omega) hm (by omega) (by omega)) 120 dX3_writeValue_117 _ _ _ iv_X3_86 rfl rfl rfl (by repeat (first | with_reducible exact pick_0 | with_reducible apply pick_s | exact sel_0 | apply sel_s)) (by omega) (by omega) (by omega) (Nat.le_of_ble_eq_true rfl) rfl ?_
          rintro _ xadc xads _ ⟨xacap, rfl, rfl, xa1, xa2, xa3, xa4⟩
          dsimp only [List.cons_append, List.nil_append, Option.toList]
          refine j_goto E 237 dX3_writeValue_120 (by decide) ?_
          exact j_vret E B rfl (0 + 0 + xadc) (0 + 0 + xads) dX3_writeValue_237 (by repeat (first | with_reducible exact pick_0 | with_reducible apply pick_s | exact sel_0 | apply sel_s)) ⟨xacap, capC, rfl, rfl, by omega, by omega, by omega, by omega⟩ (by omega) (by omega) (by omega) (by omega)
        · subst e
          refine j_tableIn E (off := 102) 123 dX3_writeValue_21 (by decide) (by decide) (by rfl) (by decide) ?_
          rw [show leafE (3, nm, dt, bs, ps) = b1 202 ++ beB nm 4 from rfl] at B
          refine j_aload_n E 124 dX3_writeValue_123 0 rfl rfl rfl ?_
          refine j_ldcL E _ 127 dX3_writeValue_124 kc_X3_90 rfl ?_
          refine j_iconst E (1) 128 dX3_writeValue_127 (by decide) rfl ?_
          refine j_callV E (c_pk_bytes hG (d-1) M N pk pr cm most cap 1 st (lN 202) (by omega) (by omega) hm (by omega) (by omega)) 131 dX3_writeValue_128 _ _ _ iv_X3_71 rfl rfl rfl (by repeat (first | with_reducible exact pick_0 | with_reducible apply pick_s | exact sel_0 | apply sel_s)) (by omega) (by omega) (by omega) (Nat.le_of_ble_eq_true rfl) rfl ?_
          rintro _ xadc xads _ ⟨xacap, rfl, rfl, xa1, xa2, xa3, xa4⟩
          dsimp only [List.cons_append, List.nil_append, Option.toList]
          refine j_aload_n E 132 dX3_writeValue_131 0 rfl rfl rfl ?_
          refine j_aload_n E 133 dX3_writeValue_132 2 rfl rfl rfl ?_
          refine j_getfF E 136 dX3_writeValue_133 fl_X3_78 (by repeat (first | with_reducible exact pick_0 | with_reducible apply pick_s)) (by rfl) rfl ?_
          refine j_iconst E (4) 137 dX3_writeValue_136 (by decide) rfl ?_
          refine j_callV E (c_pk_bytes hG (d-1) (M - xadc) (N - xads) pk pr cm most xacap 4 _ nm (by omega) (by omega) hm (by omega) (by omega)) 140 dX3_writeValue_137 _ _ _ iv_X3_71 rfl rfl rfl (by repeat (first | with_reducible exact pick_0 | with_reducible apply pick_s | exact sel_0 | apply sel_s)) (by omega) (by omega) (by omega) (Nat.le_of_ble_eq_true rfl) rfl ?_
          rintro _ xbdc xbds _ ⟨xbcap, rfl, rfl, xb1, xb2, xb3, xb4⟩
          dsimp only [List.cons_append, List.nil_append, Option.toList]
          rw [wr_app]
          refine valc_close (3, nm, dt, bs, ps) _ (by repeat (first | with_reducible exact pick_0 | with_reducible apply pick_s | exact sel_0 | apply sel_s)) rfl hx ?_
          refine j_close (by repeat (first | with_reducible exact pick_0 | with_reducible apply pick_s | exact sel_0 | apply sel_s)) (vsl_back (L := tvs vs (tn come)) (tvs_at hj)) ?_
          refine j_close (by repeat (first | with_reducible exact pick_0 | with_reducible apply pick_s | exact sel_0 | apply sel_s)) vls_of ?_
          refine j_goto E 237 dX3_writeValue_140 (by decide) ?_
          exact j_vret E B rfl (xadc + xbdc) (xads + xbds) dX3_writeValue_237 (by repeat (first | with_reducible exact pick_0 | with_reducible apply pick_s | exact sel_0 | apply sel_s)) ⟨xbcap, capC, rfl, rfl, by omega, by omega, by omega, by omega⟩ (by omega) (by omega) (by omega) (by omega)
        · subst e
          refine j_tableIn E (off := 122) 143 dX3_writeValue_21 (by decide) (by decide) (by rfl) (by decide) ?_
          rw [show leafE (4, nm, dt, bs, ps) = b1 203 ++ beB nm 8 from rfl] at B
          refine j_aload_n E 144 dX3_writeValue_143 0 rfl rfl rfl ?_
          refine j_ldcL E _ 147 dX3_writeValue_144 kc_X3_92 rfl ?_
          refine j_iconst E (1) 148 dX3_writeValue_147 (by decide) rfl ?_
          refine j_callV E (c_pk_bytes hG (d-1) M N pk pr cm most cap 1 st (lN 203) (by omega) (by omega) hm (by omega) (by omega)) 151 dX3_writeValue_148 _ _ _ iv_X3_71 rfl rfl rfl (by repeat (first | with_reducible exact pick_0 | with_reducible apply pick_s | exact sel_0 | apply sel_s)) (by omega) (by omega) (by omega) (Nat.le_of_ble_eq_true rfl) rfl ?_
          rintro _ xadc xads _ ⟨xacap, rfl, rfl, xa1, xa2, xa3, xa4⟩
          dsimp only [List.cons_append, List.nil_append, Option.toList]
          refine j_aload_n E 152 dX3_writeValue_151 0 rfl rfl rfl ?_
          refine j_aload_n E 153 dX3_writeValue_152 2 rfl rfl rfl ?_
          refine j_getfF E 156 dX3_writeValue_153 fl_X3_78 (by repeat (first | with_reducible exact pick_0 | with_reducible apply pick_s)) (by rfl) rfl ?_
          refine j_bipush E (8) 158 dX3_writeValue_156 (by decide) rfl ?_
          refine j_callV E (c_pk_bytes hG (d-1) (M - xadc) (N - xads) pk pr cm most xacap 8 _ nm (by omega) (by omega) hm (by omega) (by omega)) 161 dX3_writeValue_158 _ _ _ iv_X3_71 rfl rfl rfl (by repeat (first | with_reducible exact pick_0 | with_reducible apply pick_s | exact sel_0 | apply sel_s)) (by omega) (by omega) (by omega) (Nat.le_of_ble_eq_true rfl) rfl ?_
          rintro _ xbdc xbds _ ⟨xbcap, rfl, rfl, xb1, xb2, xb3, xb4⟩
          dsimp only [List.cons_append, List.nil_append, Option.toList]
          rw [wr_app]
          refine valc_close (4, nm, dt, bs, ps) _ (by repeat (first | with_reducible exact pick_0 | with_reducible apply pick_s | exact sel_0 | apply sel_s)) rfl hx ?_
          refine j_close (by repeat (first | with_reducible exact pick_0 | with_reducible apply pick_s | exact sel_0 | apply sel_s)) (vsl_back (L := tvs vs (tn come)) (tvs_at hj)) ?_
          refine j_close (by repeat (first | with_reducible exact pick_0 | with_reducible apply pick_s | exact sel_0 | apply sel_s)) vls_of ?_
          refine j_goto E 237 dX3_writeValue_161 (by decide) ?_
          exact j_vret E B rfl (xadc + xbdc) (xads + xbds) dX3_writeValue_237 (by repeat (first | with_reducible exact pick_0 | with_reducible apply pick_s | exact sel_0 | apply sel_s)) ⟨xbcap, capC, rfl, rfl, by omega, by omega, by omega, by omega⟩ (by omega) (by omega) (by omega) (by omega)
        · subst e
          refine j_tableIn E (off := 211) 232 dX3_writeValue_21 (by decide) (by decide) (by rfl) (by decide) ?_
          rw [show leafE (5, nm, dt, bs, ps) = rowE (5, nm, dt, bs, ps) from rfl] at B
          refine valc_close (5, nm, dt, bs, ps) _ (by repeat (first | with_reducible exact pick_0 | with_reducible apply pick_s | exact sel_0 | apply sel_s)) rfl hx ?_
          refine j_aload_n E 233 dX3_writeValue_232 0 rfl rfl rfl ?_
          refine j_aload_n E 234 dX3_writeValue_233 2 rfl rfl rfl ?_
          refine j_callV E (c_pk_row hA (d-1) M N pk pr cm most cap a j (pcap ps.length) (5, nm, dt, bs, ps) (tn come j) st (by omega) (by show 5 < 2 ^ 31; omega) hbl hm (by omega) (by omega)) 237 dX3_writeValue_234 _ _ _ iv_X3_108 rfl rfl rfl (by repeat (first | with_reducible exact pick_0 | with_reducible apply pick_s | exact sel_0 | apply sel_s)) (by omega) (by omega) (by omega) (Nat.le_of_ble_eq_true rfl) rfl ?_
          rintro _ xadc xads _ ⟨xacap, rfl, rfl, xa1, xa2, xa3, xa4⟩
          dsimp only [List.cons_append, List.nil_append, Option.toList]
          refine j_close (by repeat (first | with_reducible exact pick_0 | with_reducible apply pick_s | exact sel_0 | apply sel_s)) (vsl_back (L := tvs vs (tn come)) (tvs_at hj)) ?_
          refine j_close (by repeat (first | with_reducible exact pick_0 | with_reducible apply pick_s | exact sel_0 | apply sel_s)) vls_of ?_
          exact j_vret E B rfl xadc xads dX3_writeValue_237 (by repeat (first | with_reducible exact pick_0 | with_reducible apply pick_s | exact sel_0 | apply sel_s)) ⟨xacap, capC, rfl, rfl, by omega, by omega, by omega, by omega⟩ (by omega) (by omega) (by omega) (by omega)
        · subst e
          refine j_tableIn E (off := 211) 232 dX3_writeValue_21 (by decide) (by decide) (by rfl) (by decide) ?_
          rw [show leafE (6, nm, dt, bs, ps) = rowE (6, nm, dt, bs, ps) from rfl] at B
          refine valc_close (6, nm, dt, bs, ps) _ (by repeat (first | with_reducible exact pick_0 | with_reducible apply pick_s | exact sel_0 | apply sel_s)) rfl hx ?_
          refine j_aload_n E 233 dX3_writeValue_232 0 rfl rfl rfl ?_
          refine j_aload_n E 234 dX3_writeValue_233 2 rfl rfl rfl ?_
          refine j_callV E (c_pk_row hA (d-1) M N pk pr cm most cap a j (pcap ps.length) (6, nm, dt, bs, ps) (tn come j) st (by omega) (by show 6 < 2 ^ 31; omega) hbl hm (by omega) (by omega)) 237 dX3_writeValue_234 _ _ _ iv_X3_108 rfl rfl rfl (by repeat (first | with_reducible exact pick_0 | with_reducible apply pick_s | exact sel_0 | apply sel_s)) (by omega) (by omega) (by omega) (Nat.le_of_ble_eq_true rfl) rfl ?_
          rintro _ xadc xads _ ⟨xacap, rfl, rfl, xa1, xa2, xa3, xa4⟩
          dsimp only [List.cons_append, List.nil_append, Option.toList]
          refine j_close (by repeat (first | with_reducible exact pick_0 | with_reducible apply pick_s | exact sel_0 | apply sel_s)) (vsl_back (L := tvs vs (tn come)) (tvs_at hj)) ?_
          refine j_close (by repeat (first | with_reducible exact pick_0 | with_reducible apply pick_s | exact sel_0 | apply sel_s)) vls_of ?_
          exact j_vret E B rfl xadc xads dX3_writeValue_237 (by repeat (first | with_reducible exact pick_0 | with_reducible apply pick_s | exact sel_0 | apply sel_s)) ⟨xacap, capC, rfl, rfl, by omega, by omega, by omega, by omega⟩ (by omega) (by omega) (by omega) (by omega)
        · subst e
          refine j_tableIn E (off := 211) 232 dX3_writeValue_21 (by decide) (by decide) (by rfl) (by decide) ?_
          rw [show leafE (9, nm, dt, bs, ps) = rowE (9, nm, dt, bs, ps) from rfl] at B
          refine valc_close (9, nm, dt, bs, ps) _ (by repeat (first | with_reducible exact pick_0 | with_reducible apply pick_s | exact sel_0 | apply sel_s)) rfl hx ?_
          refine j_aload_n E 233 dX3_writeValue_232 0 rfl rfl rfl ?_
          refine j_aload_n E 234 dX3_writeValue_233 2 rfl rfl rfl ?_
          refine j_callV E (c_pk_row hA (d-1) M N pk pr cm most cap a j (pcap ps.length) (9, nm, dt, bs, ps) (tn come j) st (by omega) (by show 9 < 2 ^ 31; omega) hbl hm (by omega) (by omega)) 237 dX3_writeValue_234 _ _ _ iv_X3_108 rfl rfl rfl (by repeat (first | with_reducible exact pick_0 | with_reducible apply pick_s | exact sel_0 | apply sel_s)) (by omega) (by omega) (by omega) (Nat.le_of_ble_eq_true rfl) rfl ?_
          rintro _ xadc xads _ ⟨xacap, rfl, rfl, xa1, xa2, xa3, xa4⟩
          dsimp only [List.cons_append, List.nil_append, Option.toList]
          refine j_close (by repeat (first | with_reducible exact pick_0 | with_reducible apply pick_s | exact sel_0 | apply sel_s)) (vsl_back (L := tvs vs (tn come)) (tvs_at hj)) ?_
          refine j_close (by repeat (first | with_reducible exact pick_0 | with_reducible apply pick_s | exact sel_0 | apply sel_s)) vls_of ?_
          exact j_vret E B rfl xadc xads dX3_writeValue_237 (by repeat (first | with_reducible exact pick_0 | with_reducible apply pick_s | exact sel_0 | apply sel_s)) ⟨xacap, capC, rfl, rfl, by omega, by omega, by omega, by omega⟩ (by omega) (by omega) (by omega) (by omega)
        · subst e
          refine j_tableIn E (off := 143) 164 dX3_writeValue_21 (by decide) (by decide) (by rfl) (by decide) ?_
          rw [show leafE (10, nm, dt, bs, ps) = timeE nm dt from rfl] at B
          refine j_aload_n E 165 dX3_writeValue_164 0 rfl rfl rfl ?_
          refine j_aload_n E 166 dX3_writeValue_165 2 rfl rfl rfl ?_
          refine j_getfF E 169 dX3_writeValue_166 fl_X3_78 (by repeat (first | with_reducible exact pick_0 | with_reducible apply pick_s)) (by rfl) rfl ?_
          refine j_aload_n E 170 dX3_writeValue_169 2 rfl rfl rfl ?_
          refine j_getfF E 173 dX3_writeValue_170 fl_X3_75 (by repeat (first | with_reducible exact pick_0 | with_reducible apply pick_s)) (by rfl) rfl ?_
          refine valc_close (10, nm, dt, bs, ps) _ (by repeat (first | with_reducible exact pick_0 | with_reducible apply pick_s | exact sel_0 | apply sel_s)) rfl hx ?_
          refine j_close (by repeat (first | with_reducible exact pick_0 | with_reducible apply pick_s | exact sel_0 | apply sel_s)) (vsl_back (L := tvs vs (tn come)) (tvs_at hj)) ?_
          refine j_close (by repeat (first | with_reducible exact pick_0 | with_reducible apply pick_s | exact sel_0 | apply sel_s)) vls_of ?_
          refine j_callV E (c_pk_time hG (d-1) M N pk pr cm most cap nm dt st (by omega) hm (by omega) (by omega)) 176 dX3_writeValue_173 _ _ _ iv_X3_94 rfl rfl rfl (by repeat (first | with_reducible exact pick_0 | with_reducible apply pick_s | exact sel_0 | apply sel_s)) (by omega) (by omega) (by omega) (Nat.le_of_ble_eq_true rfl) rfl ?_
          rintro _ xadc xads _ ⟨xacap, rfl, rfl, xa1, xa2, xa3, xa4⟩
          dsimp only [List.cons_append, List.nil_append, Option.toList]
          refine j_goto E 237 dX3_writeValue_176 (by decide) ?_
          exact j_vret E B rfl xadc xads dX3_writeValue_237 (by repeat (first | with_reducible exact pick_0 | with_reducible apply pick_s | exact sel_0 | apply sel_s)) ⟨xacap, capC, rfl, rfl, by omega, by omega, by omega, by omega⟩ (by omega) (by omega) (by omega) (by omega)
    · exact absurd htn h5
theorem c_pk_all {g : GT} {z : Nat → Nat} (hA : GA g z) : ∀ f, f ≤ 24 → WVC g z f
  | 0, h => c_pk_value hA h (fun _ e => by cases e)
  | f + 1, h => c_pk_value hA h (fun f' e => by
      cases e
      exact c_pk_all hA f (by omega))

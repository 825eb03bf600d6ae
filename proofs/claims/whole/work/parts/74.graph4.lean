/-! PackedGraph: what is told -/
set_option maxHeartbeats 8000000 in
theorem c_pg_about {g : GT} {z : Nat → Nat} (hA : GA g z) (d M N x P Q : Nat) (v w : Int32) (S : AS) (hd : 100 ≤ d) (hM : 9100000 + 800 * S.1.length ≤ 320 * M + P) (hN : 1700000 + 21 * S.1.length ≤ N + Q) : CtrV g mX7_about 6 d M N x [.int v, .int w] [PGA g z x S P Q] (pgo g z x P Q S.1.length M N (sAbout v w S).1 (some (.int (sAbout v w S).2.1)) (sAbout v w S).2.2) (pgx g z x P Q S.1.length M N (sAbout v w S).1 (sAbout v w S).2.2 [(exI, 1), (exA, 2)]) := by
  refine ⟨pga_rcv, ?_⟩
  have hG := hA.1
  have h2 := hA.2.1
  obtain ⟨tape, us, np, nb, out, cd, pl⟩ := S
  dsimp only at hM hN
  refine ctr_intro hG (by decide +kernel) (Nat.le_of_ble_eq_true rfl) ?_
  rintro X F rfl E B hI T
  replace E : JE X RX7 cX7_about 4 d M N := E
  show J X _ [PGA X.1 z x (tape, us, np, nb, out, cd, pl) P Q, F] 0 0 0 [some (.ref x), some (.int v), some (.int w), none] []
  refine pga_open (by repeat (first | with_reducible exact pick_0 | with_reducible apply pick_s)) ?_
  intro tp vl rd ld gr e0 ou p1 m1 lf p2 m2 rt p3 m3 capT capV capG c1 k1 c2 k2 c3 k3 b2 b3 vs hS
  refine j_know (fun w hw => pgl_know w hw) (fun hcp => ?_)
  dsimp only [PGL, List.cons_append, List.nil_append]
  obtain ⟨hok, hvt, htz, hP, hQ⟩ := hS
  dsimp only at hvt hP hQ
  have hvs := vsok_of hok hvt htz
  have hlen : vs.length = us.length := by rw [← hvt, vts_len]
  have h65 : tape.length ≤ 65536 := hok.1
  have h30 : us.length ≤ 3000 := hok.2.1
  have h60 : np ≤ 6000 := hok.2.2.1
  have hnb : nb ≤ 65536 := hok.2.2.2.1
  have hou : out.length ≤ 65536 := hok.2.2.2.2.1
  dsimp only at B
  refine j_aload_n E 1 dX7_about_0 0 rfl rfl rfl ?_
  refine j_iload_n E 2 dX7_about_1 1 rfl rfl rfl ?_
  refine j_callVX E (c_nd_value hA (d-1) x tp vl rd ou lf rt np nb capV v vs (by omega)) 5 dX7_about_2 _ _ _ iv_X7_90 rfl rfl rfl (by repeat (first | with_reducible exact pick_0 | with_reducible apply pick_s | exact sel_0 | apply sel_s)) (by omega) (by omega) (by omega) (Nat.le_of_ble_eq_true rfl) rfl ?_ ?_
  · rintro _ _ _ _ ⟨qb, rfl, rfl, rfl, rfl⟩
    dsimp only [List.cons_append, List.nil_append, Option.toList]
    rw [hlen] at qb
    obtain ⟨j, hj, rfl⟩ := inB_t (by omega) qb
    obtain ⟨⟨ea, ev, et⟩, he⟩ : ∃ e, vs[j]? = some e := ⟨_, List.getElem?_eq_getElem (by omega)⟩
    have hev : vAt us j = ev := by rw [← hvt]; exact vAt_of he
    have het : VTok us.length np ev := by rw [← hev]; exact aok_at hok (show j < us.length by omega)
    have hek : ev.1 ≤ 10 := het.1
    refine j_aload_n E 6 dX7_about_5 0 rfl rfl rfl ?_
    refine j_getf E 9 dX7_about_6 fl_X7_19 (by repeat (first | with_reducible exact pick_0 | with_reducible apply pick_s)) (by rfl) rfl ?_
    refine j_iload_n E 10 dX7_about_9 1 rfl rfl rfl ?_
    refine j_callV E (c_vls_at (z := z) hG (d-1) vl np nb capV j (by omega) vs _ he (by omega)) 13 dX7_about_10 _ _ _ iv_X7_152 rfl rfl rfl (by repeat (first | with_reducible exact pick_0 | with_reducible apply pick_s | exact sel_0 | apply sel_s)) (by omega) (by omega) (by omega) (Nat.le_of_ble_eq_true rfl) rfl ?_
    rintro _ _ _ _ ⟨rfl, rfl, rfl, rfl⟩
    dsimp only [List.cons_append, List.nil_append, Option.toList]
    refine j_astore_n E 14 dX7_about_13 3 rfl (Nat.le_of_ble_eq_true rfl) rfl rfl ?_
    dsimp only [List.set]
    refine j_iload_n E 15 dX7_about_14 2 rfl rfl rfl ?_
    by_cases w0 : w = 0
    · subst w0
      have e9 : sAbout (nI j) 0 (tape, us, np, nb, out, cd, pl) = (0, nI ev.1, (tape, us, np, nb, out, cd, pl)) := by
        unfold sAbout
        dsimp only
        rw [if_neg (fun q => q qb), if_pos rfl, nI_clamp (by omega), hev]
      rw [e9] at B
      refine j_tableIn E (off := 29) 44 dX7_about_15 (by decide) (by decide) (by rfl) (by decide) ?_
      refine j_open (P := VLS X.1 z vl vs np nb capV) (by repeat (first | with_reducible exact pick_0 | with_reducible apply pick_s)) vls_open ?_
      rintro al -
      dsimp only [VLSo, List.cons_append, List.nil_append]
      refine j_open (P := VSL X.1 z 0 vs) (by repeat (first | with_reducible exact pick_0 | with_reducible apply pick_s)) (vsl_open he) ?_
      rintro _ -
      dsimp only [List.cons_append, List.nil_append]
      refine j_open (by repeat (first | with_reducible exact pick_0 | with_reducible apply pick_s)) valc_open ?_
      rintro ⟨bq, pq, xf⟩ hx
      dsimp only [VALo, List.cons_append, List.nil_append] at hx ⊢
      refine j_aload_n E 45 dX7_about_44 3 rfl rfl rfl ?_
      refine j_getfF E 48 dX7_about_45 fl_X7_162 (by repeat (first | with_reducible exact pick_0 | with_reducible apply pick_s)) (by rfl) rfl ?_
      refine valc_close ev _ (by repeat (first | with_reducible exact pick_0 | with_reducible apply pick_s | exact sel_0 | apply sel_s)) rfl hx ?_
      refine j_close (by repeat (first | with_reducible exact pick_0 | with_reducible apply pick_s | exact sel_0 | apply sel_s)) (vsl_back he) ?_
      refine j_close (by repeat (first | with_reducible exact pick_0 | with_reducible apply pick_s | exact sel_0 | apply sel_s)) vls_of ?_
      refine pga_close (us) (by repeat (first | with_reducible exact pick_0 | with_reducible apply pick_s | exact sel_0 | apply sel_s)) hok hvt htz ?_
      exact j_iret E B rfl 0 0 dX7_about_48 (by repeat (first | with_reducible exact pick_0 | with_reducible apply pick_s | exact sel_0 | apply sel_s)) ⟨_, _, rfl, rfl, rfl, by omega, by omega, by omega, by omega⟩ (by omega) (by omega) (by omega) (by omega)
    by_cases w1 : w = 1
    · subst w1
      have e9 : sAbout (nI j) 1 (tape, us, np, nb, out, cd, pl) = (0, nI (vlen ev), (tape, us, np, nb, out, cd, pl)) := by
        unfold sAbout
        dsimp only
        rw [if_neg (fun q => q qb), if_neg (by decide), if_pos rfl, nI_clamp (by omega), hev]
      rw [e9] at B
      refine j_tableIn E (off := 34) 49 dX7_about_15 (by decide) (by decide) (by rfl) (by decide) ?_
      refine j_open (P := VLS X.1 z vl vs np nb capV) (by repeat (first | with_reducible exact pick_0 | with_reducible apply pick_s)) vls_open ?_
      rintro al -
      dsimp only [VLSo, List.cons_append, List.nil_append]
      refine j_open (P := VSL X.1 z 0 vs) (by repeat (first | with_reducible exact pick_0 | with_reducible apply pick_s)) (vsl_open he) ?_
      rintro _ -
      dsimp only [List.cons_append, List.nil_append]
      refine j_aload_n E 50 dX7_about_49 3 rfl rfl rfl ?_
      refine j_callV E (c_val_length hA (d-1) ea j (pcap ev.2.2.2.2.length) (by omega) ev et (by omega) (by have := het.2.2.1; omega)) 53 dX7_about_50 _ _ _ iv_X7_159 rfl rfl rfl (by repeat (first | with_reducible exact pick_0 | with_reducible apply pick_s | exact sel_0 | apply sel_s)) (by omega) (by omega) (by omega) (Nat.le_of_ble_eq_true rfl) rfl ?_
      rintro _ _ _ _ ⟨rfl, rfl, rfl, rfl⟩
      dsimp only [List.cons_append, List.nil_append, Option.toList]
      refine j_close (by repeat (first | with_reducible exact pick_0 | with_reducible apply pick_s | exact sel_0 | apply sel_s)) (vsl_back he) ?_
      refine j_close (by repeat (first | with_reducible exact pick_0 | with_reducible apply pick_s | exact sel_0 | apply sel_s)) vls_of ?_
      refine pga_close (us) (by repeat (first | with_reducible exact pick_0 | with_reducible apply pick_s | exact sel_0 | apply sel_s)) hok hvt htz ?_
      exact j_iret E B rfl 0 0 dX7_about_53 (by repeat (first | with_reducible exact pick_0 | with_reducible apply pick_s | exact sel_0 | apply sel_s)) ⟨_, _, rfl, rfl, rfl, by omega, by omega, by omega, by omega⟩ (by omega) (by omega) (by omega) (by omega)
    by_cases w2 : w = 2
    · subst w2
      have e9 : sAbout (nI j) 2 (tape, us, np, nb, out, cd, pl) = (0, (if ev.1 = 2 then 0 else ev.2.2.1), (tape, us, np, nb, out, cd, pl)) := by
        unfold sAbout
        dsimp only
        rw [if_neg (fun q => q qb), if_neg (by decide), if_neg (by decide), if_pos rfl, nI_clamp (by omega), hev]
      rw [e9] at B
      refine j_tableIn E (off := 39) 54 dX7_about_15 (by decide) (by decide) (by rfl) (by decide) ?_
      refine j_open (P := VLS X.1 z vl vs np nb capV) (by repeat (first | with_reducible exact pick_0 | with_reducible apply pick_s)) vls_open ?_
      rintro al -
      dsimp only [VLSo, List.cons_append, List.nil_append]
      refine j_open (P := VSL X.1 z 0 vs) (by repeat (first | with_reducible exact pick_0 | with_reducible apply pick_s)) (vsl_open he) ?_
      rintro _ -
      dsimp only [List.cons_append, List.nil_append]
      refine j_open (by repeat (first | with_reducible exact pick_0 | with_reducible apply pick_s)) valc_open ?_
      rintro ⟨bq, pq, xf⟩ hx
      dsimp only [VALo, List.cons_append, List.nil_append] at hx ⊢
      refine j_aload_n E 55 dX7_about_54 3 rfl rfl rfl ?_
      refine j_getfF E 58 dX7_about_55 fl_X7_162 (by repeat (first | with_reducible exact pick_0 | with_reducible apply pick_s)) (by rfl) rfl ?_
      refine j_iconst E (2) 59 dX7_about_58 (by decide) rfl ?_
      refine j_icmp_ne E 66 62 dX7_about_59 (by decide) rfl (fun h59 => ?_) (fun h59 => ?_)
      · have qk : ¬ ev.1 = 2 := fun q => h59 (congrArg nI q)
        rw [if_neg qk] at B
        refine j_aload_n E 67 dX7_about_66 3 rfl rfl rfl ?_
        refine j_getfF E 70 dX7_about_67 fl_X7_165 (by repeat (first | with_reducible exact pick_0 | with_reducible apply pick_s)) (by rfl) rfl ?_
        refine valc_close ev _ (by repeat (first | with_reducible exact pick_0 | with_reducible apply pick_s | exact sel_0 | apply sel_s)) rfl hx ?_
        refine j_close (by repeat (first | with_reducible exact pick_0 | with_reducible apply pick_s | exact sel_0 | apply sel_s)) (vsl_back he) ?_
        refine j_close (by repeat (first | with_reducible exact pick_0 | with_reducible apply pick_s | exact sel_0 | apply sel_s)) vls_of ?_
        refine pga_close (us) (by repeat (first | with_reducible exact pick_0 | with_reducible apply pick_s | exact sel_0 | apply sel_s)) hok hvt htz ?_
        exact j_iret E B rfl 0 0 dX7_about_70 (by repeat (first | with_reducible exact pick_0 | with_reducible apply pick_s | exact sel_0 | apply sel_s)) ⟨_, _, rfl, rfl, rfl, by omega, by omega, by omega, by omega⟩ (by omega) (by omega) (by omega) (by omega)
      · have qk : ev.1 = 2 := (nI_eq (by omega) (by decide)).mp h59
        rw [if_pos qk] at B
        refine j_iconst E (0) 63 dX7_about_62 (by decide) rfl ?_
        refine j_goto E 70 dX7_about_63 (by decide) ?_
        refine valc_close ev _ (by repeat (first | with_reducible exact pick_0 | with_reducible apply pick_s | exact sel_0 | apply sel_s)) rfl hx ?_
        refine j_close (by repeat (first | with_reducible exact pick_0 | with_reducible apply pick_s | exact sel_0 | apply sel_s)) (vsl_back he) ?_
        refine j_close (by repeat (first | with_reducible exact pick_0 | with_reducible apply pick_s | exact sel_0 | apply sel_s)) vls_of ?_
        refine pga_close (us) (by repeat (first | with_reducible exact pick_0 | with_reducible apply pick_s | exact sel_0 | apply sel_s)) hok hvt htz ?_
        exact j_iret E B rfl 0 0 dX7_about_70 (by repeat (first | with_reducible exact pick_0 | with_reducible apply pick_s | exact sel_0 | apply sel_s)) ⟨_, _, rfl, rfl, rfl, by omega, by omega, by omega, by omega⟩ (by omega) (by omega) (by omega) (by omega)
    by_cases w3 : w = 3
    · subst w3
      have e9 : sAbout (nI j) 3 (tape, us, np, nb, out, cd, pl) = (0, (if ev.1 = 7 ∨ ev.1 = 8 then 0 else match packU us 65536 j with | some p => nI p.length | none => 0), (tape, us, np, nb, out, cd, pl)) := by
        unfold sAbout
        dsimp only
        rw [if_neg (fun q => q qb), if_neg (by decide), if_neg (by decide), if_neg (by decide), if_pos rfl, nI_clamp (by omega), hev]
        rfl
      rw [e9] at B
      refine j_tableIn E (off := 56) 71 dX7_about_15 (by decide) (by decide) (by rfl) (by decide) ?_
      refine j_open (P := VLS X.1 z vl vs np nb capV) (by repeat (first | with_reducible exact pick_0 | with_reducible apply pick_s)) vls_open ?_
      rintro al -
      dsimp only [VLSo, List.cons_append, List.nil_append]
      refine j_open (P := VSL X.1 z 0 vs) (by repeat (first | with_reducible exact pick_0 | with_reducible apply pick_s)) (vsl_open he) ?_
      rintro _ -
      dsimp only [List.cons_append, List.nil_append]
      refine j_aload_n E 72 dX7_about_71 3 rfl rfl rfl ?_
      refine j_callV E (c_val_isGroup (z := z) hG (d-1) ea j (pcap ev.2.2.2.2.length) ev et (by omega)) 75 dX7_about_72 _ _ _ iv_X7_168 rfl rfl rfl (by repeat (first | with_reducible exact pick_0 | with_reducible apply pick_s | exact sel_0 | apply sel_s)) (by omega) (by omega) (by omega) (Nat.le_of_ble_eq_true rfl) rfl ?_
      rintro _ _ _ _ ⟨rfl, rfl, rfl, rfl⟩
      dsimp only [List.cons_append, List.nil_append, Option.toList]
      refine j_close (by repeat (first | with_reducible exact pick_0 | with_reducible apply pick_s | exact sel_0 | apply sel_s)) (vsl_back he) ?_
      refine j_close (by repeat (first | with_reducible exact pick_0 | with_reducible apply pick_s | exact sel_0 | apply sel_s)) vls_of ?_
      by_cases qg : ev.1 = 7 ∨ ev.1 = 8
      · rw [if_pos qg] at B ⊢
        refine j_if_ne E 95 78 dX7_about_75 (by decide) rfl (fun h75 => ?_) (fun h75 => ?_)
        · refine j_iconst E (0) 96 dX7_about_95 (by decide) rfl ?_
          refine j_goto E 109 dX7_about_96 (by decide) ?_
          refine pga_close (us) (by repeat (first | with_reducible exact pick_0 | with_reducible apply pick_s | exact sel_0 | apply sel_s)) hok hvt htz ?_
          exact j_iret E B rfl 0 0 dX7_about_109 (by repeat (first | with_reducible exact pick_0 | with_reducible apply pick_s | exact sel_0 | apply sel_s)) ⟨_, _, rfl, rfl, rfl, by omega, by omega, by omega, by omega⟩ (by omega) (by omega) (by omega) (by omega)
        · exact absurd h75 (by decide)
      · rw [if_neg qg] at B ⊢
        refine j_if_ne E 95 78 dX7_about_75 (by decide) rfl (fun h75 => ?_) (fun h75 => ?_)
        · exact absurd rfl h75
        · refine j_aload_n E 79 dX7_about_78 0 rfl rfl rfl ?_
          refine j_getf E 82 dX7_about_79 fl_X7_37 (by repeat (first | with_reducible exact pick_0 | with_reducible apply pick_s)) (by rfl) rfl ?_
          refine j_aload_n E 83 dX7_about_82 0 rfl rfl rfl ?_
          refine j_getf E 86 dX7_about_83 fl_X7_19 (by repeat (first | with_reducible exact pick_0 | with_reducible apply pick_s)) (by rfl) rfl ?_
          refine j_iload_n E 87 dX7_about_86 1 rfl rfl rfl ?_
          refine j_ldcI E _ 89 dX7_about_87 kc_X7_47 rfl ?_
          rw [show (65536 : Int32) = nI 65536 from rfl]
          refine j_callV E (c_pk_write hA (d-1) M N lf p2 m2 vl 65536 c2 k2 capV np nb j ea ev et b2 vs (by omega) hvs he (Nat.le_refl _) (by omega) (by omega)) 92 dX7_about_89 _ _ _ iv_X7_93 rfl rfl rfl (by repeat (first | with_reducible exact pick_0 | with_reducible apply pick_s | exact sel_0 | apply sel_s)) (by omega) (by omega) (by omega) (Nat.le_of_ble_eq_true rfl) rfl ?_
          rintro _ xdc xds _ ⟨xcap, xcC, rfl, rfl, g1, g2, g3, g4⟩
          dsimp only [List.cons_append, List.nil_append, Option.toList]
          rw [hvt]
          rcases hp : packU us 65536 j with _ | p
          · rw [hp] at B
            dsimp only [Option.isSome_none, Option.getD_none] at B ⊢
            refine j_if_ne E 99 95 dX7_about_92 (by decide) rfl (fun h92 => ?_) (fun h92 => ?_)
            · exact absurd rfl h92
            · refine j_iconst E (0) 96 dX7_about_95 (by decide) rfl ?_
              refine j_goto E 109 dX7_about_96 (by decide) ?_
              refine pga_close (us) (by repeat (first | with_reducible exact pick_0 | with_reducible apply pick_s | exact sel_0 | apply sel_s)) hok hvt htz ?_
              exact j_iret E B rfl xdc xds dX7_about_109 (by repeat (first | with_reducible exact pick_0 | with_reducible apply pick_s | exact sel_0 | apply sel_s)) ⟨_, _, rfl, rfl, rfl, by omega, by omega, by omega, by omega⟩ (by omega) (by omega) (by omega) (by omega)
          · rw [hp] at B
            dsimp only [Option.isSome_some, Option.getD_some] at B ⊢
            refine j_if_ne E 99 95 dX7_about_92 (by decide) rfl (fun h92 => ?_) (fun h92 => ?_)
            · refine j_open (P := PCK X.1 z lf p2 m2 p xcap xcC) (by repeat (first | with_reducible exact pick_0 | with_reducible apply pick_s)) pck_open ?_
              rintro ⟨mo, fa⟩ -
              dsimp only [List.cons_append, List.nil_append]
              refine j_aload_n E 100 dX7_about_99 0 rfl rfl rfl ?_
              refine j_getf E 103 dX7_about_100 fl_X7_37 (by repeat (first | with_reducible exact pick_0 | with_reducible apply pick_s)) (by rfl) rfl ?_
              refine j_getfF E 106 dX7_about_103 fl_X7_99 (by repeat (first | with_reducible exact pick_0 | with_reducible apply pick_s)) (by rfl) rfl ?_
              refine j_callV E (c_row_size hG (d-1) p2 xcap p) 109 dX7_about_106 _ _ _ iv_X7_43 rfl rfl rfl (by repeat (first | with_reducible exact pick_0 | with_reducible apply pick_s | exact sel_0 | apply sel_s)) (by omega) (by omega) (by omega) (Nat.le_of_ble_eq_true rfl) rfl ?_
              rintro _ _ _ _ ⟨rfl, rfl, rfl, rfl⟩
              dsimp only [List.cons_append, List.nil_append, Option.toList]
              refine j_close (by repeat (first | with_reducible exact pick_0 | with_reducible apply pick_s | exact sel_0 | apply sel_s)) (pck_of (g := X.1) (z := z) (pk := lf) (pr := p2) (cm := m2) (cap := xcap) (capC := xcC) (bs := p) (mo := mo) (fa := fa)) ?_
              refine pga_close (us) (by repeat (first | with_reducible exact pick_0 | with_reducible apply pick_s | exact sel_0 | apply sel_s)) hok hvt htz ?_
              exact j_iret E B rfl xdc xds dX7_about_109 (by repeat (first | with_reducible exact pick_0 | with_reducible apply pick_s | exact sel_0 | apply sel_s)) ⟨_, _, rfl, rfl, rfl, by omega, by omega, by omega, by omega⟩ (by omega) (by omega) (by omega) (by omega)
            · exact absurd h92 (by decide)
    have e9 : sAbout (nI j) w (tape, us, np, nb, out, cd, pl) = (2, 0, (tape, us, np, nb, out, cd, pl)) := by
      unfold sAbout
      dsimp only
      rw [if_neg (fun q => q qb), if_neg w0, if_neg w1, if_neg w2, if_neg w3]
    rw [e9] at B
    have t0 : ¬ w.toInt = 0 := fun q => w0 ((fa_eq w 0).mpr q)
    have t1 : ¬ w.toInt = 1 := fun q => w1 ((fa_eq w 1).mpr q)
    have t2 : ¬ w.toInt = 2 := fun q => w2 ((fa_eq w 2).mpr q)
    have t3 : ¬ w.toInt = 3 := fun q => w3 ((fa_eq w 3).mpr q)
    refine j_tableOut E 110 dX7_about_15 (by omega) (by decide) ?_
    refine pga_close (us) (by repeat (first | with_reducible exact pick_0 | with_reducible apply pick_s | exact sel_0 | apply sel_s)) hok hvt htz ?_
    exact j_throwS E B T h2 (tk_A sr_172) 1 6 dX7_about_110 113 114 116 119 rfl rfl rfl rfl dX7_about_113 dX7_about_114 dX7_about_116 dX7_about_119 (by repeat (first | with_reducible exact pick_0 | with_reducible apply pick_s | exact sel_0 | apply sel_s)) ⟨_, _, mm1, rfl, by omega, by omega, by omega, by omega⟩ (by omega) (by omega) (by omega) (by omega) (by show 2 + 3 < d; omega) (by show 0 + (13 * (2 + 1) + 43) ≤ 46 * d; omega)
  · rintro En _ _ _ ⟨qn, rfl, rfl, rfl, rfl⟩
    dsimp only [List.cons_append, List.nil_append]
    rw [hlen] at qn
    have e9 : sAbout v w (tape, us, np, nb, out, cd, pl) = (1, 0, (tape, us, np, nb, out, cd, pl)) := if_pos (by dsimp only; rw [qn]; decide)
    rw [e9] at B
    refine pgax_close us (by repeat (first | with_reducible exact pick_0 | with_reducible apply pick_s | exact sel_0 | apply sel_s)) hok hvt htz ?_
    exact jx_out E B T 1 6 (by repeat (first | with_reducible exact pick_0 | with_reducible apply pick_s | exact sel_0 | apply sel_s)) ⟨_, _, mm0, rfl, by omega, by omega, by omega, by omega⟩ (by omega) (by omega) (by omega) (by omega)
set_option maxHeartbeats 8000000 in
theorem c_pg_number {g : GT} {z : Nat → Nat} (hA : GA g z) (d M N x P Q : Nat) (v : Int32) (S : AS) (hd : 100 ≤ d) (hM : 9100000 + 800 * S.1.length ≤ 320 * M + P) (hN : 1700000 + 21 * S.1.length ≤ N + Q) : CtrV g mX7_number 6 d M N x [.int v] [PGA g z x S P Q] (pgo g z x P Q S.1.length M N (sNumber v S).1 (some (.long (sNumber v S).2.1)) (sNumber v S).2.2) (pgx g z x P Q S.1.length M N (sNumber v S).1 (sNumber v S).2.2 [(exI, 1), (exA, 2), (exM, 3)]) := by
  refine ⟨pga_rcv, ?_⟩
  have hG := hA.1
  have h2 := hA.2.1
  obtain ⟨tape, us, np, nb, out, cd, pl⟩ := S
  dsimp only at hM hN
  refine ctr_intro hG (by decide +kernel) (Nat.le_of_ble_eq_true rfl) ?_
  rintro X F rfl E B hI T
  replace E : JE X RX7 cX7_number 3 d M N := E
  show J X _ [PGA X.1 z x (tape, us, np, nb, out, cd, pl) P Q, F] 0 0 0 [some (.ref x), some (.int v), none] []
  refine pga_open (by repeat (first | with_reducible exact pick_0 | with_reducible apply pick_s)) ?_
  intro tp vl rd ld gr e0 ou p1 m1 lf p2 m2 rt p3 m3 capT capV capG c1 k1 c2 k2 c3 k3 b2 b3 vs hS
  refine j_know (fun w hw => pgl_know w hw) (fun hcp => ?_)
  dsimp only [PGL, List.cons_append, List.nil_append]
  obtain ⟨hok, hvt, htz, hP, hQ⟩ := hS
  dsimp only at hvt hP hQ
  have hvs := vsok_of hok hvt htz
  have hlen : vs.length = us.length := by rw [← hvt, vts_len]
  have h65 : tape.length ≤ 65536 := hok.1
  have h30 : us.length ≤ 3000 := hok.2.1
  have h60 : np ≤ 6000 := hok.2.2.1
  have hnb : nb ≤ 65536 := hok.2.2.2.1
  have hou : out.length ≤ 65536 := hok.2.2.2.2.1
  dsimp only at B
  refine j_aload_n E 1 dX7_number_0 0 rfl rfl rfl ?_
  refine j_iload_n E 2 dX7_number_1 1 rfl rfl rfl ?_
  refine j_callVX E (c_nd_value hA (d-1) x tp vl rd ou lf rt np nb capV v vs (by omega)) 5 dX7_number_2 _ _ _ iv_X7_90 rfl rfl rfl (by repeat (first | with_reducible exact pick_0 | with_reducible apply pick_s | exact sel_0 | apply sel_s)) (by omega) (by omega) (by omega) (Nat.le_of_ble_eq_true rfl) rfl ?_ ?_
  · rintro _ _ _ _ ⟨qb, rfl, rfl, rfl, rfl⟩
    dsimp only [List.cons_append, List.nil_append, Option.toList]
    rw [hlen] at qb
    obtain ⟨j, hj, rfl⟩ := inB_t (by omega) qb
    obtain ⟨⟨ea, ev, et⟩, he⟩ : ∃ e, vs[j]? = some e := ⟨_, List.getElem?_eq_getElem (by omega)⟩
    have hev : vAt us j = ev := by rw [← hvt]; exact vAt_of he
    have het : VTok us.length np ev := by rw [← hev]; exact aok_at hok (show j < us.length by omega)
    have hek : ev.1 ≤ 10 := het.1
    refine j_aload_n E 6 dX7_number_5 0 rfl rfl rfl ?_
    refine j_getf E 9 dX7_number_6 fl_X7_19 (by repeat (first | with_reducible exact pick_0 | with_reducible apply pick_s)) (by rfl) rfl ?_
    refine j_iload_n E 10 dX7_number_9 1 rfl rfl rfl ?_
    refine j_callV E (c_vls_at (z := z) hG (d-1) vl np nb capV j (by omega) vs _ he (by omega)) 13 dX7_number_10 _ _ _ iv_X7_152 rfl rfl rfl (by repeat (first | with_reducible exact pick_0 | with_reducible apply pick_s | exact sel_0 | apply sel_s)) (by omega) (by omega) (by omega) (Nat.le_of_ble_eq_true rfl) rfl ?_
    rintro _ _ _ _ ⟨rfl, rfl, rfl, rfl⟩
    dsimp only [List.cons_append, List.nil_append, Option.toList]
    refine j_astore_n E 14 dX7_number_13 2 rfl (Nat.le_of_ble_eq_true rfl) rfl rfl ?_
    dsimp only [List.set]
    refine j_open (P := VLS X.1 z vl vs np nb capV) (by repeat (first | with_reducible exact pick_0 | with_reducible apply pick_s)) vls_open ?_
    rintro al -
    dsimp only [VLSo, List.cons_append, List.nil_append]
    refine j_open (P := VSL X.1 z 0 vs) (by repeat (first | with_reducible exact pick_0 | with_reducible apply pick_s)) (vsl_open he) ?_
    rintro _ -
    dsimp only [List.cons_append, List.nil_append]
    refine j_open (by repeat (first | with_reducible exact pick_0 | with_reducible apply pick_s)) valc_open ?_
    rintro ⟨bq, pq, xf⟩ hx
    dsimp only [VALo, List.cons_append, List.nil_append] at hx ⊢
    have good : (ev.1 = 2 ∨ ev.1 = 3 ∨ ev.1 = 4 ∨ ev.1 = 10) → J X 3 [pt ea (.inr (4, [.int (nI ev.1), .int (nI j), .long ev.2.1, .int ev.2.2.1, .ref bq, .ref pq, .int (nI ev.2.2.2.2.length), .int et])), BYS X.1 z bq ev.2.2.2.1, PRT X.1 z pq (pcap ev.2.2.2.2.length) xf, VSL X.1 z 0 (vs.take j), VSL X.1 z (j + 1) (vs.drop (j + 1)), pt vl (.inr (5, [.ref al, .int (nI np), .int (nI nb)])), LST X.1 z al (adr vs) capV, PGF x tp vl rd ou lf rt, ROW X.1 tp tape capT, RDR rd ld gr e0 (nI cd) (nI pl), LEAx ld, LST X.1 z gr [] capG, PCK X.1 z ou p1 m1 out c1 k1, PCK X.1 z lf p2 m2 b2 c2 k2, PCK X.1 z rt p3 m3 b3 c3 k3, F] (0 + 0 + 0) (0 + 0 + 0) 57 [some (.ref x), some (.int (nI j)), some (.ref ea)] [] := by
      intro qn
      refine valc_close ev _ (by repeat (first | with_reducible exact pick_0 | with_reducible apply pick_s | exact sel_0 | apply sel_s)) rfl hx ?_
      refine j_aload_n E 58 dX7_number_57 2 rfl rfl rfl ?_
      refine j_callV E (c_val_isHigh (z := z) hG (d-1) ea j (pcap ev.2.2.2.2.length) ev et (by omega)) 61 dX7_number_58 _ _ _ iv_X7_176 rfl rfl rfl (by repeat (first | with_reducible exact pick_0 | with_reducible apply pick_s | exact sel_0 | apply sel_s)) (by omega) (by omega) (by omega) (Nat.le_of_ble_eq_true rfl) rfl ?_
      rintro _ _ _ _ ⟨rfl, rfl, rfl, rfl⟩
      dsimp only [List.cons_append, List.nil_append, Option.toList]
      by_cases qh : ev.1 = 2 ∧ ev.2.2.1 = 1
      · rw [if_pos qh]
        have e9 : sNumber (nI j) (tape, us, np, nb, out, cd, pl) = (3, 0, (tape, us, np, nb, out, cd, pl)) := by
          unfold sNumber
          dsimp only
          rw [if_neg (fun q => q qb), nI_clamp (by omega), hev, if_neg (fun q => q qn), if_pos qh]
        rw [e9] at B
        refine j_if_eq E 74 64 dX7_number_61 (by decide) rfl (fun h61 => ?_) (fun h61 => ?_)
        · exact absurd h61 (by decide)
        · refine j_close (by repeat (first | with_reducible exact pick_0 | with_reducible apply pick_s | exact sel_0 | apply sel_s)) (vsl_back he) ?_
          refine j_close (by repeat (first | with_reducible exact pick_0 | with_reducible apply pick_s | exact sel_0 | apply sel_s)) vls_of ?_
          refine pga_close (us) (by repeat (first | with_reducible exact pick_0 | with_reducible apply pick_s | exact sel_0 | apply sel_s)) hok hvt htz ?_
          exact j_throwS E B T h2 (tk_M sr_181) 1 6 dX7_number_64 67 68 70 73 rfl rfl rfl rfl dX7_number_67 dX7_number_68 dX7_number_70 dX7_number_73 (by repeat (first | with_reducible exact pick_0 | with_reducible apply pick_s | exact sel_0 | apply sel_s)) ⟨_, _, mm2, rfl, by omega, by omega, by omega, by omega⟩ (by omega) (by omega) (by omega) (by omega) (by show 2 + 3 < d; omega) (by show 0 + (13 * (2 + 1) + 43) ≤ 46 * d; omega)
      · rw [if_neg qh]
        have e9 : sNumber (nI j) (tape, us, np, nb, out, cd, pl) = (0, ev.2.1, (tape, us, np, nb, out, cd, pl)) := by
          unfold sNumber
          dsimp only
          rw [if_neg (fun q => q qb), nI_clamp (by omega), hev, if_neg (fun q => q qn), if_neg qh]
        rw [e9] at B
        refine j_if_eq E 74 64 dX7_number_61 (by decide) rfl (fun h61 => ?_) (fun h61 => ?_)
        · refine j_open (by repeat (first | with_reducible exact pick_0 | with_reducible apply pick_s)) valc_open ?_
          rintro ⟨bq, pq, xf⟩ hx
          dsimp only [VALo, List.cons_append, List.nil_append] at hx ⊢
          refine j_aload_n E 75 dX7_number_74 2 rfl rfl rfl ?_
          refine j_getfF E 78 dX7_number_75 fl_X7_184 (by repeat (first | with_reducible exact pick_0 | with_reducible apply pick_s)) (by rfl) rfl ?_
          refine valc_close ev _ (by repeat (first | with_reducible exact pick_0 | with_reducible apply pick_s | exact sel_0 | apply sel_s)) rfl hx ?_
          refine j_close (by repeat (first | with_reducible exact pick_0 | with_reducible apply pick_s | exact sel_0 | apply sel_s)) (vsl_back he) ?_
          refine j_close (by repeat (first | with_reducible exact pick_0 | with_reducible apply pick_s | exact sel_0 | apply sel_s)) vls_of ?_
          refine pga_close (us) (by repeat (first | with_reducible exact pick_0 | with_reducible apply pick_s | exact sel_0 | apply sel_s)) hok hvt htz ?_
          exact j_lret E B rfl 0 0 dX7_number_78 (by repeat (first | with_reducible exact pick_0 | with_reducible apply pick_s | exact sel_0 | apply sel_s)) ⟨_, _, rfl, rfl, rfl, by omega, by omega, by omega, by omega⟩ (by omega) (by omega) (by omega) (by omega)
        · exact absurd rfl h61
    refine j_aload_n E 15 dX7_number_14 2 rfl rfl rfl ?_
    refine j_getfF E 18 dX7_number_15 fl_X7_162 (by repeat (first | with_reducible exact pick_0 | with_reducible apply pick_s)) (by rfl) rfl ?_
    refine j_iconst E (2) 19 dX7_number_18 (by decide) rfl ?_
    refine j_icmp_eq E 57 22 dX7_number_19 (by decide) rfl (fun h19 => ?_) (fun h19 => ?_)
    · exact j_sel (by repeat (first | with_reducible exact pick_0 | with_reducible apply pick_s | exact sel_0 | apply sel_s)) (good (Or.inl ((nI_eq (by omega) (by decide)).mp h19)))
    · refine j_aload_n E 23 dX7_number_22 2 rfl rfl rfl ?_
      refine j_getfF E 26 dX7_number_23 fl_X7_162 (by repeat (first | with_reducible exact pick_0 | with_reducible apply pick_s)) (by rfl) rfl ?_
      refine j_iconst E (3) 27 dX7_number_26 (by decide) rfl ?_
      refine j_icmp_eq E 57 30 dX7_number_27 (by decide) rfl (fun h27 => ?_) (fun h27 => ?_)
      · exact j_sel (by repeat (first | with_reducible exact pick_0 | with_reducible apply pick_s | exact sel_0 | apply sel_s)) (good (Or.inr (Or.inl ((nI_eq (by omega) (by decide)).mp h27))))
      · refine j_aload_n E 31 dX7_number_30 2 rfl rfl rfl ?_
        refine j_getfF E 34 dX7_number_31 fl_X7_162 (by repeat (first | with_reducible exact pick_0 | with_reducible apply pick_s)) (by rfl) rfl ?_
        refine j_iconst E (4) 35 dX7_number_34 (by decide) rfl ?_
        refine j_icmp_eq E 57 38 dX7_number_35 (by decide) rfl (fun h35 => ?_) (fun h35 => ?_)
        · exact j_sel (by repeat (first | with_reducible exact pick_0 | with_reducible apply pick_s | exact sel_0 | apply sel_s)) (good (Or.inr (Or.inr (Or.inl ((nI_eq (by omega) (by decide)).mp h35)))))
        · refine j_aload_n E 39 dX7_number_38 2 rfl rfl rfl ?_
          refine j_getfF E 42 dX7_number_39 fl_X7_162 (by repeat (first | with_reducible exact pick_0 | with_reducible apply pick_s)) (by rfl) rfl ?_
          refine j_bipush E (10) 44 dX7_number_42 (by decide) rfl ?_
          refine j_icmp_eq E 57 47 dX7_number_44 (by decide) rfl (fun h44 => ?_) (fun h44 => ?_)
          · exact j_sel (by repeat (first | with_reducible exact pick_0 | with_reducible apply pick_s | exact sel_0 | apply sel_s)) (good (Or.inr (Or.inr (Or.inr ((nI_eq (by omega) (by decide)).mp h44)))))
          · have qn : ¬ (ev.1 = 2 ∨ ev.1 = 3 ∨ ev.1 = 4 ∨ ev.1 = 10) := fun q => q.elim (fun q => h19 (congrArg nI q)) (fun q => q.elim (fun q => h27 (congrArg nI q)) (fun q => q.elim (fun q => h35 (congrArg nI q)) (fun q => h44 (congrArg nI q))))
            have e9 : sNumber (nI j) (tape, us, np, nb, out, cd, pl) = (2, 0, (tape, us, np, nb, out, cd, pl)) := by
              unfold sNumber
              dsimp only
              rw [if_neg (fun q => q qb), nI_clamp (by omega), hev, if_pos qn]
            rw [e9] at B
            refine valc_close ev _ (by repeat (first | with_reducible exact pick_0 | with_reducible apply pick_s | exact sel_0 | apply sel_s)) rfl hx ?_
            refine j_close (by repeat (first | with_reducible exact pick_0 | with_reducible apply pick_s | exact sel_0 | apply sel_s)) (vsl_back he) ?_
            refine j_close (by repeat (first | with_reducible exact pick_0 | with_reducible apply pick_s | exact sel_0 | apply sel_s)) vls_of ?_
            refine pga_close (us) (by repeat (first | with_reducible exact pick_0 | with_reducible apply pick_s | exact sel_0 | apply sel_s)) hok hvt htz ?_
            exact j_throwS E B T h2 (tk_A sr_174) 1 6 dX7_number_47 50 51 53 56 rfl rfl rfl rfl dX7_number_50 dX7_number_51 dX7_number_53 dX7_number_56 (by repeat (first | with_reducible exact pick_0 | with_reducible apply pick_s | exact sel_0 | apply sel_s)) ⟨_, _, mm1, rfl, by omega, by omega, by omega, by omega⟩ (by omega) (by omega) (by omega) (by omega) (by show 2 + 3 < d; omega) (by show 0 + (13 * (2 + 1) + 43) ≤ 46 * d; omega)
  · rintro En _ _ _ ⟨qn, rfl, rfl, rfl, rfl⟩
    dsimp only [List.cons_append, List.nil_append]
    rw [hlen] at qn
    have e9 : sNumber v (tape, us, np, nb, out, cd, pl) = (1, 0, (tape, us, np, nb, out, cd, pl)) := if_pos (by dsimp only; rw [qn]; decide)
    rw [e9] at B
    refine pgax_close us (by repeat (first | with_reducible exact pick_0 | with_reducible apply pick_s | exact sel_0 | apply sel_s)) hok hvt htz ?_
    exact jx_out E B T 1 6 (by repeat (first | with_reducible exact pick_0 | with_reducible apply pick_s | exact sel_0 | apply sel_s)) ⟨_, _, mm0, rfl, by omega, by omega, by omega, by omega⟩ (by omega) (by omega) (by omega) (by omega)
set_option maxHeartbeats 8000000 in
theorem c_pg_part {g : GT} {z : Nat → Nat} (hA : GA g z) (d M N x P Q : Nat) (v w : Int32) (S : AS) (hd : 100 ≤ d) (hM : 9100000 + 800 * S.1.length ≤ 320 * M + P) (hN : 1700000 + 21 * S.1.length ≤ N + Q) : CtrV g mX7_part 6 d M N x [.int v, .int w] [PGA g z x S P Q] (pgo g z x P Q S.1.length M N (sPart v w S).1 (some (.int (sPart v w S).2.1)) (sPart v w S).2.2) (pgx g z x P Q S.1.length M N (sPart v w S).1 (sPart v w S).2.2 [(exI, 1)]) := by
  refine ⟨pga_rcv, ?_⟩
  have hG := hA.1
  have h2 := hA.2.1
  obtain ⟨tape, us, np, nb, out, cd, pl⟩ := S
  dsimp only at hM hN
  refine ctr_intro hG (by decide +kernel) (Nat.le_of_ble_eq_true rfl) ?_
  rintro X F rfl E B hI T
  replace E : JE X RX7 cX7_part 4 d M N := E
  show J X _ [PGA X.1 z x (tape, us, np, nb, out, cd, pl) P Q, F] 0 0 0 [some (.ref x), some (.int v), some (.int w), none] []
  refine pga_open (by repeat (first | with_reducible exact pick_0 | with_reducible apply pick_s)) ?_
  intro tp vl rd ld gr e0 ou p1 m1 lf p2 m2 rt p3 m3 capT capV capG c1 k1 c2 k2 c3 k3 b2 b3 vs hS
  refine j_know (fun w hw => pgl_know w hw) (fun hcp => ?_)
  dsimp only [PGL, List.cons_append, List.nil_append]
  obtain ⟨hok, hvt, htz, hP, hQ⟩ := hS
  dsimp only at hvt hP hQ
  have hvs := vsok_of hok hvt htz
  have hlen : vs.length = us.length := by rw [← hvt, vts_len]
  have h65 : tape.length ≤ 65536 := hok.1
  have h30 : us.length ≤ 3000 := hok.2.1
  have h60 : np ≤ 6000 := hok.2.2.1
  have hnb : nb ≤ 65536 := hok.2.2.2.1
  have hou : out.length ≤ 65536 := hok.2.2.2.2.1
  dsimp only at B
  refine j_aload_n E 1 dX7_part_0 0 rfl rfl rfl ?_
  refine j_iload_n E 2 dX7_part_1 1 rfl rfl rfl ?_
  refine j_callVX E (c_nd_value hA (d-1) x tp vl rd ou lf rt np nb capV v vs (by omega)) 5 dX7_part_2 _ _ _ iv_X7_90 rfl rfl rfl (by repeat (first | with_reducible exact pick_0 | with_reducible apply pick_s | exact sel_0 | apply sel_s)) (by omega) (by omega) (by omega) (Nat.le_of_ble_eq_true rfl) rfl ?_ ?_
  · rintro _ _ _ _ ⟨qb, rfl, rfl, rfl, rfl⟩
    dsimp only [List.cons_append, List.nil_append, Option.toList]
    rw [hlen] at qb
    obtain ⟨j, hj, rfl⟩ := inB_t (by omega) qb
    obtain ⟨⟨ea, ev, et⟩, he⟩ : ∃ e, vs[j]? = some e := ⟨_, List.getElem?_eq_getElem (by omega)⟩
    have hev : vAt us j = ev := by rw [← hvt]; exact vAt_of he
    have het : VTok us.length np ev := by rw [← hev]; exact aok_at hok (show j < us.length by omega)
    have hek : ev.1 ≤ 10 := het.1
    refine j_aload_n E 6 dX7_part_5 0 rfl rfl rfl ?_
    refine j_getf E 9 dX7_part_6 fl_X7_19 (by repeat (first | with_reducible exact pick_0 | with_reducible apply pick_s)) (by rfl) rfl ?_
    refine j_iload_n E 10 dX7_part_9 1 rfl rfl rfl ?_
    refine j_callV E (c_vls_at (z := z) hG (d-1) vl np nb capV j (by omega) vs _ he (by omega)) 13 dX7_part_10 _ _ _ iv_X7_152 rfl rfl rfl (by repeat (first | with_reducible exact pick_0 | with_reducible apply pick_s | exact sel_0 | apply sel_s)) (by omega) (by omega) (by omega) (Nat.le_of_ble_eq_true rfl) rfl ?_
    rintro _ _ _ _ ⟨rfl, rfl, rfl, rfl⟩
    dsimp only [List.cons_append, List.nil_append, Option.toList]
    refine j_astore_n E 14 dX7_part_13 3 rfl (Nat.le_of_ble_eq_true rfl) rfl rfl ?_
    dsimp only [List.set]
    refine j_open (P := VLS X.1 z vl vs np nb capV) (by repeat (first | with_reducible exact pick_0 | with_reducible apply pick_s)) vls_open ?_
    rintro al -
    dsimp only [VLSo, List.cons_append, List.nil_append]
    refine j_open (P := VSL X.1 z 0 vs) (by repeat (first | with_reducible exact pick_0 | with_reducible apply pick_s)) (vsl_open he) ?_
    rintro _ -
    dsimp only [List.cons_append, List.nil_append]
    refine j_open (by repeat (first | with_reducible exact pick_0 | with_reducible apply pick_s)) valc_open ?_
    rintro ⟨bq, pq, xf⟩ hx
    dsimp only [VALo, List.cons_append, List.nil_append] at hx ⊢
    have hbl := het.2.1
    have hpl := het.2.2.1
    have hpc1 := pcap_le ev.2.2.2.2.length
    have bad : ¬ inB w ev.2.2.2.1.length = true → ¬ inB w ev.2.2.2.2.length = true → J X 4 [pt ea (.inr (4, [.int (nI ev.1), .int (nI j), .long ev.2.1, .int ev.2.2.1, .ref bq, .ref pq, .int (nI ev.2.2.2.2.length), .int et])), BYS X.1 z bq ev.2.2.2.1, PRT X.1 z pq (pcap ev.2.2.2.2.length) xf, VSL X.1 z 0 (vs.take j), VSL X.1 z (j + 1) (vs.drop (j + 1)), pt vl (.inr (5, [.ref al, .int (nI np), .int (nI nb)])), LST X.1 z al (adr vs) capV, PGF x tp vl rd ou lf rt, ROW X.1 tp tape capT, RDR rd ld gr e0 (nI cd) (nI pl), LEAx ld, LST X.1 z gr [] capG, PCK X.1 z ou p1 m1 out c1 k1, PCK X.1 z lf p2 m2 b2 c2 k2, PCK X.1 z rt p3 m3 b3 c3 k3, F] (0 + 0 + 0) (0 + 0 + 0) 57 [some (.ref x), some (.int (nI j)), some (.int w), some (.ref ea)] [] := by
      intro r1 r2
      have e9 : sPart (nI j) w (tape, us, np, nb, out, cd, pl) = (1, 0, (tape, us, np, nb, out, cd, pl)) := by
        unfold sPart
        dsimp only
        rw [if_neg (fun q => q qb), nI_clamp (by omega), hev, if_neg r1, if_neg r2]
      rw [e9] at B
      refine valc_close ev _ (by repeat (first | with_reducible exact pick_0 | with_reducible apply pick_s | exact sel_0 | apply sel_s)) rfl hx ?_
      refine j_close (by repeat (first | with_reducible exact pick_0 | with_reducible apply pick_s | exact sel_0 | apply sel_s)) (vsl_back he) ?_
      refine j_close (by repeat (first | with_reducible exact pick_0 | with_reducible apply pick_s | exact sel_0 | apply sel_s)) vls_of ?_
      refine pga_close (us) (by repeat (first | with_reducible exact pick_0 | with_reducible apply pick_s | exact sel_0 | apply sel_s)) hok hvt htz ?_
      exact j_throwS E B T h2 (tk_I sr_198) 1 6 dX7_part_57 60 61 63 66 rfl rfl rfl rfl dX7_part_60 dX7_part_61 dX7_part_63 dX7_part_66 (by repeat (first | with_reducible exact pick_0 | with_reducible apply pick_s | exact sel_0 | apply sel_s)) ⟨_, _, mm0, rfl, by omega, by omega, by omega, by omega⟩ (by omega) (by omega) (by omega) (by omega) (by show 2 + 3 < d; omega) (by show 0 + (13 * (2 + 1) + 43) ≤ 46 * d; omega)
    have mid : ¬ inB w ev.2.2.2.1.length = true → J X 4 [pt ea (.inr (4, [.int (nI ev.1), .int (nI j), .long ev.2.1, .int ev.2.2.1, .ref bq, .ref pq, .int (nI ev.2.2.2.2.length), .int et])), BYS X.1 z bq ev.2.2.2.1, PRT X.1 z pq (pcap ev.2.2.2.2.length) xf, VSL X.1 z 0 (vs.take j), VSL X.1 z (j + 1) (vs.drop (j + 1)), pt vl (.inr (5, [.ref al, .int (nI np), .int (nI nb)])), LST X.1 z al (adr vs) capV, PGF x tp vl rd ou lf rt, ROW X.1 tp tape capT, RDR rd ld gr e0 (nI cd) (nI pl), LEAx ld, LST X.1 z gr [] capG, PCK X.1 z ou p1 m1 out c1 k1, PCK X.1 z lf p2 m2 b2 c2 k2, PCK X.1 z rt p3 m3 b3 c3 k3, F] (0 + 0 + 0) (0 + 0 + 0) 38 [some (.ref x), some (.int (nI j)), some (.int w), some (.ref ea)] [] := by
      intro r1
      refine j_iload_n E 39 dX7_part_38 2 rfl rfl rfl ?_
      refine j_if_lt E 57 42 dX7_part_39 (by decide) rfl (fun h39 => ?_) (fun h39 => ?_)
      · refine bad r1 (fun q => ?_)
        obtain ⟨i, hi, rfl⟩ := inB_t (by omega) q
        exact nI_pos (by omega) h39
      · obtain ⟨i, hi, rfl⟩ := nI_of h39
        refine j_iload_n E 43 dX7_part_42 2 rfl rfl rfl ?_
        refine j_aload_n E 44 dX7_part_43 3 rfl rfl rfl ?_
        refine j_getfN E 47 dX7_part_44 fl_X7_191 (by repeat (first | with_reducible exact pick_0 | with_reducible apply pick_s)) (by rfl) rfl ?_
        refine j_icmp_ge E 57 50 dX7_part_47 (by decide) rfl (fun h47 => ?_) (fun h47 => ?_)
        · refine bad r1 (fun q => ?_)
          rw [inB_nI hi (by omega)] at q
          exact absurd (show nI ev.2.2.2.2.length ≤ nI i from h47) (nI_ge (of_decide_eq_true q) (by omega))
        · have hil : i < ev.2.2.2.2.length := Nat.lt_of_not_le fun q => h47 (nI_le q hi)
          have e9 : sPart (nI j) (nI i) (tape, us, np, nb, out, cd, pl) = (0, nI (ev.2.2.2.2.getD i 0), (tape, us, np, nb, out, cd, pl)) := by
            unfold sPart
            dsimp only
            rw [if_neg (fun q => q qb), nI_clamp (by omega), nI_clamp hi, hev, if_neg r1, if_pos (by rw [inB_nI hi (by omega)]; exact decide_eq_true hil)]
          rw [e9] at B
          have hcapP : 0 < pcap ev.2.2.2.2.length := by omega
          refine j_aload_n E 51 dX7_part_50 3 rfl rfl rfl ?_
          refine j_getfN E 54 dX7_part_51 fl_X7_194 (by repeat (first | with_reducible exact pick_0 | with_reducible apply pick_s)) (by rfl) rfl ?_
          refine j_open (by repeat (first | with_reducible exact pick_0 | with_reducible apply pick_s)) (prt_open hcapP) ?_
          rintro _ -
          dsimp only [List.cons_append, List.nil_append]
          refine j_iload_n E 55 dX7_part_54 2 rfl rfl rfl ?_
          refine j_iald E 56 dX7_part_55 (by repeat (first | with_reducible exact pick_0 | with_reducible apply pick_s)) (vp_in_nI (by omega) (by omega)) rfl ?_
          refine j_eqi (y := nI (ev.2.2.2.2.getD i 0)) (by rw [nI_clamp hi]; exact hx.2.2.2 i hil) ?_
          refine j_close (by repeat (first | with_reducible exact pick_0 | with_reducible apply pick_s | exact sel_0 | apply sel_s)) (prt_of (z := z) hcapP) ?_
          refine valc_close ev _ (by repeat (first | with_reducible exact pick_0 | with_reducible apply pick_s | exact sel_0 | apply sel_s)) rfl hx ?_
          refine j_close (by repeat (first | with_reducible exact pick_0 | with_reducible apply pick_s | exact sel_0 | apply sel_s)) (vsl_back he) ?_
          refine j_close (by repeat (first | with_reducible exact pick_0 | with_reducible apply pick_s | exact sel_0 | apply sel_s)) vls_of ?_
          refine pga_close (us) (by repeat (first | with_reducible exact pick_0 | with_reducible apply pick_s | exact sel_0 | apply sel_s)) hok hvt htz ?_
          exact j_iret E B rfl 0 0 dX7_part_56 (by repeat (first | with_reducible exact pick_0 | with_reducible apply pick_s | exact sel_0 | apply sel_s)) ⟨_, _, rfl, rfl, rfl, by omega, by omega, by omega, by omega⟩ (by omega) (by omega) (by omega) (by omega)
    refine j_iload_n E 15 dX7_part_14 2 rfl rfl rfl ?_
    refine j_if_lt E 38 18 dX7_part_15 (by decide) rfl (fun h15 => ?_) (fun h15 => ?_)
    · refine j_sel (by repeat (first | with_reducible exact pick_0 | with_reducible apply pick_s | exact sel_0 | apply sel_s)) (mid (fun q => ?_))
      obtain ⟨i, hi, rfl⟩ := inB_t (by omega) q
      exact nI_pos (by omega) h15
    · obtain ⟨i, hi, rfl⟩ := nI_of h15
      refine j_iload_n E 19 dX7_part_18 2 rfl rfl rfl ?_
      refine j_aload_n E 20 dX7_part_19 3 rfl rfl rfl ?_
      refine j_getfF E 23 dX7_part_20 fl_X7_188 (by repeat (first | with_reducible exact pick_0 | with_reducible apply pick_s)) (by rfl) rfl ?_
      refine j_lenBys hA E 24 dX7_part_23 (by repeat (first | with_reducible exact pick_0 | with_reducible apply pick_s)) rfl ?_
      refine j_icmp_ge E 38 27 dX7_part_24 (by decide) rfl (fun h24 => ?_) (fun h24 => ?_)
      · refine j_sel (by repeat (first | with_reducible exact pick_0 | with_reducible apply pick_s | exact sel_0 | apply sel_s)) (mid (fun q => ?_))
        rw [inB_nI hi (by omega)] at q
        exact absurd (show nI ev.2.2.2.1.length ≤ nI i from h24) (nI_ge (of_decide_eq_true q) (by omega))
      · have hil : i < ev.2.2.2.1.length := Nat.lt_of_not_le fun q => h24 (nI_le q hi)
        have e9 : sPart (nI j) (nI i) (tape, us, np, nb, out, cd, pl) = (0, nI (ev.2.2.2.1.getD i 0).toNat, (tape, us, np, nb, out, cd, pl)) := by
          unfold sPart
          dsimp only
          rw [if_neg (fun q => q qb), nI_clamp (by omega), nI_clamp hi, hev, if_pos (by rw [inB_nI hi (by omega)]; exact decide_eq_true hil)]
        rw [e9] at B
        refine j_aload_n E 28 dX7_part_27 3 rfl rfl rfl ?_
        refine j_getfF E 31 dX7_part_28 fl_X7_188 (by repeat (first | with_reducible exact pick_0 | with_reducible apply pick_s)) (by rfl) rfl ?_
        refine j_iload_n E 32 dX7_part_31 2 rfl rfl rfl ?_
        refine j_baldBys E 33 dX7_part_32 (by repeat (first | with_reducible exact pick_0 | with_reducible apply pick_s)) hil (by omega) rfl ?_
        refine j_sipush E (255) 36 dX7_part_33 (by decide) rfl ?_
        refine j_iand E 37 dX7_part_36 rfl ?_
        refine j_eqi (by8_and _) ?_
        refine valc_close ev _ (by repeat (first | with_reducible exact pick_0 | with_reducible apply pick_s | exact sel_0 | apply sel_s)) rfl hx ?_
        refine j_close (by repeat (first | with_reducible exact pick_0 | with_reducible apply pick_s | exact sel_0 | apply sel_s)) (vsl_back he) ?_
        refine j_close (by repeat (first | with_reducible exact pick_0 | with_reducible apply pick_s | exact sel_0 | apply sel_s)) vls_of ?_
        refine pga_close (us) (by repeat (first | with_reducible exact pick_0 | with_reducible apply pick_s | exact sel_0 | apply sel_s)) hok hvt htz ?_
        exact j_iret E B rfl 0 0 dX7_part_37 (by repeat (first | with_reducible exact pick_0 | with_reducible apply pick_s | exact sel_0 | apply sel_s)) ⟨_, _, rfl, rfl, rfl, by omega, by omega, by omega, by omega⟩ (by omega) (by omega) (by omega) (by omega)
  · rintro En _ _ _ ⟨qn, rfl, rfl, rfl, rfl⟩
    dsimp only [List.cons_append, List.nil_append]
    rw [hlen] at qn
    have e9 : sPart v w (tape, us, np, nb, out, cd, pl) = (1, 0, (tape, us, np, nb, out, cd, pl)) := if_pos (by dsimp only; rw [qn]; decide)
    rw [e9] at B
    refine pgax_close us (by repeat (first | with_reducible exact pick_0 | with_reducible apply pick_s | exact sel_0 | apply sel_s)) hok hvt htz ?_
    exact jx_out E B T 1 6 (by repeat (first | with_reducible exact pick_0 | with_reducible apply pick_s | exact sel_0 | apply sel_s)) ⟨_, _, mm0, rfl, by omega, by omega, by omega, by omega⟩ (by omega) (by omega) (by omega) (by omega)
set_option maxHeartbeats 8000000 in
theorem c_pg_same {g : GT} {z : Nat → Nat} (hA : GA g z) (d M N x P Q : Nat) (a b : Int32) (S : AS) (hd : 100 ≤ d) (hM : 9100000 + 800 * S.1.length ≤ 320 * M + P) (hN : 1700000 + 21 * S.1.length ≤ N + Q) : CtrV g mX7_same 6 d M N x [.int a, .int b] [PGA g z x S P Q] (pgo g z x P Q S.1.length M N (sSame a b S).1 (some (.int (sSame a b S).2.1)) (sSame a b S).2.2) (pgx g z x P Q S.1.length M N (sSame a b S).1 (sSame a b S).2.2 [(exI, 1), (exU, 2)]) := by
  refine ⟨pga_rcv, ?_⟩
  have hG := hA.1
  have h2 := hA.2.1
  obtain ⟨tape, us, np, nb, out, cd, pl⟩ := S
  dsimp only at hM hN
  refine ctr_intro hG (by decide +kernel) (Nat.le_of_ble_eq_true rfl) ?_
  rintro X F rfl E B hI T
  replace E : JE X RX7 cX7_same 3 d M N := E
  show J X _ [PGA X.1 z x (tape, us, np, nb, out, cd, pl) P Q, F] 0 0 0 [some (.ref x), some (.int a), some (.int b)] []
  refine pga_open (by repeat (first | with_reducible exact pick_0 | with_reducible apply pick_s)) ?_
  intro tp vl rd ld gr e0 ou p1 m1 lf p2 m2 rt p3 m3 capT capV capG c1 k1 c2 k2 c3 k3 b2 b3 vs hS
  refine j_know (fun w hw => pgl_know w hw) (fun hcp => ?_)
  dsimp only [PGL, List.cons_append, List.nil_append]
  obtain ⟨hok, hvt, htz, hP, hQ⟩ := hS
  dsimp only at hvt hP hQ
  have hvs := vsok_of hok hvt htz
  have hlen : vs.length = us.length := by rw [← hvt, vts_len]
  have h65 : tape.length ≤ 65536 := hok.1
  have h30 : us.length ≤ 3000 := hok.2.1
  have h60 : np ≤ 6000 := hok.2.2.1
  have hnb : nb ≤ 65536 := hok.2.2.2.1
  have hou : out.length ≤ 65536 := hok.2.2.2.2.1
  dsimp only at B
  refine j_aload_n E 1 dX7_same_0 0 rfl rfl rfl ?_
  refine j_iload_n E 2 dX7_same_1 1 rfl rfl rfl ?_
  refine j_callVX E (c_nd_value hA (d-1) x tp vl rd ou lf rt np nb capV a vs (by omega)) 5 dX7_same_2 _ _ _ iv_X7_90 rfl rfl rfl (by repeat (first | with_reducible exact pick_0 | with_reducible apply pick_s | exact sel_0 | apply sel_s)) (by omega) (by omega) (by omega) (Nat.le_of_ble_eq_true rfl) rfl ?_ ?_
  · rintro _ _ _ _ ⟨qb1, rfl, rfl, rfl, rfl⟩
    dsimp only [List.cons_append, List.nil_append, Option.toList]
    rw [hlen] at qb1
    refine j_aload_n E 6 dX7_same_5 0 rfl rfl rfl ?_
    refine j_iload_n E 7 dX7_same_6 2 rfl rfl rfl ?_
    refine j_callVX E (c_nd_value hA (d-1) x tp vl rd ou lf rt np nb capV b vs (by omega)) 10 dX7_same_7 _ _ _ iv_X7_90 rfl rfl rfl (by repeat (first | with_reducible exact pick_0 | with_reducible apply pick_s | exact sel_0 | apply sel_s)) (by omega) (by omega) (by omega) (Nat.le_of_ble_eq_true rfl) rfl ?_ ?_
    · rintro _ _ _ _ ⟨qb2, rfl, rfl, rfl, rfl⟩
      dsimp only [List.cons_append, List.nil_append, Option.toList]
      rw [hlen] at qb2
      obtain ⟨j, hj, rfl⟩ := inB_t (by omega) qb1
      obtain ⟨i, hi, rfl⟩ := inB_t (by omega) qb2
      obtain ⟨⟨ea, ev, et⟩, he⟩ : ∃ e, vs[j]? = some e := ⟨_, List.getElem?_eq_getElem (by omega)⟩
      have hev : vAt us j = ev := by rw [← hvt]; exact vAt_of he
      have het : VTok us.length np ev := by rw [← hev]; exact aok_at hok (show j < us.length by omega)
      have hek : ev.1 ≤ 10 := het.1
      obtain ⟨⟨fa, fv, ft⟩, hf⟩ : ∃ e, vs[i]? = some e := ⟨_, List.getElem?_eq_getElem (by omega)⟩
      have hfv : vAt us i = fv := by rw [← hvt]; exact vAt_of hf
      have hft : VTok us.length np fv := by rw [← hfv]; exact aok_at hok (show i < us.length by omega)
      have hfk : fv.1 ≤ 10 := hft.1
      have e8 : sSame (nI j) (nI i) (tape, us, np, nb, out, cd, pl) = match packU us 65536 j with
        | none => (2, 0, (tape, us, np, nb, out, cd, pl))
        | some p => match packU us 65536 i with
          | none => (2, 0, (tape, us, np, nb, out, cd, pl))
          | some q => (0, (if p = q then 1 else 0), (tape, us, np, nb, out, cd, pl)) := by
        unfold sSame
        dsimp only
        rw [if_neg (fun q => q.elim (fun q => q qb1) (fun q => q qb2)), nI_clamp (by omega), nI_clamp (by omega)]
        rfl
      rw [e8] at B
      refine j_aload_n E 11 dX7_same_10 0 rfl rfl rfl ?_
      refine j_getf E 14 dX7_same_11 fl_X7_37 (by repeat (first | with_reducible exact pick_0 | with_reducible apply pick_s)) (by rfl) rfl ?_
      refine j_aload_n E 15 dX7_same_14 0 rfl rfl rfl ?_
      refine j_getf E 18 dX7_same_15 fl_X7_19 (by repeat (first | with_reducible exact pick_0 | with_reducible apply pick_s)) (by rfl) rfl ?_
      refine j_iload_n E 19 dX7_same_18 1 rfl rfl rfl ?_
      refine j_ldcI E _ 21 dX7_same_19 kc_X7_47 rfl ?_
      rw [show (65536 : Int32) = nI 65536 from rfl]
      refine j_callV E (c_pk_write hA (d-1) M N lf p2 m2 vl 65536 c2 k2 capV np nb j ea ev et b2 vs (by omega) hvs he (Nat.le_refl _) (by omega) (by omega)) 24 dX7_same_21 _ _ _ iv_X7_93 rfl rfl rfl (by repeat (first | with_reducible exact pick_0 | with_reducible apply pick_s | exact sel_0 | apply sel_s)) (by omega) (by omega) (by omega) (Nat.le_of_ble_eq_true rfl) rfl ?_
      rintro _ xdc xds _ ⟨xcap, xcC, rfl, rfl, g1, g2, g3, g4⟩
      dsimp only [List.cons_append, List.nil_append, Option.toList]
      rw [hvt]
      refine j_know (pick_know (P := PCK X.1 z lf p2 m2 _ xcap xcC) (by repeat (first | with_reducible exact pick_0 | with_reducible apply pick_s)) pck_know) (fun hcx => ?_)
      rcases hp : packU us 65536 j with _ | p
      · rw [hp] at B
        dsimp only [Option.isSome_none, Option.getD_none] at B ⊢
        refine j_if_eq E 44 27 dX7_same_24 (by decide) rfl (fun h24 => ?_) (fun h24 => ?_)
        · refine pga_close us (by repeat (first | with_reducible exact pick_0 | with_reducible apply pick_s | exact sel_0 | apply sel_s)) hok hvt htz ?_
          exact j_throwS E B T h2 (tk_U sr_200) (xdc + 1) (xds + 6) dX7_same_44 47 48 50 53 rfl rfl rfl rfl dX7_same_47 dX7_same_48 dX7_same_50 dX7_same_53 (by repeat (first | with_reducible exact pick_0 | with_reducible apply pick_s | exact sel_0 | apply sel_s)) ⟨_, _, mm1, rfl, by omega, by omega, by omega, by omega⟩ (by omega) (by omega) (by omega) (by omega) (by show 2 + 3 < d; omega) (by show 0 + (13 * (2 + 1) + 43) ≤ 46 * d; omega)
        · exact absurd rfl h24
      · rw [hp] at B
        dsimp only [Option.isSome_some, Option.getD_some] at B ⊢
        refine j_if_eq E 44 27 dX7_same_24 (by decide) rfl (fun h24 => ?_) (fun h24 => ?_)
        · exact absurd h24 (by decide)
        · refine j_aload_n E 28 dX7_same_27 0 rfl rfl rfl ?_
          refine j_getf E 31 dX7_same_28 fl_X7_40 (by repeat (first | with_reducible exact pick_0 | with_reducible apply pick_s)) (by rfl) rfl ?_
          refine j_aload_n E 32 dX7_same_31 0 rfl rfl rfl ?_
          refine j_getf E 35 dX7_same_32 fl_X7_19 (by repeat (first | with_reducible exact pick_0 | with_reducible apply pick_s)) (by rfl) rfl ?_
          refine j_iload_n E 36 dX7_same_35 2 rfl rfl rfl ?_
          refine j_ldcI E _ 38 dX7_same_36 kc_X7_47 rfl ?_
          rw [show (65536 : Int32) = nI 65536 from rfl]
          refine j_callV E (c_pk_write hA (d-1) (M - xdc) (N - xds) rt p3 m3 vl 65536 c3 k3 capV np nb i fa fv ft b3 vs (by omega) hvs hf (Nat.le_refl _) (by omega) (by omega)) 41 dX7_same_38 _ _ _ iv_X7_93 rfl rfl rfl (by repeat (first | with_reducible exact pick_0 | with_reducible apply pick_s | exact sel_0 | apply sel_s)) (by omega) (by omega) (by omega) (Nat.le_of_ble_eq_true rfl) rfl ?_
          rintro _ ydc yds _ ⟨ycap, ycC, rfl, rfl, y1, y2, y3, y4⟩
          dsimp only [List.cons_append, List.nil_append, Option.toList]
          rw [hvt]
          refine j_know (pick_know (P := PCK X.1 z rt p3 m3 _ ycap ycC) (by repeat (first | with_reducible exact pick_0 | with_reducible apply pick_s)) pck_know) (fun hcy => ?_)
          rcases hp2 : packU us 65536 i with _ | p9
          · rw [hp2] at B
            dsimp only [Option.isSome_none, Option.getD_none] at B ⊢
            refine j_if_ne E 54 44 dX7_same_41 (by decide) rfl (fun h41 => ?_) (fun h41 => ?_)
            · exact absurd rfl h41
            · refine pga_close us (by repeat (first | with_reducible exact pick_0 | with_reducible apply pick_s | exact sel_0 | apply sel_s)) hok hvt htz ?_
              exact j_throwS E B T h2 (tk_U sr_200) (xdc + ydc + 1) (xds + yds + 6) dX7_same_44 47 48 50 53 rfl rfl rfl rfl dX7_same_47 dX7_same_48 dX7_same_50 dX7_same_53 (by repeat (first | with_reducible exact pick_0 | with_reducible apply pick_s | exact sel_0 | apply sel_s)) ⟨_, _, mm1, rfl, by omega, by omega, by omega, by omega⟩ (by omega) (by omega) (by omega) (by omega) (by show 2 + 3 < d; omega) (by show 0 + (13 * (2 + 1) + 43) ≤ 46 * d; omega)
          · rw [hp2] at B
            dsimp only [Option.isSome_some, Option.getD_some] at B ⊢
            refine j_if_ne E 54 44 dX7_same_41 (by decide) rfl (fun h41 => ?_) (fun h41 => ?_)
            · refine j_open (P := PCK X.1 z lf p2 m2 p xcap xcC) (by repeat (first | with_reducible exact pick_0 | with_reducible apply pick_s)) pck_open ?_
              rintro ⟨mo, fl⟩ -
              dsimp only [List.cons_append, List.nil_append]
              refine j_open (P := PCK X.1 z rt p3 m3 p9 ycap ycC) (by repeat (first | with_reducible exact pick_0 | with_reducible apply pick_s)) pck_open ?_
              rintro ⟨mo2, fl2⟩ -
              dsimp only [List.cons_append, List.nil_append]
              refine j_aload_n E 55 dX7_same_54 0 rfl rfl rfl ?_
              refine j_getf E 58 dX7_same_55 fl_X7_37 (by repeat (first | with_reducible exact pick_0 | with_reducible apply pick_s)) (by rfl) rfl ?_
              refine j_getfF E 61 dX7_same_58 fl_X7_99 (by repeat (first | with_reducible exact pick_0 | with_reducible apply pick_s)) (by rfl) rfl ?_
              refine j_aload_n E 62 dX7_same_61 0 rfl rfl rfl ?_
              refine j_getf E 65 dX7_same_62 fl_X7_40 (by repeat (first | with_reducible exact pick_0 | with_reducible apply pick_s)) (by rfl) rfl ?_
              refine j_getfF E 68 dX7_same_65 fl_X7_99 (by repeat (first | with_reducible exact pick_0 | with_reducible apply pick_s)) (by rfl) rfl ?_
              refine j_callV E (c_row_same hG (d-1) p2 xcap p3 ycap p p9) 71 dX7_same_68 _ _ _ iv_X7_202 rfl rfl rfl (by repeat (first | with_reducible exact pick_0 | with_reducible apply pick_s | exact sel_0 | apply sel_s)) (by omega) (by omega) (by omega) (Nat.le_of_ble_eq_true rfl) rfl ?_
              rintro _ _ _ _ ⟨rfl, rfl, rfl, rfl⟩
              dsimp only [List.cons_append, List.nil_append, Option.toList]
              refine j_close (by repeat (first | with_reducible exact pick_0 | with_reducible apply pick_s | exact sel_0 | apply sel_s)) (pck_of (g := X.1) (z := z) (pk := lf) (pr := p2) (cm := m2) (cap := xcap) (capC := xcC) (bs := p) (mo := mo) (fa := fl)) ?_
              refine j_close (by repeat (first | with_reducible exact pick_0 | with_reducible apply pick_s | exact sel_0 | apply sel_s)) (pck_of (g := X.1) (z := z) (pk := rt) (pr := p3) (cm := m3) (cap := ycap) (capC := ycC) (bs := p9) (mo := mo2) (fa := fl2)) ?_
              refine pga_close us (by repeat (first | with_reducible exact pick_0 | with_reducible apply pick_s | exact sel_0 | apply sel_s)) hok hvt htz ?_
              by_cases qe : p = p9
              · rw [if_pos qe] at B ⊢
                exact j_zret E B rfl (by first | exact Or.inl rfl | exact Or.inr rfl) (xdc + ydc) (xds + yds) dX7_same_71 (by repeat (first | with_reducible exact pick_0 | with_reducible apply pick_s | exact sel_0 | apply sel_s)) ⟨_, _, rfl, rfl, rfl, by omega, by omega, by omega, by omega⟩ (by omega) (by omega) (by omega) (by omega)
              · rw [if_neg qe] at B ⊢
                exact j_zret E B rfl (by first | exact Or.inl rfl | exact Or.inr rfl) (xdc + ydc) (xds + yds) dX7_same_71 (by repeat (first | with_reducible exact pick_0 | with_reducible apply pick_s | exact sel_0 | apply sel_s)) ⟨_, _, rfl, rfl, rfl, by omega, by omega, by omega, by omega⟩ (by omega) (by omega) (by omega) (by omega)
            · exact absurd h41 (by decide)
    · rintro En _ _ _ ⟨qn, rfl, rfl, rfl, rfl⟩
      dsimp only [List.cons_append, List.nil_append]
      rw [hlen] at qn
      have e9 : sSame a b (tape, us, np, nb, out, cd, pl) = (1, 0, (tape, us, np, nb, out, cd, pl)) := if_pos (Or.inr (by dsimp only; rw [qn]; decide))
      rw [e9] at B
      refine pgax_close us (by repeat (first | with_reducible exact pick_0 | with_reducible apply pick_s | exact sel_0 | apply sel_s)) hok hvt htz ?_
      exact jx_out E B T 1 6 (by repeat (first | with_reducible exact pick_0 | with_reducible apply pick_s | exact sel_0 | apply sel_s)) ⟨_, _, mm0, rfl, by omega, by omega, by omega, by omega⟩ (by omega) (by omega) (by omega) (by omega)
  · rintro En _ _ _ ⟨qn, rfl, rfl, rfl, rfl⟩
    dsimp only [List.cons_append, List.nil_append]
    rw [hlen] at qn
    have e9 : sSame a b (tape, us, np, nb, out, cd, pl) = (1, 0, (tape, us, np, nb, out, cd, pl)) := if_pos (Or.inl (by dsimp only; rw [qn]; decide))
    rw [e9] at B
    refine pgax_close us (by repeat (first | with_reducible exact pick_0 | with_reducible apply pick_s | exact sel_0 | apply sel_s)) hok hvt htz ?_
    exact jx_out E B T 1 6 (by repeat (first | with_reducible exact pick_0 | with_reducible apply pick_s | exact sel_0 | apply sel_s)) ⟨_, _, mm0, rfl, by omega, by omega, by omega, by omega⟩ (by omega) (by omega) (by omega) (by omega)
set_option maxHeartbeats 4000000 in
theorem c_pg_count {g : GT} {z : Nat → Nat} (hA : GA g z) (d M N x P Q : Nat) (w : Int32) (S : AS) (hd : 100 ≤ d) (hM : 9100000 + 800 * S.1.length ≤ 320 * M + P) (hN : 1700000 + 21 * S.1.length ≤ N + Q) : CtrV g mX7_count 6 d M N x [.int w] [PGA g z x S P Q] (pgo g z x P Q S.1.length M N (sCount w S).1 (some (.int (sCount w S).2.1)) (sCount w S).2.2) (pgx g z x P Q S.1.length M N (sCount w S).1 (sCount w S).2.2 [(exA, 1)]) := by
  refine ⟨pga_rcv, ?_⟩
  have hG := hA.1
  have h2 := hA.2.1
  obtain ⟨tape, us, np, nb, out, cd, pl⟩ := S
  dsimp only at hM hN
  refine ctr_intro hG (by decide +kernel) (Nat.le_of_ble_eq_true rfl) ?_
  rintro X F rfl E B hI T
  replace E : JE X RX7 cX7_count 2 d M N := E
  show J X _ [PGA X.1 z x (tape, us, np, nb, out, cd, pl) P Q, F] 0 0 0 [some (.ref x), some (.int w)] []
  refine pga_open (by repeat (first | with_reducible exact pick_0 | with_reducible apply pick_s)) ?_
  intro tp vl rd ld gr e0 ou p1 m1 lf p2 m2 rt p3 m3 capT capV capG c1 k1 c2 k2 c3 k3 b2 b3 vs hS
  refine j_know (fun w hw => pgl_know w hw) (fun hcp => ?_)
  dsimp only [PGL, List.cons_append, List.nil_append]
  obtain ⟨hok, hvt, htz, hP, hQ⟩ := hS
  dsimp only at hvt hP hQ
  have hvs := vsok_of hok hvt htz
  have hlen : vs.length = us.length := by rw [← hvt, vts_len]
  have h65 : tape.length ≤ 65536 := hok.1
  have h30 : us.length ≤ 3000 := hok.2.1
  have h60 : np ≤ 6000 := hok.2.2.1
  have hnb : nb ≤ 65536 := hok.2.2.2.1
  have hou : out.length ≤ 65536 := hok.2.2.2.2.1
  dsimp only at B
  refine j_iload_n E 1 dX7_count_0 1 rfl rfl rfl ?_
  by_cases w0 : w = 0
  · subst w0
    have e9 : sCount 0 (tape, us, np, nb, out, cd, pl) = (0, nI us.length, (tape, us, np, nb, out, cd, pl)) := by
      rfl
    rw [e9] at B
    refine j_tableIn E (off := 35) 36 dX7_count_1 (by decide) (by decide) (by rfl) (by decide) ?_
    refine j_aload_n E 37 dX7_count_36 0 rfl rfl rfl ?_
    refine j_getf E 40 dX7_count_37 fl_X7_19 (by repeat (first | with_reducible exact pick_0 | with_reducible apply pick_s)) (by rfl) rfl ?_
    refine j_callV E (c_vls_size (z := z) hG (d-1) vl np nb capV (by omega) vs) 43 dX7_count_40 _ _ _ iv_X7_208 rfl rfl rfl (by repeat (first | with_reducible exact pick_0 | with_reducible apply pick_s | exact sel_0 | apply sel_s)) (by omega) (by omega) (by omega) (Nat.le_of_ble_eq_true rfl) rfl ?_
    rintro _ _ _ _ ⟨rfl, rfl, rfl, rfl⟩
    dsimp only [List.cons_append, List.nil_append, Option.toList]
    rw [hlen]
    refine pga_close (us) (by repeat (first | with_reducible exact pick_0 | with_reducible apply pick_s | exact sel_0 | apply sel_s)) hok hvt htz ?_
    exact j_iret E B rfl 0 0 dX7_count_43 (by repeat (first | with_reducible exact pick_0 | with_reducible apply pick_s | exact sel_0 | apply sel_s)) ⟨_, _, rfl, rfl, rfl, by omega, by omega, by omega, by omega⟩ (by omega) (by omega) (by omega) (by omega)
  by_cases w1 : w = 1
  · subst w1
    have e9 : sCount 1 (tape, us, np, nb, out, cd, pl) = (0, nI np, (tape, us, np, nb, out, cd, pl)) := by
      rfl
    rw [e9] at B
    refine j_tableIn E (off := 43) 44 dX7_count_1 (by decide) (by decide) (by rfl) (by decide) ?_
    refine j_open (P := VLS X.1 z vl vs np nb capV) (by repeat (first | with_reducible exact pick_0 | with_reducible apply pick_s)) vls_open ?_
    rintro al -
    dsimp only [VLSo, List.cons_append, List.nil_append]
    refine j_aload_n E 45 dX7_count_44 0 rfl rfl rfl ?_
    refine j_getf E 48 dX7_count_45 fl_X7_19 (by repeat (first | with_reducible exact pick_0 | with_reducible apply pick_s)) (by rfl) rfl ?_
    refine j_getfN E 51 dX7_count_48 fl_X7_209 (by repeat (first | with_reducible exact pick_0 | with_reducible apply pick_s)) (by rfl) rfl ?_
    refine j_close (by repeat (first | with_reducible exact pick_0 | with_reducible apply pick_s | exact sel_0 | apply sel_s)) vls_of ?_
    refine pga_close (us) (by repeat (first | with_reducible exact pick_0 | with_reducible apply pick_s | exact sel_0 | apply sel_s)) hok hvt htz ?_
    exact j_iret E B rfl 0 0 dX7_count_51 (by repeat (first | with_reducible exact pick_0 | with_reducible apply pick_s | exact sel_0 | apply sel_s)) ⟨_, _, rfl, rfl, rfl, by omega, by omega, by omega, by omega⟩ (by omega) (by omega) (by omega) (by omega)
  by_cases w2 : w = 2
  · subst w2
    have e9 : sCount 2 (tape, us, np, nb, out, cd, pl) = (0, nI nb, (tape, us, np, nb, out, cd, pl)) := by
      rfl
    rw [e9] at B
    refine j_tableIn E (off := 51) 52 dX7_count_1 (by decide) (by decide) (by rfl) (by decide) ?_
    refine j_open (P := VLS X.1 z vl vs np nb capV) (by repeat (first | with_reducible exact pick_0 | with_reducible apply pick_s)) vls_open ?_
    rintro al -
    dsimp only [VLSo, List.cons_append, List.nil_append]
    refine j_aload_n E 53 dX7_count_52 0 rfl rfl rfl ?_
    refine j_getf E 56 dX7_count_53 fl_X7_19 (by repeat (first | with_reducible exact pick_0 | with_reducible apply pick_s)) (by rfl) rfl ?_
    refine j_getfN E 59 dX7_count_56 fl_X7_212 (by repeat (first | with_reducible exact pick_0 | with_reducible apply pick_s)) (by rfl) rfl ?_
    refine j_close (by repeat (first | with_reducible exact pick_0 | with_reducible apply pick_s | exact sel_0 | apply sel_s)) vls_of ?_
    refine pga_close (us) (by repeat (first | with_reducible exact pick_0 | with_reducible apply pick_s | exact sel_0 | apply sel_s)) hok hvt htz ?_
    exact j_iret E B rfl 0 0 dX7_count_59 (by repeat (first | with_reducible exact pick_0 | with_reducible apply pick_s | exact sel_0 | apply sel_s)) ⟨_, _, rfl, rfl, rfl, by omega, by omega, by omega, by omega⟩ (by omega) (by omega) (by omega) (by omega)
  by_cases w3 : w = 3
  · subst w3
    have e9 : sCount 3 (tape, us, np, nb, out, cd, pl) = (0, nI tape.length, (tape, us, np, nb, out, cd, pl)) := by
      rfl
    rw [e9] at B
    refine j_tableIn E (off := 59) 60 dX7_count_1 (by decide) (by decide) (by rfl) (by decide) ?_
    refine j_aload_n E 61 dX7_count_60 0 rfl rfl rfl ?_
    refine j_getf E 64 dX7_count_61 fl_X7_10 (by repeat (first | with_reducible exact pick_0 | with_reducible apply pick_s)) (by rfl) rfl ?_
    refine j_callV E (c_row_size hG (d-1) tp capT tape) 67 dX7_count_64 _ _ _ iv_X7_43 rfl rfl rfl (by repeat (first | with_reducible exact pick_0 | with_reducible apply pick_s | exact sel_0 | apply sel_s)) (by omega) (by omega) (by omega) (Nat.le_of_ble_eq_true rfl) rfl ?_
    rintro _ _ _ _ ⟨rfl, rfl, rfl, rfl⟩
    dsimp only [List.cons_append, List.nil_append, Option.toList]
    refine pga_close (us) (by repeat (first | with_reducible exact pick_0 | with_reducible apply pick_s | exact sel_0 | apply sel_s)) hok hvt htz ?_
    exact j_iret E B rfl 0 0 dX7_count_67 (by repeat (first | with_reducible exact pick_0 | with_reducible apply pick_s | exact sel_0 | apply sel_s)) ⟨_, _, rfl, rfl, rfl, by omega, by omega, by omega, by omega⟩ (by omega) (by omega) (by omega) (by omega)
  by_cases w4 : w = 4
  · subst w4
    have e9 : sCount 4 (tape, us, np, nb, out, cd, pl) = (0, nI out.length, (tape, us, np, nb, out, cd, pl)) := by
      rfl
    rw [e9] at B
    refine j_tableIn E (off := 67) 68 dX7_count_1 (by decide) (by decide) (by rfl) (by decide) ?_
    refine j_open (P := PCK X.1 z ou p1 m1 out c1 k1) (by repeat (first | with_reducible exact pick_0 | with_reducible apply pick_s)) pck_open ?_
    rintro ⟨mo, fl⟩ -
    dsimp only [List.cons_append, List.nil_append]
    refine j_aload_n E 69 dX7_count_68 0 rfl rfl rfl ?_
    refine j_getf E 72 dX7_count_69 fl_X7_33 (by repeat (first | with_reducible exact pick_0 | with_reducible apply pick_s)) (by rfl) rfl ?_
    refine j_getfF E 75 dX7_count_72 fl_X7_99 (by repeat (first | with_reducible exact pick_0 | with_reducible apply pick_s)) (by rfl) rfl ?_
    refine j_callV E (c_row_size hG (d-1) p1 c1 out) 78 dX7_count_75 _ _ _ iv_X7_43 rfl rfl rfl (by repeat (first | with_reducible exact pick_0 | with_reducible apply pick_s | exact sel_0 | apply sel_s)) (by omega) (by omega) (by omega) (Nat.le_of_ble_eq_true rfl) rfl ?_
    rintro _ _ _ _ ⟨rfl, rfl, rfl, rfl⟩
    dsimp only [List.cons_append, List.nil_append, Option.toList]
    refine j_close (by repeat (first | with_reducible exact pick_0 | with_reducible apply pick_s | exact sel_0 | apply sel_s)) (pck_of (g := X.1) (z := z) (pk := ou) (pr := p1) (cm := m1) (cap := c1) (capC := k1) (bs := out) (mo := mo) (fa := fl)) ?_
    refine pga_close (us) (by repeat (first | with_reducible exact pick_0 | with_reducible apply pick_s | exact sel_0 | apply sel_s)) hok hvt htz ?_
    exact j_iret E B rfl 0 0 dX7_count_78 (by repeat (first | with_reducible exact pick_0 | with_reducible apply pick_s | exact sel_0 | apply sel_s)) ⟨_, _, rfl, rfl, rfl, by omega, by omega, by omega, by omega⟩ (by omega) (by omega) (by omega) (by omega)
  have e9 : sCount w (tape, us, np, nb, out, cd, pl) = (1, 0, (tape, us, np, nb, out, cd, pl)) := by
    exact (if_neg w0).trans ((if_neg w1).trans ((if_neg w2).trans ((if_neg w3).trans (if_neg w4))))
  rw [e9] at B
  have t0 : ¬ w.toInt = 0 := fun q => w0 ((fa_eq w 0).mpr q)
  have t1 : ¬ w.toInt = 1 := fun q => w1 ((fa_eq w 1).mpr q)
  have t2 : ¬ w.toInt = 2 := fun q => w2 ((fa_eq w 2).mpr q)
  have t3 : ¬ w.toInt = 3 := fun q => w3 ((fa_eq w 3).mpr q)
  have t4 : ¬ w.toInt = 4 := fun q => w4 ((fa_eq w 4).mpr q)
  refine j_tableOut E 79 dX7_count_1 (by omega) (by decide) ?_
  refine pga_close (us) (by repeat (first | with_reducible exact pick_0 | with_reducible apply pick_s | exact sel_0 | apply sel_s)) hok hvt htz ?_
  exact j_throwS E B T h2 (tk_A sr_215) 1 6 dX7_count_79 82 83 85 88 rfl rfl rfl rfl dX7_count_82 dX7_count_83 dX7_count_85 dX7_count_88 (by repeat (first | with_reducible exact pick_0 | with_reducible apply pick_s | exact sel_0 | apply sel_s)) ⟨_, _, mm0, rfl, by omega, by omega, by omega, by omega⟩ (by omega) (by omega) (by omega) (by omega) (by show 2 + 3 < d; omega) (by show 0 + (13 * (2 + 1) + 43) ≤ 46 * d; omega)
set_option maxHeartbeats 4000000 in
theorem c_pg_clear {g : GT} {z : Nat → Nat} (hA : GA g z) (d M N x P Q : Nat)  (S : AS) (hd : 100 ≤ d) (hM : 9100000 + 800 * S.1.length ≤ 320 * M + P) (hN : 1700000 + 21 * S.1.length ≤ N + Q) : CtrV g mX7_clear 6 d M N x [] [PGA g z x S P Q] (pgo g z x P Q S.1.length M N (sClear S).1 (some (.int (sClear S).2.1)) (sClear S).2.2) (pgx g z x P Q S.1.length M N (sClear S).1 (sClear S).2.2 []) := by
  refine ⟨pga_rcv, ?_⟩
  have hG := hA.1
  have h2 := hA.2.1
  obtain ⟨tape, us, np, nb, out, cd, pl⟩ := S
  dsimp only at hM hN
  refine ctr_intro hG (by decide +kernel) (Nat.le_of_ble_eq_true rfl) ?_
  rintro X F rfl E B hI T
  replace E : JE X RX7 cX7_clear 2 d M N := E
  show J X _ [PGA X.1 z x (tape, us, np, nb, out, cd, pl) P Q, F] 0 0 0 [some (.ref x), none] []
  refine pga_open (by repeat (first | with_reducible exact pick_0 | with_reducible apply pick_s)) ?_
  intro tp vl rd ld gr e0 ou p1 m1 lf p2 m2 rt p3 m3 capT capV capG c1 k1 c2 k2 c3 k3 b2 b3 vs hS
  refine j_know (fun w hw => pgl_know w hw) (fun hcp => ?_)
  dsimp only [PGL, List.cons_append, List.nil_append]
  obtain ⟨hok, hvt, htz, hP, hQ⟩ := hS
  dsimp only at hvt hP hQ
  have hvs := vsok_of hok hvt htz
  have hlen : vs.length = us.length := by rw [← hvt, vts_len]
  have h65 : tape.length ≤ 65536 := hok.1
  have h30 : us.length ≤ 3000 := hok.2.1
  have h60 : np ≤ 6000 := hok.2.2.1
  have hnb : nb ≤ 65536 := hok.2.2.2.1
  have hou : out.length ≤ 65536 := hok.2.2.2.2.1
  dsimp only at B
  have hok9 := sClear_ok hok
  dsimp only [sClear] at hok9 B
  have hK9 : CtrV X.1 mX6_keepOnly 5 (d-1) 0 0 vl [.int (nI 0), .int (nI 0), .int (nI 0)] [VLS X.1 z vl vs np nb capV] (fun o dc ds ws' => o = none ∧ dc = 0 ∧ ds = 0 ∧ ws' = [VLS X.1 z vl [] 0 0 capV]) noX := c_vls_only hA (d-1) vl np nb capV 0 0 (by omega) [] vs (by rw [List.nil_append]; omega)
  refine j_aload_n E 1 dX7_clear_0 0 rfl rfl rfl ?_
  refine j_getf E 4 dX7_clear_1 fl_X7_19 (by repeat (first | with_reducible exact pick_0 | with_reducible apply pick_s)) (by rfl) rfl ?_
  refine j_callV E (c_vls_size (z := z) hG (d-1) vl np nb capV (by omega) vs) 7 dX7_clear_4 _ _ _ iv_X7_208 rfl rfl rfl (by repeat (first | with_reducible exact pick_0 | with_reducible apply pick_s | exact sel_0 | apply sel_s)) (by omega) (by omega) (by omega) (Nat.le_of_ble_eq_true rfl) rfl ?_
  rintro _ _ _ _ ⟨rfl, rfl, rfl, rfl⟩
  dsimp only [List.cons_append, List.nil_append, Option.toList]
  refine j_istore_n E 8 dX7_clear_7 1 rfl (Nat.le_of_ble_eq_true rfl) rfl rfl ?_
  dsimp only [List.set]
  rw [hlen]
  refine j_aload_n E 9 dX7_clear_8 0 rfl rfl rfl ?_
  refine j_getf E 12 dX7_clear_9 fl_X7_19 (by repeat (first | with_reducible exact pick_0 | with_reducible apply pick_s)) (by rfl) rfl ?_
  refine j_iconst E (0) 13 dX7_clear_12 (by decide) rfl ?_
  refine j_iconst E (0) 14 dX7_clear_13 (by decide) rfl ?_
  refine j_iconst E (0) 15 dX7_clear_14 (by decide) rfl ?_
  rw [show (0 : Int32) = nI 0 from rfl]
  refine j_callV E hK9 18 dX7_clear_15 _ _ _ iv_X7_217 rfl rfl rfl (by repeat (first | with_reducible exact pick_0 | with_reducible apply pick_s | exact sel_0 | apply sel_s)) (by omega) (by omega) (by omega) (Nat.le_of_ble_eq_true rfl) rfl ?_
  rintro _ _ _ _ ⟨rfl, rfl, rfl, rfl⟩
  dsimp only [List.cons_append, List.nil_append, Option.toList]
  refine j_iload_n E 19 dX7_clear_18 1 rfl rfl rfl ?_
  refine pga_close [] (by repeat (first | with_reducible exact pick_0 | with_reducible apply pick_s | exact sel_0 | apply sel_s)) hok9 rfl (fun e he => absurd he List.not_mem_nil) ?_
  exact j_iret E B rfl 0 0 dX7_clear_19 (by repeat (first | with_reducible exact pick_0 | with_reducible apply pick_s | exact sel_0 | apply sel_s)) ⟨_, _, rfl, rfl, rfl, by omega, by omega, by omega, by omega⟩ (by omega) (by omega) (by omega) (by omega)

/-! PackedGraph: rows, lists, maps -/
set_option maxHeartbeats 4000000 in
theorem c_keep_tape {g : GT} {z : Nat → Nat} (hA : GA g z) (d x tp vl rd ou lf rt np nb capT capV kd : Nat) (dt : Int32) (tape : List UInt8) (vs : List VE) (hd : 60 ≤ d) (hv : vs.length ≤ 3000) (hnb : nb ≤ 65536) (ht : tape.length ≤ 65536) : CtrV g mX7_keepTape 6 d 4 (20014 + tape.length) x [.int (nI kd), .int dt] [PGF x tp vl rd ou lf rt, ROW g tp tape capT, VLS g z vl vs np nb capV] (fun o dc ds ws' => (vs.length < 3000 ∧ nb + tape.length ≤ 65536) ∧ ∃ xa xcap, o = some (.int (nI vs.length)) ∧ ws' = [PGF x tp vl rd ou lf rt, ROW g tp [] capT, VLS g z vl (vs ++ [(xa, (kd, 0, dt, tape, []), -1)]) np (nb + tape.length) xcap] ∧ 5 * dc + capV ≤ xcap + 10 ∧ ds + 4 * capV ≤ 4 * xcap + 8 + tape.length ∧ dc ≤ 4 ∧ ds ≤ 20014 + tape.length) (fun En dc ds ws' => ¬ (vs.length < 3000 ∧ nb + tape.length ≤ 65536) ∧ En = exU ∧ dc = 1 ∧ ds = 6 ∧ ws' = [PGF x tp vl rd ou lf rt, ROW g tp tape capT, VLS g z vl vs np nb capV]) := by
  refine ⟨rcv_pt, ?_⟩
  have hG := hA.1
  have h2 := hA.2.1
  refine ctr_intro hG (by decide +kernel) (Nat.le_of_ble_eq_true rfl) ?_
  rintro X F rfl E B hI T
  replace E : JE X RX7 cX7_keepTape 4 d 4 (20014 + tape.length) := E
  show J X _ [PGF x tp vl rd ou lf rt, ROW X.1 tp tape capT, VLS X.1 z vl vs np nb capV, F] 0 0 0 [some (.ref x), some (.int (nI kd)), some (.int dt), none] []
  refine j_aload_n E 1 dX7_keepTape_0 0 rfl rfl rfl ?_
  refine j_aload_n E 2 dX7_keepTape_1 0 rfl rfl rfl ?_
  refine j_getf E 5 dX7_keepTape_2 fl_X7_10 (by repeat (first | with_reducible exact pick_0 | with_reducible apply pick_s)) (by rfl) rfl ?_
  refine j_callV E (c_row_size hG (d-1) tp capT tape) 8 dX7_keepTape_5 _ _ _ iv_X7_43 rfl rfl rfl (by repeat (first | with_reducible exact pick_0 | with_reducible apply pick_s | exact sel_0 | apply sel_s)) (by omega) (by omega) (by omega) (Nat.le_of_ble_eq_true rfl) rfl ?_
  rintro _ _ _ _ ⟨rfl, rfl, rfl, rfl⟩
  dsimp only [List.cons_append, List.nil_append, Option.toList]
  refine j_callVX E (c_nd_room hA (d-1) x tp vl rd ou lf rt np nb capV tape.length vs (by omega) (by omega) (by omega)) 11 dX7_keepTape_8 _ _ _ iv_X7_108 rfl rfl rfl (by repeat (first | with_reducible exact pick_0 | with_reducible apply pick_s | exact sel_0 | apply sel_s)) (by omega) (by omega) (by omega) (Nat.le_of_ble_eq_true rfl) rfl ?_ ?_
  · rintro _ _ _ _ ⟨qr, rfl, rfl, rfl, rfl⟩
    dsimp only [List.cons_append, List.nil_append, Option.toList]
    refine j_aload_n E 12 dX7_keepTape_11 0 rfl rfl rfl ?_
    refine j_getf E 15 dX7_keepTape_12 fl_X7_19 (by repeat (first | with_reducible exact pick_0 | with_reducible apply pick_s)) (by rfl) rfl ?_
    refine j_iload_n E 16 dX7_keepTape_15 1 rfl rfl rfl ?_
    refine j_lconst E 0 17 dX7_keepTape_16 rfl rfl ?_
    refine j_iload_n E 18 dX7_keepTape_17 2 rfl rfl rfl ?_
    refine j_aload_n E 19 dX7_keepTape_18 0 rfl rfl rfl ?_
    refine j_getf E 22 dX7_keepTape_19 fl_X7_10 (by repeat (first | with_reducible exact pick_0 | with_reducible apply pick_s)) (by rfl) rfl ?_
    refine j_iconst E (0) 23 dX7_keepTape_22 (by decide) rfl ?_
    rw [show (0 : Int32) = nI 0 from rfl]
    refine j_aload_n E 24 dX7_keepTape_23 0 rfl rfl rfl ?_
    refine j_getf E 27 dX7_keepTape_24 fl_X7_10 (by repeat (first | with_reducible exact pick_0 | with_reducible apply pick_s)) (by rfl) rfl ?_
    refine j_callV E (c_row_size hG (d-1) tp capT tape) 30 dX7_keepTape_27 _ _ _ iv_X7_43 rfl rfl rfl (by repeat (first | with_reducible exact pick_0 | with_reducible apply pick_s | exact sel_0 | apply sel_s)) (by omega) (by omega) (by omega) (Nat.le_of_ble_eq_true rfl) rfl ?_
    rintro _ _ _ _ ⟨rfl, rfl, rfl, rfl⟩
    dsimp only [List.cons_append, List.nil_append, Option.toList]
    refine j_callV E (c_row_slice hA (d-1) (by omega) tp capT 0 tape.length tape (by omega)) 33 dX7_keepTape_30 _ _ _ iv_X7_240 rfl rfl rfl (by repeat (first | with_reducible exact pick_0 | with_reducible apply pick_s | exact sel_0 | apply sel_s)) (by omega) (by omega) (by omega) (Nat.le_of_ble_eq_true rfl) rfl ?_
    rintro _ adc ads _ ⟨xq, rfl, rfl, a1, a2, a3⟩
    dsimp only [List.cons_append, List.nil_append, Option.toList]
    have ec : cutB tape 0 tape.length = tape := by rw [cutB, List.drop_zero, List.take_length]
    rw [ec]
    refine j_callV E (c_vls_keep hA (d-1) vl np nb capV kd xq (by omega) 0 dt tape vs (by omega)) 36 dX7_keepTape_33 _ _ _ iv_X7_115 rfl rfl rfl (by repeat (first | with_reducible exact pick_0 | with_reducible apply pick_s | exact sel_0 | apply sel_s)) (by omega) (by omega) (by omega) (Nat.le_of_ble_eq_true rfl) rfl ?_
    rintro _ bdc bds _ ⟨xa, xcap, rfl, rfl, y1, y2, y3, y4⟩
    dsimp only [List.cons_append, List.nil_append, Option.toList]
    refine j_istore_n E 37 dX7_keepTape_36 3 rfl (Nat.le_of_ble_eq_true rfl) rfl rfl ?_
    dsimp only [List.set]
    refine j_aload_n E 38 dX7_keepTape_37 0 rfl rfl rfl ?_
    refine j_getf E 41 dX7_keepTape_38 fl_X7_10 (by repeat (first | with_reducible exact pick_0 | with_reducible apply pick_s)) (by rfl) rfl ?_
    refine j_iconst E (0) 42 dX7_keepTape_41 (by decide) rfl ?_
    rw [show (0 : Int32) = nI 0 from rfl]
    refine j_callV E (c_row_cut hG (d-1) tp capT 0 tape (Nat.zero_le _)) 45 dX7_keepTape_42 _ _ _ iv_X7_64 rfl rfl rfl (by repeat (first | with_reducible exact pick_0 | with_reducible apply pick_s | exact sel_0 | apply sel_s)) (by omega) (by omega) (by omega) (Nat.le_of_ble_eq_true rfl) rfl ?_
    rintro _ _ _ _ ⟨rfl, rfl, rfl, rfl⟩
    dsimp only [List.cons_append, List.nil_append, Option.toList]
    rw [show tape.take 0 = [] from rfl]
    refine j_iload_n E 46 dX7_keepTape_45 3 rfl rfl rfl ?_
    exact j_iret E B rfl (adc + bdc) (ads + bds) dX7_keepTape_46 (by repeat (first | with_reducible exact pick_0 | with_reducible apply pick_s | exact sel_0 | apply sel_s)) ⟨qr, xa, xcap, rfl, rfl, by omega, by omega, by omega, by omega⟩ (by omega) (by omega) (by omega) (by omega)
  · rintro En _ _ _ ⟨qr, rfl, rfl, rfl, rfl⟩
    dsimp only [List.cons_append, List.nil_append]
    exact jx_out E B T 1 6 (by repeat (first | with_reducible exact pick_0 | with_reducible apply pick_s | exact sel_0 | apply sel_s)) ⟨qr, rfl, rfl, rfl, rfl⟩ (by omega) (by omega) (by omega) (by omega)
set_option maxHeartbeats 4000000 in
theorem c_pg_row {g : GT} {z : Nat → Nat} (hA : GA g z) (d M N x P Q : Nat) (kd : Int32) (S : AS) (hd : 100 ≤ d) (hM : 9100000 + 800 * S.1.length ≤ 320 * M + P) (hN : 1700000 + 21 * S.1.length ≤ N + Q) : CtrV g mX7_row 6 d M N x [.int kd] [PGA g z x S P Q] (pgo g z x P Q S.1.length M N (sRow kd S).1 (some (.int (sRow kd S).2.1)) (sRow kd S).2.2) (pgx g z x P Q S.1.length M N (sRow kd S).1 (sRow kd S).2.2 [(exA, 1), (exU, 2)]) := by
  refine ⟨pga_rcv, ?_⟩
  have hG := hA.1
  have h2 := hA.2.1
  obtain ⟨tape, us, np, nb, out, cd, pl⟩ := S
  dsimp only at hM hN
  refine ctr_intro hG (by decide +kernel) (Nat.le_of_ble_eq_true rfl) ?_
  rintro X F rfl E B hI T
  replace E : JE X RX7 cX7_row 2 d M N := E
  show J X _ [PGA X.1 z x (tape, us, np, nb, out, cd, pl) P Q, F] 0 0 0 [some (.ref x), some (.int kd)] []
  refine pga_open (by repeat (first | with_reducible exact pick_0 | with_reducible apply pick_s)) ?_
  intro tp vl rd ld gr e0 ou p1 m1 lf p2 m2 rt p3 m3 capT capV capG c1 k1 c2 k2 c3 k3 b2 b3 vs hS
  refine j_know (fun w hw => pgl_know w hw) (fun hcp => ?_)
  dsimp only [PGL, List.cons_append, List.nil_append]
  obtain ⟨hok, hvt, htz, hP, hQ⟩ := hS
  dsimp only at hvt hP hQ
  have hvs := vsok_of hok hvt htz
  have hlen : vs.length = us.length := by rw [← hvt, vts_len]
  have h65 : tape.length ≤ 65536 := hok.1
  have h30 : us.length ≤ 3000 := hok.2.1
  have h60 : np ≤ 6000 := hok.2.2.1
  have hnb : nb ≤ 65536 := hok.2.2.2.1
  have hou : out.length ≤ 65536 := hok.2.2.2.2.1
  dsimp only at B
  have good : ∀ K : Nat, (K = 5 ∨ K = 6) → kd = nI K → sRow (nI K) (tape, us, np, nb, out, cd, pl) = sTape K 0 (tape, us, np, nb, out, cd, pl) → J X 2 [PGF x tp vl rd ou lf rt, ROW X.1 tp tape capT, VLS X.1 z vl vs np nb capV, RDR rd ld gr e0 (nI cd) (nI pl), LEAx ld, LST X.1 z gr [] capG, PCK X.1 z ou p1 m1 out c1 k1, PCK X.1 z lf p2 m2 b2 c2 k2, PCK X.1 z rt p3 m3 b3 c3 k3, F] 0 0 55 [some (.ref x), some (.int kd)] [] := by
    intro K hK hkd e8
    subst hkd
    rw [e8] at B
    have hok9 : AOk (sTape K 0 (tape, us, np, nb, out, cd, pl)).2.2 := sTape_ok hok (by omega) (fun _ => rfl)
    refine j_aload_n E 56 dX7_row_55 0 rfl rfl rfl ?_
    refine j_iload_n E 57 dX7_row_56 1 rfl rfl rfl ?_
    refine j_iconst E (0) 58 dX7_row_57 (by decide) rfl ?_
    refine j_callVX E (c_keep_tape hA (d-1) x tp vl rd ou lf rt np nb capT capV K 0 tape vs (by omega) (by omega) hnb h65) 61 dX7_row_58 _ _ _ iv_X7_131 rfl rfl rfl (by repeat (first | with_reducible exact pick_0 | with_reducible apply pick_s | exact sel_0 | apply sel_s)) (by omega) (by omega) (by omega) (Nat.le_of_ble_eq_true rfl) rfl ?_ ?_
    · rintro _ adc ads _ ⟨qr, xa, xcap, rfl, rfl, y1, y2, y3, y4⟩
      dsimp only [List.cons_append, List.nil_append, Option.toList]
      rw [hlen] at qr ⊢
      have e9 : sTape K 0 (tape, us, np, nb, out, cd, pl) = (0, nI us.length, ([], us ++ [(K, 0, 0, tape, [])], np, nb + tape.length, out, cd, pl)) := if_pos qr
      rw [e9] at hok9 B
      refine pga_close (us ++ [(K, 0, 0, tape, [])]) (by repeat (first | with_reducible exact pick_0 | with_reducible apply pick_s | exact sel_0 | apply sel_s)) hok9 (by rw [vts_app, hvt]) (tz_snoc htz rfl) ?_
      exact j_iret E B rfl adc ads dX7_row_61 (by repeat (first | with_reducible exact pick_0 | with_reducible apply pick_s | exact sel_0 | apply sel_s)) ⟨_, _, rfl, rfl, rfl, by omega, by omega, by omega, by omega⟩ (by omega) (by omega) (by omega) (by omega)
    · rintro En _ _ _ ⟨qr, rfl, rfl, rfl, rfl⟩
      dsimp only [List.cons_append, List.nil_append]
      rw [hlen] at qr
      have e9 : sTape K 0 (tape, us, np, nb, out, cd, pl) = (2, 0, (tape, us, np, nb, out, cd, pl)) := if_neg qr
      rw [e9] at B
      refine pgax_close us (by repeat (first | with_reducible exact pick_0 | with_reducible apply pick_s | exact sel_0 | apply sel_s)) hok hvt htz ?_
      exact jx_out E B T 1 6 (by repeat (first | with_reducible exact pick_0 | with_reducible apply pick_s | exact sel_0 | apply sel_s)) ⟨_, _, mm1, rfl, by omega, by omega, by omega, by omega⟩ (by omega) (by omega) (by omega) (by omega)
  refine j_iload_n E 1 dX7_row_0 1 rfl rfl rfl ?_
  refine j_iconst E (5) 2 dX7_row_1 (by decide) rfl ?_
  refine j_icmp_eq E 21 5 dX7_row_2 (by decide) rfl (fun hh2 => ?_) (fun hh2 => ?_)
  · have e5 : kd = 5 := hh2
    subst e5
    refine j_iload_n E 22 dX7_row_21 1 rfl rfl rfl ?_
    refine j_iconst E (5) 23 dX7_row_22 (by decide) rfl ?_
    refine j_icmp_ne E 55 26 dX7_row_23 (by decide) rfl (fun h23 => ?_) (fun h23 => ?_)
    · exact absurd rfl h23
    · refine j_aload_n E 27 dX7_row_26 0 rfl rfl rfl ?_
      refine j_getf E 30 dX7_row_27 fl_X7_10 (by repeat (first | with_reducible exact pick_0 | with_reducible apply pick_s)) (by rfl) rfl ?_
      refine j_iconst E (0) 31 dX7_row_30 (by decide) rfl ?_
      rw [show (0 : Int32) = nI 0 from rfl]
      refine j_aload_n E 32 dX7_row_31 0 rfl rfl rfl ?_
      refine j_getf E 35 dX7_row_32 fl_X7_10 (by repeat (first | with_reducible exact pick_0 | with_reducible apply pick_s)) (by rfl) rfl ?_
      refine j_callV E (c_row_size hG (d-1) tp capT tape) 38 dX7_row_35 _ _ _ iv_X7_43 rfl rfl rfl (by repeat (first | with_reducible exact pick_0 | with_reducible apply pick_s | exact sel_0 | apply sel_s)) (by omega) (by omega) (by omega) (Nat.le_of_ble_eq_true rfl) rfl ?_
      rintro _ _ _ _ ⟨rfl, rfl, rfl, rfl⟩
      dsimp only [List.cons_append, List.nil_append, Option.toList]
      refine j_callS E (c_ch_wrong hG (d-1) tp capT tape.length (by omega) tape (Nat.le_refl _) (by omega) 0 (Nat.zero_le _)) 41 dX7_row_38 iv_X7_123 rfl rfl (by repeat (first | with_reducible exact pick_0 | with_reducible apply pick_s | exact sel_0 | apply sel_s)) (by omega) (by omega) (by omega) (Nat.le_of_ble_eq_true rfl) rfl ?_
      rintro _ _ _ _ ⟨rfl, rfl, rfl, rfl⟩
      dsimp only [List.cons_append, List.nil_append, Option.toList]
      rw [Nat.sub_zero]
      rcases hc : chBad tape tape.length tape.length 0 with _ | p
      · dsimp only
        refine j_iconst E (-1) 42 dX7_row_41 (by decide) rfl ?_
        refine j_icmp_eq E 55 45 dX7_row_42 (by decide) rfl (fun h42 => ?_) (fun h42 => ?_)
        · exact j_sel (by repeat (first | with_reducible exact pick_0 | with_reducible apply pick_s | exact sel_0 | apply sel_s)) (good 5 (Or.inl rfl) rfl (if_pos (show (nI 5 = 5 ∧ chBad tape tape.length tape.length 0 = none) from ⟨rfl, hc⟩)))
        · exact absurd rfl h42
      · dsimp only
        have hp := chBad_lt hc
        refine j_iconst E (-1) 42 dX7_row_41 (by decide) rfl ?_
        refine j_icmp_eq E 55 45 dX7_row_42 (by decide) rfl (fun h42 => ?_) (fun h42 => ?_)
        · exact absurd h42 (nI_m1 (by omega))
        · have e9 : sRow 5 (tape, us, np, nb, out, cd, pl) = (1, 0, (tape, us, np, nb, out, cd, pl)) := (if_neg (by decide)).trans (if_neg (fun q => by rw [hc] at q; exact absurd q.2 (by simp)))
          rw [e9] at B
          refine pga_close (us) (by repeat (first | with_reducible exact pick_0 | with_reducible apply pick_s | exact sel_0 | apply sel_s)) hok hvt htz ?_
          exact j_throwS E B T h2 (tk_A sr_129) 1 6 dX7_row_45 48 49 51 54 rfl rfl rfl rfl dX7_row_48 dX7_row_49 dX7_row_51 dX7_row_54 (by repeat (first | with_reducible exact pick_0 | with_reducible apply pick_s | exact sel_0 | apply sel_s)) ⟨_, _, mm0, rfl, by omega, by omega, by omega, by omega⟩ (by omega) (by omega) (by omega) (by omega) (by show 2 + 3 < d; omega) (by show 0 + (13 * (2 + 1) + 43) ≤ 46 * d; omega)
  · refine j_iload_n E 6 dX7_row_5 1 rfl rfl rfl ?_
    refine j_bipush E (6) 8 dX7_row_6 (by decide) rfl ?_
    refine j_icmp_eq E 21 11 dX7_row_8 (by decide) rfl (fun h8 => ?_) (fun h8 => ?_)
    · have e6 : kd = 6 := h8
      subst e6
      refine j_iload_n E 22 dX7_row_21 1 rfl rfl rfl ?_
      refine j_iconst E (5) 23 dX7_row_22 (by decide) rfl ?_
      refine j_icmp_ne E 55 26 dX7_row_23 (by decide) rfl (fun h23 => ?_) (fun h23 => ?_)
      · exact good 6 (Or.inr rfl) rfl rfl
      · exact absurd h23 (by decide)
    · have e9 : sRow kd (tape, us, np, nb, out, cd, pl) = (1, 0, (tape, us, np, nb, out, cd, pl)) := (if_neg h8).trans (if_neg (fun q => hh2 q.1))
      rw [e9] at B
      refine pga_close (us) (by repeat (first | with_reducible exact pick_0 | with_reducible apply pick_s | exact sel_0 | apply sel_s)) hok hvt htz ?_
      exact j_throwS E B T h2 (tk_A sr_121) 1 6 dX7_row_11 14 15 17 20 rfl rfl rfl rfl dX7_row_14 dX7_row_15 dX7_row_17 dX7_row_20 (by repeat (first | with_reducible exact pick_0 | with_reducible apply pick_s | exact sel_0 | apply sel_s)) ⟨_, _, mm0, rfl, by omega, by omega, by omega, by omega⟩ (by omega) (by omega) (by omega) (by omega) (by show 2 + 3 < d; omega) (by show 0 + (13 * (2 + 1) + 43) ≤ 46 * d; omega)
set_option maxHeartbeats 4000000 in
theorem c_pg_extension {g : GT} {z : Nat → Nat} (hA : GA g z) (d M N x P Q : Nat) (ty : Int32) (S : AS) (hd : 100 ≤ d) (hM : 9100000 + 800 * S.1.length ≤ 320 * M + P) (hN : 1700000 + 21 * S.1.length ≤ N + Q) : CtrV g mX7_extension 6 d M N x [.int ty] [PGA g z x S P Q] (pgo g z x P Q S.1.length M N (sExt ty S).1 (some (.int (sExt ty S).2.1)) (sExt ty S).2.2) (pgx g z x P Q S.1.length M N (sExt ty S).1 (sExt ty S).2.2 [(exA, 1), (exU, 2)]) := by
  refine ⟨pga_rcv, ?_⟩
  have hG := hA.1
  have h2 := hA.2.1
  obtain ⟨tape, us, np, nb, out, cd, pl⟩ := S
  dsimp only at hM hN
  refine ctr_intro hG (by decide +kernel) (Nat.le_of_ble_eq_true rfl) ?_
  rintro X F rfl E B hI T
  replace E : JE X RX7 cX7_extension 2 d M N := E
  show J X _ [PGA X.1 z x (tape, us, np, nb, out, cd, pl) P Q, F] 0 0 0 [some (.ref x), some (.int ty)] []
  refine pga_open (by repeat (first | with_reducible exact pick_0 | with_reducible apply pick_s)) ?_
  intro tp vl rd ld gr e0 ou p1 m1 lf p2 m2 rt p3 m3 capT capV capG c1 k1 c2 k2 c3 k3 b2 b3 vs hS
  refine j_know (fun w hw => pgl_know w hw) (fun hcp => ?_)
  dsimp only [PGL, List.cons_append, List.nil_append]
  obtain ⟨hok, hvt, htz, hP, hQ⟩ := hS
  dsimp only at hvt hP hQ
  have hvs := vsok_of hok hvt htz
  have hlen : vs.length = us.length := by rw [← hvt, vts_len]
  have h65 : tape.length ≤ 65536 := hok.1
  have h30 : us.length ≤ 3000 := hok.2.1
  have h60 : np ≤ 6000 := hok.2.2.1
  have hnb : nb ≤ 65536 := hok.2.2.2.1
  have hou : out.length ≤ 65536 := hok.2.2.2.2.1
  dsimp only at B
  have bad : (ty < -128 ∨ 127 < ty ∨ ty = -1 ∨ ty = 0) → J X 2 [PGF x tp vl rd ou lf rt, ROW X.1 tp tape capT, VLS X.1 z vl vs np nb capV, RDR rd ld gr e0 (nI cd) (nI pl), LEAx ld, LST X.1 z gr [] capG, PCK X.1 z ou p1 m1 out c1 k1, PCK X.1 z lf p2 m2 b2 c2 k2, PCK X.1 z rt p3 m3 b3 c3 k3, F] 0 0 21 [some (.ref x), some (.int ty)] [] := by
    intro q
    have e9 : sExt ty (tape, us, np, nb, out, cd, pl) = (1, 0, (tape, us, np, nb, out, cd, pl)) := if_pos q
    rw [e9] at B
    refine pga_close (us) (by repeat (first | with_reducible exact pick_0 | with_reducible apply pick_s | exact sel_0 | apply sel_s)) hok hvt htz ?_
    exact j_throwS E B T h2 (tk_A sr_135) 1 6 dX7_extension_21 24 25 27 30 rfl rfl rfl rfl dX7_extension_24 dX7_extension_25 dX7_extension_27 dX7_extension_30 (by repeat (first | with_reducible exact pick_0 | with_reducible apply pick_s | exact sel_0 | apply sel_s)) ⟨_, _, mm0, rfl, by omega, by omega, by omega, by omega⟩ (by omega) (by omega) (by omega) (by omega) (by show 2 + 3 < d; omega) (by show 0 + (13 * (2 + 1) + 43) ≤ 46 * d; omega)
  refine j_iload_n E 1 dX7_extension_0 1 rfl rfl rfl ?_
  refine j_bipush E (-128) 3 dX7_extension_1 (by decide) rfl ?_
  refine j_icmp_lt E 21 6 dX7_extension_3 (by decide) rfl (fun h3 => ?_) (fun h3 => ?_)
  · exact bad (Or.inl h3)
  · refine j_iload_n E 7 dX7_extension_6 1 rfl rfl rfl ?_
    refine j_bipush E (127) 9 dX7_extension_7 (by decide) rfl ?_
    refine j_icmp_gt E 21 12 dX7_extension_9 (by decide) rfl (fun h9 => ?_) (fun h9 => ?_)
    · exact bad (Or.inr (Or.inl h9))
    · refine j_iload_n E 13 dX7_extension_12 1 rfl rfl rfl ?_
      refine j_iconst E (-1) 14 dX7_extension_13 (by decide) rfl ?_
      refine j_icmp_eq E 21 17 dX7_extension_14 (by decide) rfl (fun h14 => ?_) (fun h14 => ?_)
      · exact bad (Or.inr (Or.inr (Or.inl h14)))
      · refine j_iload_n E 18 dX7_extension_17 1 rfl rfl rfl ?_
        refine j_if_ne E 31 21 dX7_extension_18 (by decide) rfl (fun h18 => ?_) (fun h18 => ?_)
        · have e8 : sExt ty (tape, us, np, nb, out, cd, pl) = sTape 9 ty (tape, us, np, nb, out, cd, pl) := if_neg (fun q => q.elim h3 (fun q => q.elim h9 (fun q => q.elim h14 h18)))
          rw [e8] at B
          have hok9 : AOk (sTape 9 ty (tape, us, np, nb, out, cd, pl)).2.2 := sTape_ok hok (by decide) (fun q => absurd rfl q)
          refine j_aload_n E 32 dX7_extension_31 0 rfl rfl rfl ?_
          refine j_bipush E (9) 34 dX7_extension_32 (by decide) rfl ?_
          refine j_iload_n E 35 dX7_extension_34 1 rfl rfl rfl ?_
          refine j_callVX E (c_keep_tape hA (d-1) x tp vl rd ou lf rt np nb capT capV 9 ty tape vs (by omega) (by omega) hnb h65) 38 dX7_extension_35 _ _ _ iv_X7_131 rfl rfl rfl (by repeat (first | with_reducible exact pick_0 | with_reducible apply pick_s | exact sel_0 | apply sel_s)) (by omega) (by omega) (by omega) (Nat.le_of_ble_eq_true rfl) rfl ?_ ?_
          · rintro _ adc ads _ ⟨qr, xa, xcap, rfl, rfl, y1, y2, y3, y4⟩
            dsimp only [List.cons_append, List.nil_append, Option.toList]
            rw [hlen] at qr ⊢
            have e9 : sTape 9 ty (tape, us, np, nb, out, cd, pl) = (0, nI us.length, ([], us ++ [(9, 0, ty, tape, [])], np, nb + tape.length, out, cd, pl)) := if_pos qr
            rw [e9] at hok9 B
            refine pga_close (us ++ [(9, 0, ty, tape, [])]) (by repeat (first | with_reducible exact pick_0 | with_reducible apply pick_s | exact sel_0 | apply sel_s)) hok9 (by rw [vts_app, hvt]) (tz_snoc htz rfl) ?_
            exact j_iret E B rfl adc ads dX7_extension_38 (by repeat (first | with_reducible exact pick_0 | with_reducible apply pick_s | exact sel_0 | apply sel_s)) ⟨_, _, rfl, rfl, rfl, by omega, by omega, by omega, by omega⟩ (by omega) (by omega) (by omega) (by omega)
          · rintro En _ _ _ ⟨qr, rfl, rfl, rfl, rfl⟩
            dsimp only [List.cons_append, List.nil_append]
            rw [hlen] at qr
            have e9 : sTape 9 ty (tape, us, np, nb, out, cd, pl) = (2, 0, (tape, us, np, nb, out, cd, pl)) := if_neg qr
            rw [e9] at B
            refine pgax_close us (by repeat (first | with_reducible exact pick_0 | with_reducible apply pick_s | exact sel_0 | apply sel_s)) hok hvt htz ?_
            exact jx_out E B T 1 6 (by repeat (first | with_reducible exact pick_0 | with_reducible apply pick_s | exact sel_0 | apply sel_s)) ⟨_, _, mm1, rfl, by omega, by omega, by omega, by omega⟩ (by omega) (by omega) (by omega) (by omega)
        · exact bad (Or.inr (Or.inr (Or.inr h18)))
set_option maxHeartbeats 8000000 in
theorem c_pg_add {g : GT} {z : Nat → Nat} (hA : GA g z) (d M N x P Q : Nat) (l v : Int32) (S : AS) (hd : 100 ≤ d) (hM : 9100000 + 800 * S.1.length ≤ 320 * M + P) (hN : 1700000 + 21 * S.1.length ≤ N + Q) : CtrV g mX7_add 6 d M N x [.int l, .int v] [PGA g z x S P Q] (pgo g z x P Q S.1.length M N (sAdd l v S).1 (some (.int (sAdd l v S).2.1)) (sAdd l v S).2.2) (pgx g z x P Q S.1.length M N (sAdd l v S).1 (sAdd l v S).2.2 [(exI, 1), (exA, 2), (exU, 3)]) := by
  refine ⟨pga_rcv, ?_⟩
  have hG := hA.1
  have h2 := hA.2.1
  obtain ⟨tape, us, np, nb, out, cd, pl⟩ := S
  dsimp only at hM hN
  refine ctr_intro hG (by decide +kernel) (Nat.le_of_ble_eq_true rfl) ?_
  rintro X F rfl E B hI T
  replace E : JE X RX7 cX7_add 4 d M N := E
  show J X _ [PGA X.1 z x (tape, us, np, nb, out, cd, pl) P Q, F] 0 0 0 [some (.ref x), some (.int l), some (.int v), none] []
  refine pga_open (by repeat (first | with_reducible exact pick_0 | with_reducible apply pick_s)) ?_
  intro tp vl rd ld gr e0 ou p1 m1 lf p2 m2 rt p3 m3 capT capV capG c1 k1 c2 k2 c3 k3 b2 b3 vs hS
  refine j_know (fun w hw => pgl_know w hw) (fun hcp => ?_)
  dsimp only [PGL, List.cons_append, List.nil_append]
  obtain ⟨hok, hvt, htz, hP, hQ⟩ := hS
  dsimp only at hvt hP hQ
  have hvs := vsok_of hok hvt htz
  have hlen : vs.length = us.length := by rw [← hvt, vts_len]
  have h65 : tape.length ≤ 65536 := hok.1
  have h30 : us.length ≤ 3000 := hok.2.1
  have h60 : np ≤ 6000 := hok.2.2.1
  have hnb : nb ≤ 65536 := hok.2.2.2.1
  have hou : out.length ≤ 65536 := hok.2.2.2.2.1
  dsimp only at B
  have hok9 := sAdd_ok (l := l) (v := v) hok
  refine j_aload_n E 1 dX7_add_0 0 rfl rfl rfl ?_
  refine j_iload_n E 2 dX7_add_1 1 rfl rfl rfl ?_
  refine j_callVX E (c_nd_value hA (d-1) x tp vl rd ou lf rt np nb capV l vs (by omega)) 5 dX7_add_2 _ _ _ iv_X7_90 rfl rfl rfl (by repeat (first | with_reducible exact pick_0 | with_reducible apply pick_s | exact sel_0 | apply sel_s)) (by omega) (by omega) (by omega) (Nat.le_of_ble_eq_true rfl) rfl ?_ ?_
  · rintro _ _ _ _ ⟨qb1, rfl, rfl, rfl, rfl⟩
    dsimp only [List.cons_append, List.nil_append, Option.toList]
    rw [hlen] at qb1
    refine j_aload_n E 6 dX7_add_5 0 rfl rfl rfl ?_
    refine j_iload_n E 7 dX7_add_6 2 rfl rfl rfl ?_
    refine j_callVX E (c_nd_value hA (d-1) x tp vl rd ou lf rt np nb capV v vs (by omega)) 10 dX7_add_7 _ _ _ iv_X7_90 rfl rfl rfl (by repeat (first | with_reducible exact pick_0 | with_reducible apply pick_s | exact sel_0 | apply sel_s)) (by omega) (by omega) (by omega) (Nat.le_of_ble_eq_true rfl) rfl ?_ ?_
    · rintro _ _ _ _ ⟨qb2, rfl, rfl, rfl, rfl⟩
      dsimp only [List.cons_append, List.nil_append, Option.toList]
      rw [hlen] at qb2
      obtain ⟨j, hj, rfl⟩ := inB_t (by omega) qb1
      obtain ⟨i, hi, rfl⟩ := inB_t (by omega) qb2
      obtain ⟨⟨ea, ev, et⟩, he⟩ : ∃ e, vs[j]? = some e := ⟨_, List.getElem?_eq_getElem (by omega)⟩
      have hev : vAt us j = ev := by rw [← hvt]; exact vAt_of he
      have het : VTok us.length np ev := by rw [← hev]; exact aok_at hok (show j < us.length by omega)
      have hek : ev.1 ≤ 10 := het.1
      refine j_aload_n E 11 dX7_add_10 0 rfl rfl rfl ?_
      refine j_iload_n E 12 dX7_add_11 1 rfl rfl rfl ?_
      refine j_bipush E (7) 14 dX7_add_12 (by decide) rfl ?_
      refine j_callVX E (c_nd_kind hA (d-1) x tp vl rd ou lf rt np nb capV j 7 (ea, ev, et) vs (by omega) he (by omega) (by decide) (show ev.1 < 100 by omega)) 17 dX7_add_14 _ _ _ iv_X7_142 rfl rfl rfl (by repeat (first | with_reducible exact pick_0 | with_reducible apply pick_s | exact sel_0 | apply sel_s)) (by omega) (by omega) (by omega) (Nat.le_of_ble_eq_true rfl) rfl ?_ ?_
      · rintro _ _ _ _ ⟨qk, rfl, rfl, rfl, rfl⟩
        dsimp only [List.cons_append, List.nil_append, Option.toList] at qk ⊢
        refine j_aload_n E 18 dX7_add_17 0 rfl rfl rfl ?_
        refine j_iconst E (1) 19 dX7_add_18 (by decide) rfl ?_
        refine j_callVX E (c_nd_parts hA (d-1) x tp vl rd ou lf rt np nb capV 1 vs (by omega) (by omega) (by omega)) 22 dX7_add_19 _ _ _ iv_X7_146 rfl rfl rfl (by repeat (first | with_reducible exact pick_0 | with_reducible apply pick_s | exact sel_0 | apply sel_s)) (by omega) (by omega) (by omega) (Nat.le_of_ble_eq_true rfl) rfl ?_ ?_
        · rintro _ _ _ _ ⟨qp, rfl, rfl, rfl, rfl⟩
          dsimp only [List.cons_append, List.nil_append, Option.toList]
          have e9 : sAdd (nI j) (nI i) (tape, us, np, nb, out, cd, pl) = (0, nI (ev.2.2.2.2.length + 1), (tape, us.set j (vadd ev i), np + 1, nb, out, cd, pl)) := by
            unfold sAdd
            dsimp only
            rw [if_neg (fun q => q.elim (fun q => q qb1) (fun q => q qb2)), nI_clamp (by omega), nI_clamp (by omega), hev, if_neg (fun q => q qk), if_neg (by omega)]
          rw [e9] at hok9 B
          refine j_aload_n E 23 dX7_add_22 0 rfl rfl rfl ?_
          refine j_getf E 26 dX7_add_23 fl_X7_19 (by repeat (first | with_reducible exact pick_0 | with_reducible apply pick_s)) (by rfl) rfl ?_
          refine j_iconst E (1) 27 dX7_add_26 (by decide) rfl ?_
          rw [show (1 : Int32) = nI 1 from rfl]
          refine j_callV E (c_vls_hold (z := z) hG (d-1) vl np nb capV 1 vs) 30 dX7_add_27 _ _ _ iv_X7_149 rfl rfl rfl (by repeat (first | with_reducible exact pick_0 | with_reducible apply pick_s | exact sel_0 | apply sel_s)) (by omega) (by omega) (by omega) (Nat.le_of_ble_eq_true rfl) rfl ?_
          rintro _ _ _ _ ⟨rfl, rfl, rfl, rfl⟩
          dsimp only [List.cons_append, List.nil_append, Option.toList]
          refine j_aload_n E 31 dX7_add_30 0 rfl rfl rfl ?_
          refine j_getf E 34 dX7_add_31 fl_X7_19 (by repeat (first | with_reducible exact pick_0 | with_reducible apply pick_s)) (by rfl) rfl ?_
          refine j_iload_n E 35 dX7_add_34 1 rfl rfl rfl ?_
          refine j_callV E (c_vls_at (z := z) hG (d-1) vl (np + 1) nb capV j (by omega) vs _ he (by omega)) 38 dX7_add_35 _ _ _ iv_X7_152 rfl rfl rfl (by repeat (first | with_reducible exact pick_0 | with_reducible apply pick_s | exact sel_0 | apply sel_s)) (by omega) (by omega) (by omega) (Nat.le_of_ble_eq_true rfl) rfl ?_
          rintro _ _ _ _ ⟨rfl, rfl, rfl, rfl⟩
          dsimp only [List.cons_append, List.nil_append, Option.toList]
          refine j_astore_n E 39 dX7_add_38 3 rfl (Nat.le_of_ble_eq_true rfl) rfl rfl ?_
          dsimp only [List.set]
          refine j_open (P := VLS X.1 z vl vs (np + 1) nb capV) (by repeat (first | with_reducible exact pick_0 | with_reducible apply pick_s)) vls_open ?_
          rintro al -
          dsimp only [VLSo, List.cons_append, List.nil_append]
          refine j_open (P := VSL X.1 z 0 vs) (by repeat (first | with_reducible exact pick_0 | with_reducible apply pick_s)) (vsl_open he) ?_
          rintro _ -
          dsimp only [List.cons_append, List.nil_append]
          refine j_aload_n E 40 dX7_add_39 3 rfl rfl rfl ?_
          refine j_iload_n E 41 dX7_add_40 2 rfl rfl rfl ?_
          refine j_callV E (c_val_append hA (d-1) ea j (pcap ev.2.2.2.2.length) i (by omega) ev et (by have := het.2.2.1; omega)) 44 dX7_add_41 _ _ _ iv_X7_155 rfl rfl rfl (by repeat (first | with_reducible exact pick_0 | with_reducible apply pick_s | exact sel_0 | apply sel_s)) (by omega) (by omega) (by omega) (Nat.le_of_ble_eq_true rfl) rfl ?_
          rintro _ adc ads _ ⟨xcap, rfl, rfl, m1_, m2_, m3_, m4_, m5_⟩
          dsimp only [List.cons_append, List.nil_append, Option.toList]
          have hl9 : (vadd ev i).2.2.2.2.length = ev.2.2.2.2.length + 1 := by show (ev.2.2.2.2 ++ [i]).length = _; rw [List.length_append]; rfl
          have hxc : xcap = pcap (vadd ev i).2.2.2.2.length := by rw [hl9]; exact m5_.trans (pcap_step rfl)
          refine j_aload_n E 45 dX7_add_44 3 rfl rfl rfl ?_
          refine j_callV E (c_val_length hA (d-1) ea j xcap (by omega) (vadd ev i) et (show ev.1 < 2 ^ 31 by omega) (by rw [hl9]; have := het.2.2.1; omega)) 48 dX7_add_45 _ _ _ iv_X7_159 rfl rfl rfl (by repeat (first | with_reducible exact pick_0 | with_reducible apply pick_s | exact sel_0 | apply sel_s)) (by omega) (by omega) (by omega) (Nat.le_of_ble_eq_true rfl) rfl ?_
          rintro _ _ _ _ ⟨rfl, rfl, rfl, rfl⟩
          dsimp only [List.cons_append, List.nil_append, Option.toList]
          have hvl : vlen (vadd ev i) = ev.2.2.2.2.length + 1 := by
            rw [vlen, if_neg (show ¬ (vadd ev i).1 = 8 from fun q => by have q9 : ev.1 = 8 := q; omega), if_pos (show (vadd ev i).1 = 7 from qk), hl9]
          rw [hvl]
          have hpc1 := pcap_le ev.2.2.2.2.length
          have hnn := het.2.2.1
          refine j_close (by repeat (first | with_reducible exact pick_0 | with_reducible apply pick_s | exact sel_0 | apply sel_s)) (val_of (g := X.1) (z := z) (a := ea) (i := j) (t := et) (cap := xcap) (v := vadd ev i) hxc) ?_
          refine j_close (by repeat (first | with_reducible exact pick_0 | with_reducible apply pick_s | exact sel_0 | apply sel_s)) (vsl_set (L := vs) (ea, vadd ev i, et) (by omega)) ?_
          refine j_close (by repeat (first | with_reducible exact pick_0 | with_reducible apply pick_s | exact sel_0 | apply sel_s)) (vls_of' (adr_set (e := (ea, vadd ev i, et)) he rfl).symm) ?_
          refine pga_close (us.set j (vadd ev i)) (by repeat (first | with_reducible exact pick_0 | with_reducible apply pick_s | exact sel_0 | apply sel_s)) hok9 (by rw [vts, List.map_set, ← hvt]; rfl) (fun u hu => ?_) ?_
          · rcases List.mem_or_eq_of_mem_set hu with q | q
            · exact htz u q
            · rw [q]
              exact htz (ea, ev, et) (List.mem_of_getElem? he)
          exact j_iret E B rfl adc ads dX7_add_48 (by repeat (first | with_reducible exact pick_0 | with_reducible apply pick_s | exact sel_0 | apply sel_s)) ⟨_, _, rfl, rfl, rfl, by omega, by omega, by omega, by omega⟩ (by omega) (by omega) (by omega) (by omega)
        · rintro En _ _ _ ⟨qp, rfl, rfl, rfl, rfl⟩
          dsimp only [List.cons_append, List.nil_append]
          have e9 : sAdd (nI j) (nI i) (tape, us, np, nb, out, cd, pl) = (3, 0, (tape, us, np, nb, out, cd, pl)) := by
            unfold sAdd
            dsimp only
            rw [if_neg (fun q => q.elim (fun q => q qb1) (fun q => q qb2)), nI_clamp (by omega), nI_clamp (by omega), hev, if_neg (fun q => q qk), if_pos (by omega)]
          rw [e9] at B
          refine pgax_close us (by repeat (first | with_reducible exact pick_0 | with_reducible apply pick_s | exact sel_0 | apply sel_s)) hok hvt htz ?_
          exact jx_out E B T 1 6 (by repeat (first | with_reducible exact pick_0 | with_reducible apply pick_s | exact sel_0 | apply sel_s)) ⟨_, _, mm2, rfl, by omega, by omega, by omega, by omega⟩ (by omega) (by omega) (by omega) (by omega)
      · rintro En _ _ _ ⟨qk, rfl, rfl, rfl, rfl⟩
        dsimp only [List.cons_append, List.nil_append] at qk ⊢
        have e9 : sAdd (nI j) (nI i) (tape, us, np, nb, out, cd, pl) = (2, 0, (tape, us, np, nb, out, cd, pl)) := by
          unfold sAdd
          dsimp only
          rw [if_neg (fun q => q.elim (fun q => q qb1) (fun q => q qb2)), nI_clamp (by omega), hev, if_pos qk]
        rw [e9] at B
        refine pgax_close us (by repeat (first | with_reducible exact pick_0 | with_reducible apply pick_s | exact sel_0 | apply sel_s)) hok hvt htz ?_
        exact jx_out E B T 1 6 (by repeat (first | with_reducible exact pick_0 | with_reducible apply pick_s | exact sel_0 | apply sel_s)) ⟨_, _, mm1, rfl, by omega, by omega, by omega, by omega⟩ (by omega) (by omega) (by omega) (by omega)
    · rintro En _ _ _ ⟨qn, rfl, rfl, rfl, rfl⟩
      dsimp only [List.cons_append, List.nil_append]
      rw [hlen] at qn
      have e9 : sAdd l v (tape, us, np, nb, out, cd, pl) = (1, 0, (tape, us, np, nb, out, cd, pl)) := if_pos (Or.inr (by dsimp only; rw [qn]; decide))
      rw [e9] at B
      refine pgax_close us (by repeat (first | with_reducible exact pick_0 | with_reducible apply pick_s | exact sel_0 | apply sel_s)) hok hvt htz ?_
      exact jx_out E B T 1 6 (by repeat (first | with_reducible exact pick_0 | with_reducible apply pick_s | exact sel_0 | apply sel_s)) ⟨_, _, mm0, rfl, by omega, by omega, by omega, by omega⟩ (by omega) (by omega) (by omega) (by omega)
  · rintro En _ _ _ ⟨qn, rfl, rfl, rfl, rfl⟩
    dsimp only [List.cons_append, List.nil_append]
    rw [hlen] at qn
    have e9 : sAdd l v (tape, us, np, nb, out, cd, pl) = (1, 0, (tape, us, np, nb, out, cd, pl)) := if_pos (Or.inl (by dsimp only; rw [qn]; decide))
    rw [e9] at B
    refine pgax_close us (by repeat (first | with_reducible exact pick_0 | with_reducible apply pick_s | exact sel_0 | apply sel_s)) hok hvt htz ?_
    exact jx_out E B T 1 6 (by repeat (first | with_reducible exact pick_0 | with_reducible apply pick_s | exact sel_0 | apply sel_s)) ⟨_, _, mm0, rfl, by omega, by omega, by omega, by omega⟩ (by omega) (by omega) (by omega) (by omega)
set_option maxHeartbeats 8000000 in
theorem c_pg_put {g : GT} {z : Nat → Nat} (hA : GA g z) (d M N x P Q : Nat) (l c v : Int32) (S : AS) (hd : 100 ≤ d) (hM : 9100000 + 800 * S.1.length ≤ 320 * M + P) (hN : 1700000 + 21 * S.1.length ≤ N + Q) : CtrV g mX7_put 6 d M N x [.int l, .int c, .int v] [PGA g z x S P Q] (pgo g z x P Q S.1.length M N (sPut l c v S).1 (some (.int (sPut l c v S).2.1)) (sPut l c v S).2.2) (pgx g z x P Q S.1.length M N (sPut l c v S).1 (sPut l c v S).2.2 [(exI, 1), (exA, 2), (exU, 3)]) := by
  refine ⟨pga_rcv, ?_⟩
  have hG := hA.1
  have h2 := hA.2.1
  obtain ⟨tape, us, np, nb, out, cd, pl⟩ := S
  dsimp only at hM hN
  refine ctr_intro hG (by decide +kernel) (Nat.le_of_ble_eq_true rfl) ?_
  rintro X F rfl E B hI T
  replace E : JE X RX7 cX7_put 5 d M N := E
  show J X _ [PGA X.1 z x (tape, us, np, nb, out, cd, pl) P Q, F] 0 0 0 [some (.ref x), some (.int l), some (.int c), some (.int v), none] []
  refine pga_open (by repeat (first | with_reducible exact pick_0 | with_reducible apply pick_s)) ?_
  intro tp vl rd ld gr e0 ou p1 m1 lf p2 m2 rt p3 m3 capT capV capG c1 k1 c2 k2 c3 k3 b2 b3 vs hS
  refine j_know (fun w hw => pgl_know w hw) (fun hcp => ?_)
  dsimp only [PGL, List.cons_append, List.nil_append]
  obtain ⟨hok, hvt, htz, hP, hQ⟩ := hS
  dsimp only at hvt hP hQ
  have hvs := vsok_of hok hvt htz
  have hlen : vs.length = us.length := by rw [← hvt, vts_len]
  have h65 : tape.length ≤ 65536 := hok.1
  have h30 : us.length ≤ 3000 := hok.2.1
  have h60 : np ≤ 6000 := hok.2.2.1
  have hnb : nb ≤ 65536 := hok.2.2.2.1
  have hou : out.length ≤ 65536 := hok.2.2.2.2.1
  dsimp only at B
  have hok9 := sPut_ok (l := l) (c := c) (v := v) hok
  refine j_aload_n E 1 dX7_put_0 0 rfl rfl rfl ?_
  refine j_iload_n E 2 dX7_put_1 1 rfl rfl rfl ?_
  refine j_callVX E (c_nd_value hA (d-1) x tp vl rd ou lf rt np nb capV l vs (by omega)) 5 dX7_put_2 _ _ _ iv_X7_90 rfl rfl rfl (by repeat (first | with_reducible exact pick_0 | with_reducible apply pick_s | exact sel_0 | apply sel_s)) (by omega) (by omega) (by omega) (Nat.le_of_ble_eq_true rfl) rfl ?_ ?_
  · rintro _ _ _ _ ⟨qb1, rfl, rfl, rfl, rfl⟩
    dsimp only [List.cons_append, List.nil_append, Option.toList]
    rw [hlen] at qb1
    refine j_aload_n E 6 dX7_put_5 0 rfl rfl rfl ?_
    refine j_iload_n E 7 dX7_put_6 2 rfl rfl rfl ?_
    refine j_callVX E (c_nd_value hA (d-1) x tp vl rd ou lf rt np nb capV c vs (by omega)) 10 dX7_put_7 _ _ _ iv_X7_90 rfl rfl rfl (by repeat (first | with_reducible exact pick_0 | with_reducible apply pick_s | exact sel_0 | apply sel_s)) (by omega) (by omega) (by omega) (Nat.le_of_ble_eq_true rfl) rfl ?_ ?_
    · rintro _ _ _ _ ⟨qb2, rfl, rfl, rfl, rfl⟩
      dsimp only [List.cons_append, List.nil_append, Option.toList]
      rw [hlen] at qb2
      refine j_aload_n E 11 dX7_put_10 0 rfl rfl rfl ?_
      refine j_iload_n E 12 dX7_put_11 3 rfl rfl rfl ?_
      refine j_callVX E (c_nd_value hA (d-1) x tp vl rd ou lf rt np nb capV v vs (by omega)) 15 dX7_put_12 _ _ _ iv_X7_90 rfl rfl rfl (by repeat (first | with_reducible exact pick_0 | with_reducible apply pick_s | exact sel_0 | apply sel_s)) (by omega) (by omega) (by omega) (Nat.le_of_ble_eq_true rfl) rfl ?_ ?_
      · rintro _ _ _ _ ⟨qb3, rfl, rfl, rfl, rfl⟩
        dsimp only [List.cons_append, List.nil_append, Option.toList]
        rw [hlen] at qb3
        obtain ⟨j, hj, rfl⟩ := inB_t (by omega) qb1
        obtain ⟨i, hi, rfl⟩ := inB_t (by omega) qb2
        obtain ⟨r, hr, rfl⟩ := inB_t (by omega) qb3
        obtain ⟨⟨ea, ev, et⟩, he⟩ : ∃ e, vs[j]? = some e := ⟨_, List.getElem?_eq_getElem (by omega)⟩
        have hev : vAt us j = ev := by rw [← hvt]; exact vAt_of he
        have het : VTok us.length np ev := by rw [← hev]; exact aok_at hok (show j < us.length by omega)
        have hek : ev.1 ≤ 10 := het.1
        refine j_aload_n E 16 dX7_put_15 0 rfl rfl rfl ?_
        refine j_iload_n E 17 dX7_put_16 1 rfl rfl rfl ?_
        refine j_bipush E (8) 19 dX7_put_17 (by decide) rfl ?_
        refine j_callVX E (c_nd_kind hA (d-1) x tp vl rd ou lf rt np nb capV j 8 (ea, ev, et) vs (by omega) he (by omega) (by decide) (show ev.1 < 100 by omega)) 22 dX7_put_19 _ _ _ iv_X7_142 rfl rfl rfl (by repeat (first | with_reducible exact pick_0 | with_reducible apply pick_s | exact sel_0 | apply sel_s)) (by omega) (by omega) (by omega) (Nat.le_of_ble_eq_true rfl) rfl ?_ ?_
        · rintro _ _ _ _ ⟨qk, rfl, rfl, rfl, rfl⟩
          dsimp only [List.cons_append, List.nil_append, Option.toList] at qk ⊢
          refine j_aload_n E 23 dX7_put_22 0 rfl rfl rfl ?_
          refine j_iconst E (2) 24 dX7_put_23 (by decide) rfl ?_
          refine j_callVX E (c_nd_parts hA (d-1) x tp vl rd ou lf rt np nb capV 2 vs (by omega) (by omega) (by omega)) 27 dX7_put_24 _ _ _ iv_X7_146 rfl rfl rfl (by repeat (first | with_reducible exact pick_0 | with_reducible apply pick_s | exact sel_0 | apply sel_s)) (by omega) (by omega) (by omega) (Nat.le_of_ble_eq_true rfl) rfl ?_ ?_
          · rintro _ _ _ _ ⟨qp, rfl, rfl, rfl, rfl⟩
            dsimp only [List.cons_append, List.nil_append, Option.toList]
            have e9 : sPut (nI j) (nI i) (nI r) (tape, us, np, nb, out, cd, pl) = (0, nI ((ev.2.2.2.2.length + 2) / 2), (tape, us.set j (vadd (vadd ev i) r), np + 2, nb, out, cd, pl)) := by
              unfold sPut
              dsimp only
              rw [if_neg (fun q => q.elim (fun q => q qb1) (fun q => q.elim (fun q => q qb2) (fun q => q qb3))), nI_clamp (by omega), nI_clamp (by omega), nI_clamp (by omega), hev, if_neg (fun q => q qk), if_neg (by omega)]
            rw [e9] at hok9 B
            refine j_aload_n E 28 dX7_put_27 0 rfl rfl rfl ?_
            refine j_getf E 31 dX7_put_28 fl_X7_19 (by repeat (first | with_reducible exact pick_0 | with_reducible apply pick_s)) (by rfl) rfl ?_
            refine j_iconst E (2) 32 dX7_put_31 (by decide) rfl ?_
            rw [show (2 : Int32) = nI 2 from rfl]
            refine j_callV E (c_vls_hold (z := z) hG (d-1) vl np nb capV 2 vs) 35 dX7_put_32 _ _ _ iv_X7_149 rfl rfl rfl (by repeat (first | with_reducible exact pick_0 | with_reducible apply pick_s | exact sel_0 | apply sel_s)) (by omega) (by omega) (by omega) (Nat.le_of_ble_eq_true rfl) rfl ?_
            rintro _ _ _ _ ⟨rfl, rfl, rfl, rfl⟩
            dsimp only [List.cons_append, List.nil_append, Option.toList]
            refine j_aload_n E 36 dX7_put_35 0 rfl rfl rfl ?_
            refine j_getf E 39 dX7_put_36 fl_X7_19 (by repeat (first | with_reducible exact pick_0 | with_reducible apply pick_s)) (by rfl) rfl ?_
            refine j_iload_n E 40 dX7_put_39 1 rfl rfl rfl ?_
            refine j_callV E (c_vls_at (z := z) hG (d-1) vl (np + 2) nb capV j (by omega) vs _ he (by omega)) 43 dX7_put_40 _ _ _ iv_X7_152 rfl rfl rfl (by repeat (first | with_reducible exact pick_0 | with_reducible apply pick_s | exact sel_0 | apply sel_s)) (by omega) (by omega) (by omega) (Nat.le_of_ble_eq_true rfl) rfl ?_
            rintro _ _ _ _ ⟨rfl, rfl, rfl, rfl⟩
            dsimp only [List.cons_append, List.nil_append, Option.toList]
            refine j_astore E 45 dX7_put_43 (Nat.le_of_ble_eq_true rfl) rfl rfl ?_
            dsimp only [List.set]
            refine j_open (P := VLS X.1 z vl vs (np + 2) nb capV) (by repeat (first | with_reducible exact pick_0 | with_reducible apply pick_s)) vls_open ?_
            rintro al -
            dsimp only [VLSo, List.cons_append, List.nil_append]
            refine j_open (P := VSL X.1 z 0 vs) (by repeat (first | with_reducible exact pick_0 | with_reducible apply pick_s)) (vsl_open he) ?_
            rintro _ -
            dsimp only [List.cons_append, List.nil_append]
            refine j_aload E 47 dX7_put_45 rfl rfl ?_
            refine j_iload_n E 48 dX7_put_47 2 rfl rfl rfl ?_
            refine j_callV E (c_val_append hA (d-1) ea j (pcap ev.2.2.2.2.length) i (by omega) ev et (by have := het.2.2.1; omega)) 51 dX7_put_48 _ _ _ iv_X7_155 rfl rfl rfl (by repeat (first | with_reducible exact pick_0 | with_reducible apply pick_s | exact sel_0 | apply sel_s)) (by omega) (by omega) (by omega) (Nat.le_of_ble_eq_true rfl) rfl ?_
            rintro _ adc ads _ ⟨xcap, rfl, rfl, m1_, m2_, m3_, m4_, m5_⟩
            dsimp only [List.cons_append, List.nil_append, Option.toList]
            have hl9 : (vadd ev i).2.2.2.2.length = ev.2.2.2.2.length + 1 := by show (ev.2.2.2.2 ++ [i]).length = _; rw [List.length_append]; rfl
            have hxc : xcap = pcap (vadd ev i).2.2.2.2.length := by rw [hl9]; exact m5_.trans (pcap_step rfl)
            refine j_aload E 53 dX7_put_51 rfl rfl ?_
            refine j_iload_n E 54 dX7_put_53 3 rfl rfl rfl ?_
            refine j_callV E (c_val_append hA (d-1) ea j xcap r (by omega) (vadd ev i) et (by rw [hl9]; have := het.2.2.1; omega)) 57 dX7_put_54 _ _ _ iv_X7_155 rfl rfl rfl (by repeat (first | with_reducible exact pick_0 | with_reducible apply pick_s | exact sel_0 | apply sel_s)) (by omega) (by omega) (by omega) (Nat.le_of_ble_eq_true rfl) rfl ?_
            rintro _ bdc bds _ ⟨ycap, rfl, rfl, n1_, n2_, n3_, n4_, n5_⟩
            dsimp only [List.cons_append, List.nil_append, Option.toList]
            have hl8 : (vadd (vadd ev i) r).2.2.2.2.length = ev.2.2.2.2.length + 2 := by show ((vadd ev i).2.2.2.2 ++ [r]).length = _; rw [List.length_append, hl9]; rfl
            have hyc : ycap = pcap (vadd (vadd ev i) r).2.2.2.2.length := by rw [hl8, show ev.2.2.2.2.length + 2 = (vadd ev i).2.2.2.2.length + 1 by omega]; exact n5_.trans (pcap_step hxc)
            refine j_aload E 59 dX7_put_57 rfl rfl ?_
            refine j_callV E (c_val_length hA (d-1) ea j ycap (by omega) (vadd (vadd ev i) r) et (show ev.1 < 2 ^ 31 by omega) (by rw [hl8]; have := het.2.2.1; omega)) 62 dX7_put_59 _ _ _ iv_X7_159 rfl rfl rfl (by repeat (first | with_reducible exact pick_0 | with_reducible apply pick_s | exact sel_0 | apply sel_s)) (by omega) (by omega) (by omega) (Nat.le_of_ble_eq_true rfl) rfl ?_
            rintro _ _ _ _ ⟨rfl, rfl, rfl, rfl⟩
            dsimp only [List.cons_append, List.nil_append, Option.toList]
            have hvl : vlen (vadd (vadd ev i) r) = (ev.2.2.2.2.length + 2) / 2 := by
              rw [vlen, if_pos (show (vadd (vadd ev i) r).1 = 8 from qk), hl8]
            rw [hvl]
            refine j_close (by repeat (first | with_reducible exact pick_0 | with_reducible apply pick_s | exact sel_0 | apply sel_s)) (val_of (g := X.1) (z := z) (a := ea) (i := j) (t := et) (cap := ycap) (v := vadd (vadd ev i) r) hyc) ?_
            refine j_close (by repeat (first | with_reducible exact pick_0 | with_reducible apply pick_s | exact sel_0 | apply sel_s)) (vsl_set (L := vs) (ea, vadd (vadd ev i) r, et) (by omega)) ?_
            refine j_close (by repeat (first | with_reducible exact pick_0 | with_reducible apply pick_s | exact sel_0 | apply sel_s)) (vls_of' (adr_set (e := (ea, vadd (vadd ev i) r, et)) he rfl).symm) ?_
            refine pga_close (us.set j (vadd (vadd ev i) r)) (by repeat (first | with_reducible exact pick_0 | with_reducible apply pick_s | exact sel_0 | apply sel_s)) hok9 (by rw [vts, List.map_set, ← hvt]; rfl) (fun u hu => ?_) ?_
            · rcases List.mem_or_eq_of_mem_set hu with q | q
              · exact htz u q
              · rw [q]
                exact htz (ea, ev, et) (List.mem_of_getElem? he)
            exact j_iret E B rfl (adc + bdc) (ads + bds) dX7_put_62 (by repeat (first | with_reducible exact pick_0 | with_reducible apply pick_s | exact sel_0 | apply sel_s)) ⟨_, _, rfl, rfl, rfl, by omega, by omega, by omega, by omega⟩ (by omega) (by omega) (by omega) (by omega)
          · rintro En _ _ _ ⟨qp, rfl, rfl, rfl, rfl⟩
            dsimp only [List.cons_append, List.nil_append]
            have e9 : sPut (nI j) (nI i) (nI r) (tape, us, np, nb, out, cd, pl) = (3, 0, (tape, us, np, nb, out, cd, pl)) := by
              unfold sPut
              dsimp only
              rw [if_neg (fun q => q.elim (fun q => q qb1) (fun q => q.elim (fun q => q qb2) (fun q => q qb3))), nI_clamp (by omega), hev, if_neg (fun q => q qk), if_pos (by omega)]
            rw [e9] at B
            refine pgax_close us (by repeat (first | with_reducible exact pick_0 | with_reducible apply pick_s | exact sel_0 | apply sel_s)) hok hvt htz ?_
            exact jx_out E B T 1 6 (by repeat (first | with_reducible exact pick_0 | with_reducible apply pick_s | exact sel_0 | apply sel_s)) ⟨_, _, mm2, rfl, by omega, by omega, by omega, by omega⟩ (by omega) (by omega) (by omega) (by omega)
        · rintro En _ _ _ ⟨qk, rfl, rfl, rfl, rfl⟩
          dsimp only [List.cons_append, List.nil_append] at qk ⊢
          have e9 : sPut (nI j) (nI i) (nI r) (tape, us, np, nb, out, cd, pl) = (2, 0, (tape, us, np, nb, out, cd, pl)) := by
            unfold sPut
            dsimp only
            rw [if_neg (fun q => q.elim (fun q => q qb1) (fun q => q.elim (fun q => q qb2) (fun q => q qb3))), nI_clamp (by omega), hev, if_pos qk]
          rw [e9] at B
          refine pgax_close us (by repeat (first | with_reducible exact pick_0 | with_reducible apply pick_s | exact sel_0 | apply sel_s)) hok hvt htz ?_
          exact jx_out E B T 1 6 (by repeat (first | with_reducible exact pick_0 | with_reducible apply pick_s | exact sel_0 | apply sel_s)) ⟨_, _, mm1, rfl, by omega, by omega, by omega, by omega⟩ (by omega) (by omega) (by omega) (by omega)
      · rintro En _ _ _ ⟨qn, rfl, rfl, rfl, rfl⟩
        dsimp only [List.cons_append, List.nil_append]
        rw [hlen] at qn
        have e9 : sPut l c v (tape, us, np, nb, out, cd, pl) = (1, 0, (tape, us, np, nb, out, cd, pl)) := if_pos (Or.inr (Or.inr (by dsimp only; rw [qn]; decide)))
        rw [e9] at B
        refine pgax_close us (by repeat (first | with_reducible exact pick_0 | with_reducible apply pick_s | exact sel_0 | apply sel_s)) hok hvt htz ?_
        exact jx_out E B T 1 6 (by repeat (first | with_reducible exact pick_0 | with_reducible apply pick_s | exact sel_0 | apply sel_s)) ⟨_, _, mm0, rfl, by omega, by omega, by omega, by omega⟩ (by omega) (by omega) (by omega) (by omega)
    · rintro En _ _ _ ⟨qn, rfl, rfl, rfl, rfl⟩
      dsimp only [List.cons_append, List.nil_append]
      rw [hlen] at qn
      have e9 : sPut l c v (tape, us, np, nb, out, cd, pl) = (1, 0, (tape, us, np, nb, out, cd, pl)) := if_pos (Or.inr (Or.inl (by dsimp only; rw [qn]; decide)))
      rw [e9] at B
      refine pgax_close us (by repeat (first | with_reducible exact pick_0 | with_reducible apply pick_s | exact sel_0 | apply sel_s)) hok hvt htz ?_
      exact jx_out E B T 1 6 (by repeat (first | with_reducible exact pick_0 | with_reducible apply pick_s | exact sel_0 | apply sel_s)) ⟨_, _, mm0, rfl, by omega, by omega, by omega, by omega⟩ (by omega) (by omega) (by omega) (by omega)
  · rintro En _ _ _ ⟨qn, rfl, rfl, rfl, rfl⟩
    dsimp only [List.cons_append, List.nil_append]
    rw [hlen] at qn
    have e9 : sPut l c v (tape, us, np, nb, out, cd, pl) = (1, 0, (tape, us, np, nb, out, cd, pl)) := if_pos (Or.inl (by dsimp only; rw [qn]; decide))
    rw [e9] at B
    refine pgax_close us (by repeat (first | with_reducible exact pick_0 | with_reducible apply pick_s | exact sel_0 | apply sel_s)) hok hvt htz ?_
    exact jx_out E B T 1 6 (by repeat (first | with_reducible exact pick_0 | with_reducible apply pick_s | exact sel_0 | apply sel_s)) ⟨_, _, mm0, rfl, by omega, by omega, by omega, by omega⟩ (by omega) (by omega) (by omega) (by omega)

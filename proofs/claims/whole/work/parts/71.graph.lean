/-! PackedGraph: helpers -/
theorem mm0 {α : Type} {a : α} {l : List α} : a ∈ a :: l := List.mem_cons_self
theorem mm1 {α : Type} {a b : α} {l : List α} : a ∈ b :: a :: l := List.mem_cons_of_mem _ List.mem_cons_self
theorem mm2 {α : Type} {a b c : α} {l : List α} : a ∈ b :: c :: a :: l := List.mem_cons_of_mem _ mm1
set_option maxHeartbeats 4000000 in
theorem c_nd_value {g : GT} {z : Nat → Nat} (hA : GA g z) (d x tp vl rd ou lf rt np nb capV : Nat) (v : Int32) (vs : List VE) (hd : 40 ≤ d) : CtrV g mX7_needValue 6 d 1 6 x [.int v] [PGF x tp vl rd ou lf rt, VLS g z vl vs np nb capV] (fun o dc ds ws' => inB v vs.length = true ∧ o = none ∧ dc = 0 ∧ ds = 0 ∧ ws' = [PGF x tp vl rd ou lf rt, VLS g z vl vs np nb capV]) (fun En dc ds ws' => inB v vs.length = false ∧ En = exI ∧ dc = 1 ∧ ds = 6 ∧ ws' = [PGF x tp vl rd ou lf rt, VLS g z vl vs np nb capV]) := by
  refine ⟨rcv_pt, ?_⟩
  have hG := hA.1
  have h2 := hA.2.1
  refine ctr_intro hG (by decide +kernel) (Nat.le_of_ble_eq_true rfl) ?_
  rintro X F rfl E B hI T
  replace E : JE X RX7 cX7_needValue 2 d 1 6 := E
  show J X _ [PGF x tp vl rd ou lf rt, VLS X.1 z vl vs np nb capV, F] 0 0 0 [some (.ref x), some (.int v)] []
  refine j_aload_n E 1 dX7_needValue_0 0 rfl rfl rfl ?_
  refine j_getf E 4 dX7_needValue_1 fl_X7_19 (by repeat (first | with_reducible exact pick_0 | with_reducible apply pick_s)) (by rfl) rfl ?_
  refine j_iload_n E 5 dX7_needValue_4 1 rfl rfl rfl ?_
  refine j_callV E (c_vls_has (z := z) hG (d-1) vl np nb capV (by omega) vs v) 8 dX7_needValue_5 _ _ _ iv_X7_221 rfl rfl rfl (by repeat (first | with_reducible exact pick_0 | with_reducible apply pick_s | exact sel_0 | apply sel_s)) (by omega) (by omega) (by omega) (Nat.le_of_ble_eq_true rfl) rfl ?_
  rintro _ _ _ _ ⟨rfl, rfl, rfl, rfl⟩
  dsimp only [List.cons_append, List.nil_append, Option.toList]
  by_cases q : inB v vs.length = true
  · rw [if_pos q]
    refine j_if_ne E 21 11 dX7_needValue_8 (by decide) rfl (fun h8 => ?_) (fun h8 => ?_)
    · exact j_vret E B rfl 0 0 dX7_needValue_21 (by repeat (first | with_reducible exact pick_0 | with_reducible apply pick_s | exact sel_0 | apply sel_s)) ⟨q, rfl, rfl, rfl, rfl⟩ (by omega) (by omega) (by omega) (by omega)
    · exact absurd h8 (by decide)
  · rw [if_neg q]
    refine j_if_ne E 21 11 dX7_needValue_8 (by decide) rfl (fun h8 => ?_) (fun h8 => ?_)
    · exact absurd rfl h8
    · exact j_throwS E B T h2 (tk_I sr_225) 1 6 dX7_needValue_11 14 15 17 20 rfl rfl rfl rfl dX7_needValue_14 dX7_needValue_15 dX7_needValue_17 dX7_needValue_20 (by repeat (first | with_reducible exact pick_0 | with_reducible apply pick_s | exact sel_0 | apply sel_s)) ⟨ts_nt q, rfl, rfl, rfl, rfl⟩ (by omega) (by omega) (by omega) (by omega) (by show 2 + 3 < d; omega) (by show 0 + (13 * (2 + 1) + 43) ≤ 46 * d; omega)
set_option maxHeartbeats 4000000 in
theorem c_nd_kind {g : GT} {z : Nat → Nat} (hA : GA g z) (d x tp vl rd ou lf rt np nb capV j kd : Nat) (e : VE) (vs : List VE) (hd : 40 ≤ d) (hj : vs[j]? = some e) (hl : vs.length < 2 ^ 31) (hk : kd < 100) (hk2 : e.2.1.1 < 100) : CtrV g mX7_needKind 6 d 1 6 x [.int (nI j), .int (nI kd)] [PGF x tp vl rd ou lf rt, VLS g z vl vs np nb capV] (fun o dc ds ws' => e.2.1.1 = kd ∧ o = none ∧ dc = 0 ∧ ds = 0 ∧ ws' = [PGF x tp vl rd ou lf rt, VLS g z vl vs np nb capV]) (fun En dc ds ws' => ¬ e.2.1.1 = kd ∧ En = exA ∧ dc = 1 ∧ ds = 6 ∧ ws' = [PGF x tp vl rd ou lf rt, VLS g z vl vs np nb capV]) := by
  refine ⟨rcv_pt, ?_⟩
  have hG := hA.1
  have h2 := hA.2.1
  refine ctr_intro hG (by decide +kernel) (Nat.le_of_ble_eq_true rfl) ?_
  rintro X F rfl E B hI T
  replace E : JE X RX7 cX7_needKind 3 d 1 6 := E
  show J X _ [PGF x tp vl rd ou lf rt, VLS X.1 z vl vs np nb capV, F] 0 0 0 [some (.ref x), some (.int (nI j)), some (.int (nI kd))] []
  refine j_aload_n E 1 dX7_needKind_0 0 rfl rfl rfl ?_
  refine j_getf E 4 dX7_needKind_1 fl_X7_19 (by repeat (first | with_reducible exact pick_0 | with_reducible apply pick_s)) (by rfl) rfl ?_
  refine j_iload_n E 5 dX7_needKind_4 1 rfl rfl rfl ?_
  refine j_callV E (c_vls_at (z := z) hG (d-1) vl np nb capV j (by omega) vs e hj hl) 8 dX7_needKind_5 _ _ _ iv_X7_152 rfl rfl rfl (by repeat (first | with_reducible exact pick_0 | with_reducible apply pick_s | exact sel_0 | apply sel_s)) (by omega) (by omega) (by omega) (Nat.le_of_ble_eq_true rfl) rfl ?_
  rintro _ _ _ _ ⟨rfl, rfl, rfl, rfl⟩
  dsimp only [List.cons_append, List.nil_append, Option.toList]
  refine j_open (P := VLS X.1 z vl vs np nb capV) (by repeat (first | with_reducible exact pick_0 | with_reducible apply pick_s)) vls_open ?_
  rintro al -
  dsimp only [VLSo, List.cons_append, List.nil_append]
  refine j_open (P := VSL X.1 z 0 vs) (by repeat (first | with_reducible exact pick_0 | with_reducible apply pick_s)) (vsl_open hj) ?_
  rintro _ -
  dsimp only [List.cons_append, List.nil_append]
  refine j_open (by repeat (first | with_reducible exact pick_0 | with_reducible apply pick_s)) valc_open ?_
  rintro ⟨bq, pq, xf⟩ hx
  dsimp only [VALo, List.cons_append, List.nil_append] at hx ⊢
  refine j_getfF E 11 dX7_needKind_8 fl_X7_162 (by repeat (first | with_reducible exact pick_0 | with_reducible apply pick_s)) (by rfl) rfl ?_
  refine valc_close e.2.1 _ (by repeat (first | with_reducible exact pick_0 | with_reducible apply pick_s | exact sel_0 | apply sel_s)) rfl hx ?_
  refine j_close (by repeat (first | with_reducible exact pick_0 | with_reducible apply pick_s | exact sel_0 | apply sel_s)) (vsl_back hj) ?_
  refine j_close (by repeat (first | with_reducible exact pick_0 | with_reducible apply pick_s | exact sel_0 | apply sel_s)) vls_of ?_
  refine j_iload_n E 12 dX7_needKind_11 2 rfl rfl rfl ?_
  refine j_icmp_eq E 25 15 dX7_needKind_12 (by decide) rfl (fun h12 => ?_) (fun h12 => ?_)
  · exact j_vret E B rfl 0 0 dX7_needKind_25 (by repeat (first | with_reducible exact pick_0 | with_reducible apply pick_s | exact sel_0 | apply sel_s)) ⟨(nI_eq (by omega) (by omega)).mp h12, rfl, rfl, rfl, rfl⟩ (by omega) (by omega) (by omega) (by omega)
  · exact j_throwS E B T h2 (tk_A sr_227) 1 6 dX7_needKind_15 18 19 21 24 rfl rfl rfl rfl dX7_needKind_18 dX7_needKind_19 dX7_needKind_21 dX7_needKind_24 (by repeat (first | with_reducible exact pick_0 | with_reducible apply pick_s | exact sel_0 | apply sel_s)) ⟨fun q => h12 (congrArg nI q), rfl, rfl, rfl, rfl⟩ (by omega) (by omega) (by omega) (by omega) (by show 2 + 3 < d; omega) (by show 0 + (13 * (2 + 1) + 43) ≤ 46 * d; omega)
set_option maxHeartbeats 4000000 in
theorem c_nd_room {g : GT} {z : Nat → Nat} (hA : GA g z) (d x tp vl rd ou lf rt np nb capV m : Nat) (vs : List VE) (hd : 40 ≤ d) (hv : vs.length < 2 ^ 31) (hm : nb + m < 2 ^ 31) : CtrV g mX7_needRoom 6 d 1 6 x [.int (nI m)] [PGF x tp vl rd ou lf rt, VLS g z vl vs np nb capV] (fun o dc ds ws' => (vs.length < 3000 ∧ nb + m ≤ 65536) ∧ o = none ∧ dc = 0 ∧ ds = 0 ∧ ws' = [PGF x tp vl rd ou lf rt, VLS g z vl vs np nb capV]) (fun En dc ds ws' => ¬ (vs.length < 3000 ∧ nb + m ≤ 65536) ∧ En = exU ∧ dc = 1 ∧ ds = 6 ∧ ws' = [PGF x tp vl rd ou lf rt, VLS g z vl vs np nb capV]) := by
  refine ⟨rcv_pt, ?_⟩
  have hG := hA.1
  have h2 := hA.2.1
  refine ctr_intro hG (by decide +kernel) (Nat.le_of_ble_eq_true rfl) ?_
  rintro X F rfl E B hI T
  replace E : JE X RX7 cX7_needRoom 2 d 1 6 := E
  show J X _ [PGF x tp vl rd ou lf rt, VLS X.1 z vl vs np nb capV, F] 0 0 0 [some (.ref x), some (.int (nI m))] []
  refine j_aload_n E 1 dX7_needRoom_0 0 rfl rfl rfl ?_
  refine j_getf E 4 dX7_needRoom_1 fl_X7_19 (by repeat (first | with_reducible exact pick_0 | with_reducible apply pick_s)) (by rfl) rfl ?_
  refine j_iload_n E 5 dX7_needRoom_4 1 rfl rfl rfl ?_
  refine j_callV E (c_vls_takes (z := z) hG (d-1) vl np nb capV m (by omega) vs hv hm) 8 dX7_needRoom_5 _ _ _ iv_X7_229 rfl rfl rfl (by repeat (first | with_reducible exact pick_0 | with_reducible apply pick_s | exact sel_0 | apply sel_s)) (by omega) (by omega) (by omega) (Nat.le_of_ble_eq_true rfl) rfl ?_
  rintro _ _ _ _ ⟨rfl, rfl, rfl, rfl⟩
  dsimp only [List.cons_append, List.nil_append, Option.toList]
  by_cases q : vs.length < 3000 ∧ nb + m ≤ 65536
  · rw [if_pos q]
    refine j_if_ne E 21 11 dX7_needRoom_8 (by decide) rfl (fun h8 => ?_) (fun h8 => ?_)
    · exact j_vret E B rfl 0 0 dX7_needRoom_21 (by repeat (first | with_reducible exact pick_0 | with_reducible apply pick_s | exact sel_0 | apply sel_s)) ⟨q, rfl, rfl, rfl, rfl⟩ (by omega) (by omega) (by omega) (by omega)
    · exact absurd h8 (by decide)
  · rw [if_neg q]
    refine j_if_ne E 21 11 dX7_needRoom_8 (by decide) rfl (fun h8 => ?_) (fun h8 => ?_)
    · exact absurd rfl h8
    · exact j_throwS E B T h2 (tk_U sr_232) 1 6 dX7_needRoom_11 14 15 17 20 rfl rfl rfl rfl dX7_needRoom_14 dX7_needRoom_15 dX7_needRoom_17 dX7_needRoom_20 (by repeat (first | with_reducible exact pick_0 | with_reducible apply pick_s | exact sel_0 | apply sel_s)) ⟨q, rfl, rfl, rfl, rfl⟩ (by omega) (by omega) (by omega) (by omega) (by show 2 + 3 < d; omega) (by show 0 + (13 * (2 + 1) + 43) ≤ 46 * d; omega)
set_option maxHeartbeats 4000000 in
theorem c_nd_parts {g : GT} {z : Nat → Nat} (hA : GA g z) (d x tp vl rd ou lf rt np nb capV m : Nat) (vs : List VE) (hd : 40 ≤ d) (hn : np < 2 ^ 31) (hm : m < 2 ^ 30) : CtrV g mX7_needParts 6 d 1 6 x [.int (nI m)] [PGF x tp vl rd ou lf rt, VLS g z vl vs np nb capV] (fun o dc ds ws' => np + m ≤ 6000 ∧ o = none ∧ dc = 0 ∧ ds = 0 ∧ ws' = [PGF x tp vl rd ou lf rt, VLS g z vl vs np nb capV]) (fun En dc ds ws' => ¬ np + m ≤ 6000 ∧ En = exU ∧ dc = 1 ∧ ds = 6 ∧ ws' = [PGF x tp vl rd ou lf rt, VLS g z vl vs np nb capV]) := by
  refine ⟨rcv_pt, ?_⟩
  have hG := hA.1
  have h2 := hA.2.1
  refine ctr_intro hG (by decide +kernel) (Nat.le_of_ble_eq_true rfl) ?_
  rintro X F rfl E B hI T
  replace E : JE X RX7 cX7_needParts 2 d 1 6 := E
  show J X _ [PGF x tp vl rd ou lf rt, VLS X.1 z vl vs np nb capV, F] 0 0 0 [some (.ref x), some (.int (nI m))] []
  refine j_aload_n E 1 dX7_needParts_0 0 rfl rfl rfl ?_
  refine j_getf E 4 dX7_needParts_1 fl_X7_19 (by repeat (first | with_reducible exact pick_0 | with_reducible apply pick_s)) (by rfl) rfl ?_
  refine j_iload_n E 5 dX7_needParts_4 1 rfl rfl rfl ?_
  refine j_i2l E 6 dX7_needParts_5 rfl ?_
  rw [nI_l (by omega)]
  refine j_callV E (c_vls_parts (z := z) hG (d-1) vl np nb capV m vs hn (by omega)) 9 dX7_needParts_6 _ _ _ iv_X7_234 rfl rfl rfl (by repeat (first | with_reducible exact pick_0 | with_reducible apply pick_s | exact sel_0 | apply sel_s)) (by omega) (by omega) (by omega) (Nat.le_of_ble_eq_true rfl) rfl ?_
  rintro _ _ _ _ ⟨rfl, rfl, rfl, rfl⟩
  dsimp only [List.cons_append, List.nil_append, Option.toList]
  by_cases q : np + m ≤ 6000
  · rw [if_pos q]
    refine j_if_ne E 22 12 dX7_needParts_9 (by decide) rfl (fun h9 => ?_) (fun h9 => ?_)
    · exact j_vret E B rfl 0 0 dX7_needParts_22 (by repeat (first | with_reducible exact pick_0 | with_reducible apply pick_s | exact sel_0 | apply sel_s)) ⟨q, rfl, rfl, rfl, rfl⟩ (by omega) (by omega) (by omega) (by omega)
    · exact absurd h9 (by decide)
  · rw [if_neg q]
    refine j_if_ne E 22 12 dX7_needParts_9 (by decide) rfl (fun h9 => ?_) (fun h9 => ?_)
    · exact absurd rfl h9
    · exact j_throwS E B T h2 (tk_U sr_238) 1 6 dX7_needParts_12 15 16 18 21 rfl rfl rfl rfl dX7_needParts_15 dX7_needParts_16 dX7_needParts_18 dX7_needParts_21 (by repeat (first | with_reducible exact pick_0 | with_reducible apply pick_s | exact sel_0 | apply sel_s)) ⟨q, rfl, rfl, rfl, rfl⟩ (by omega) (by omega) (by omega) (by omega) (by show 2 + 3 < d; omega) (by show 0 + (13 * (2 + 1) + 43) ≤ 46 * d; omega)
/-! PackedGraph: tape, fault, out -/
set_option maxHeartbeats 4000000 in
theorem c_pg_feed {g : GT} {z : Nat → Nat} (hA : GA g z) (d M N x P Q : Nat) (a1 a2 a3 a4 a5 : Int32) (S : AS) (hd : 100 ≤ d) (hM : 9100000 + 800 * S.1.length ≤ 320 * M + P) (hN : 1700000 + 21 * S.1.length ≤ N + Q) : CtrV g mX7_feed 6 d M N x [.int a1, .int a2, .int a3, .int a4, .int a5] [PGA g z x S P Q] (pgo g z x P Q S.1.length M N (sFeed a1 a2 a3 a4 a5 S).1 (some (.int (sFeed a1 a2 a3 a4 a5 S).2.1)) (sFeed a1 a2 a3 a4 a5 S).2.2) (pgx g z x P Q S.1.length M N (sFeed a1 a2 a3 a4 a5 S).1 (sFeed a1 a2 a3 a4 a5 S).2.2 [(exU, 1)]) := by
  refine ⟨pga_rcv, ?_⟩
  have hG := hA.1
  have h2 := hA.2.1
  obtain ⟨tape, us, np, nb, out, cd, pl⟩ := S
  dsimp only at hM hN
  refine ctr_intro hG (by decide +kernel) (Nat.le_of_ble_eq_true rfl) ?_
  rintro X F rfl E B hI T
  replace E : JE X RX7 cX7_feed 6 d M N := E
  show J X _ [PGA X.1 z x (tape, us, np, nb, out, cd, pl) P Q, F] 0 0 0 [some (.ref x), some (.int a1), some (.int a2), some (.int a3), some (.int a4), some (.int a5)] []
  refine pga_open (by repeat (first | with_reducible exact pick_0 | with_reducible apply pick_s)) ?_
  intro tp vl rd ld gr e0 ou p1 m1 lf p2 m2 rt p3 m3 capT capV capG c1 k1 c2 k2 c3 k3 b2 b3 vs hS
  refine j_know (fun w hw => pgl_know w hw) (fun hcp => ?_)
  dsimp only [PGL, List.cons_append, List.nil_append]
  obtain ⟨hok, hvt, htz, hP, hQ⟩ := hS
  dsimp only at hvt hP hQ
  have hvs := vsok_of hok hvt htz
  have hlen : vs.length = us.length := by rw [← hvt, vts_len]
  have h65 : tape.length ≤ 65536 := hok.1
  have h30 : us.length ≤ 3000 := hok.2.1
  have h60 : np ≤ 6000 := hok.2.2.1
  have hnb : nb ≤ 65536 := hok.2.2.2.1
  have hou : out.length ≤ 65536 := hok.2.2.2.2.1
  have hok9 := sFeed_ok (a := a1) (b := a2) (c := a3) (d := a4) (e := a5) hok
  refine j_aload_n E 1 dX7_feed_0 0 rfl rfl rfl ?_
  refine j_getf E 4 dX7_feed_1 fl_X7_10 (by repeat (first | with_reducible exact pick_0 | with_reducible apply pick_s)) (by rfl) rfl ?_
  refine j_callV E (c_row_size hG (d-1) tp capT tape) 7 dX7_feed_4 _ _ _ iv_X7_43 rfl rfl rfl (by repeat (first | with_reducible exact pick_0 | with_reducible apply pick_s | exact sel_0 | apply sel_s)) (by omega) (by omega) (by omega) (Nat.le_of_ble_eq_true rfl) rfl ?_
  rintro _ _ _ _ ⟨rfl, rfl, rfl, rfl⟩
  dsimp only [List.cons_append, List.nil_append, Option.toList]
  refine j_bipush E (20) 9 dX7_feed_7 (by decide) rfl ?_
  refine j_iadd E 10 dX7_feed_9 rfl ?_
  refine j_eqi (nI_add tape.length 20) ?_
  refine j_ldcI E _ 12 dX7_feed_10 kc_X7_47 rfl ?_
  refine j_icmp_le E 25 15 dX7_feed_12 (by decide) rfl (fun h12 => ?_) (fun h12 => ?_)
  · have q12 : (tape.length + 20) ≤ 65536 := (nI_leI (a := (tape.length + 20)) (b := 65536) (by omega) (by omega)).mp h12
    have e : sFeed a1 a2 a3 a4 a5 (tape, us, np, nb, out, cd, pl) = (0, nI (tape.length + 20), (tape ++ (beB a1.toInt64 4 ++ (beB a2.toInt64 4 ++ (beB a3.toInt64 4 ++ (beB a4.toInt64 4 ++ beB a5.toInt64 4)))), us, np, nb, out, cd, pl)) := if_pos q12
    rw [e] at hok9 B
    refine j_aload_n E 26 dX7_feed_25 0 rfl rfl rfl ?_
    refine j_getf E 29 dX7_feed_26 fl_X7_10 (by repeat (first | with_reducible exact pick_0 | with_reducible apply pick_s)) (by rfl) rfl ?_
    refine j_iload_n E 30 dX7_feed_29 1 rfl rfl rfl ?_
    refine j_i2l E 31 dX7_feed_30 rfl ?_
    refine j_iconst E (4) 32 dX7_feed_31 (by decide) rfl ?_
    refine j_callV E (c_row_append hG (d-1) (by omega) tp capT 4 a1.toInt64 (tape) (by omega) (by omega)) 35 dX7_feed_32 _ _ _ iv_X7_55 rfl rfl rfl (by repeat (first | with_reducible exact pick_0 | with_reducible apply pick_s | exact sel_0 | apply sel_s)) (by omega) (by omega) (by omega) (Nat.le_of_ble_eq_true rfl) rfl ?_
    rintro _ xadc xads _ ⟨xacap, rfl, rfl, xa1, xa2, xa3, xa4, xa5⟩
    dsimp only [List.cons_append, List.nil_append, Option.toList]
    refine j_know (pick_know (P := ROW X.1 tp _ xacap) (by repeat (first | with_reducible exact pick_0 | with_reducible apply pick_s)) row_know) (fun hcxa => ?_)
    refine j_aload_n E 36 dX7_feed_35 0 rfl rfl rfl ?_
    refine j_getf E 39 dX7_feed_36 fl_X7_10 (by repeat (first | with_reducible exact pick_0 | with_reducible apply pick_s)) (by rfl) rfl ?_
    refine j_iload_n E 40 dX7_feed_39 2 rfl rfl rfl ?_
    refine j_i2l E 41 dX7_feed_40 rfl ?_
    refine j_iconst E (4) 42 dX7_feed_41 (by decide) rfl ?_
    refine j_callV E (c_row_append hG (d-1) (by omega) tp xacap 4 a2.toInt64 (tape ++ beB a1.toInt64 4) (by omega) (by simp only [List.length_append, beB_len]; omega)) 45 dX7_feed_42 _ _ _ iv_X7_55 rfl rfl rfl (by repeat (first | with_reducible exact pick_0 | with_reducible apply pick_s | exact sel_0 | apply sel_s)) (by omega) (by omega) (by omega) (Nat.le_of_ble_eq_true rfl) rfl ?_
    rintro _ xbdc xbds _ ⟨xbcap, rfl, rfl, xb1, xb2, xb3, xb4, xb5⟩
    dsimp only [List.cons_append, List.nil_append, Option.toList]
    refine j_know (pick_know (P := ROW X.1 tp _ xbcap) (by repeat (first | with_reducible exact pick_0 | with_reducible apply pick_s)) row_know) (fun hcxb => ?_)
    refine j_aload_n E 46 dX7_feed_45 0 rfl rfl rfl ?_
    refine j_getf E 49 dX7_feed_46 fl_X7_10 (by repeat (first | with_reducible exact pick_0 | with_reducible apply pick_s)) (by rfl) rfl ?_
    refine j_iload_n E 50 dX7_feed_49 3 rfl rfl rfl ?_
    refine j_i2l E 51 dX7_feed_50 rfl ?_
    refine j_iconst E (4) 52 dX7_feed_51 (by decide) rfl ?_
    refine j_callV E (c_row_append hG (d-1) (by omega) tp xbcap 4 a3.toInt64 ((tape ++ beB a1.toInt64 4) ++ beB a2.toInt64 4) (by omega) (by simp only [List.length_append, beB_len]; omega)) 55 dX7_feed_52 _ _ _ iv_X7_55 rfl rfl rfl (by repeat (first | with_reducible exact pick_0 | with_reducible apply pick_s | exact sel_0 | apply sel_s)) (by omega) (by omega) (by omega) (Nat.le_of_ble_eq_true rfl) rfl ?_
    rintro _ xcdc xcds _ ⟨xccap, rfl, rfl, xc1, xc2, xc3, xc4, xc5⟩
    dsimp only [List.cons_append, List.nil_append, Option.toList]
    refine j_know (pick_know (P := ROW X.1 tp _ xccap) (by repeat (first | with_reducible exact pick_0 | with_reducible apply pick_s)) row_know) (fun hcxc => ?_)
    refine j_aload_n E 56 dX7_feed_55 0 rfl rfl rfl ?_
    refine j_getf E 59 dX7_feed_56 fl_X7_10 (by repeat (first | with_reducible exact pick_0 | with_reducible apply pick_s)) (by rfl) rfl ?_
    refine j_iload E 61 dX7_feed_59 rfl rfl ?_
    refine j_i2l E 62 dX7_feed_61 rfl ?_
    refine j_iconst E (4) 63 dX7_feed_62 (by decide) rfl ?_
    refine j_callV E (c_row_append hG (d-1) (by omega) tp xccap 4 a4.toInt64 (((tape ++ beB a1.toInt64 4) ++ beB a2.toInt64 4) ++ beB a3.toInt64 4) (by omega) (by simp only [List.length_append, beB_len]; omega)) 66 dX7_feed_63 _ _ _ iv_X7_55 rfl rfl rfl (by repeat (first | with_reducible exact pick_0 | with_reducible apply pick_s | exact sel_0 | apply sel_s)) (by omega) (by omega) (by omega) (Nat.le_of_ble_eq_true rfl) rfl ?_
    rintro _ xddc xdds _ ⟨xdcap, rfl, rfl, xd1, xd2, xd3, xd4, xd5⟩
    dsimp only [List.cons_append, List.nil_append, Option.toList]
    refine j_know (pick_know (P := ROW X.1 tp _ xdcap) (by repeat (first | with_reducible exact pick_0 | with_reducible apply pick_s)) row_know) (fun hcxd => ?_)
    refine j_aload_n E 67 dX7_feed_66 0 rfl rfl rfl ?_
    refine j_getf E 70 dX7_feed_67 fl_X7_10 (by repeat (first | with_reducible exact pick_0 | with_reducible apply pick_s)) (by rfl) rfl ?_
    refine j_iload E 72 dX7_feed_70 rfl rfl ?_
    refine j_i2l E 73 dX7_feed_72 rfl ?_
    refine j_iconst E (4) 74 dX7_feed_73 (by decide) rfl ?_
    refine j_callV E (c_row_append hG (d-1) (by omega) tp xdcap 4 a5.toInt64 ((((tape ++ beB a1.toInt64 4) ++ beB a2.toInt64 4) ++ beB a3.toInt64 4) ++ beB a4.toInt64 4) (by omega) (by simp only [List.length_append, beB_len]; omega)) 77 dX7_feed_74 _ _ _ iv_X7_55 rfl rfl rfl (by repeat (first | with_reducible exact pick_0 | with_reducible apply pick_s | exact sel_0 | apply sel_s)) (by omega) (by omega) (by omega) (Nat.le_of_ble_eq_true rfl) rfl ?_
    rintro _ xedc xeds _ ⟨xecap, rfl, rfl, xe1, xe2, xe3, xe4, xe5⟩
    dsimp only [List.cons_append, List.nil_append, Option.toList]
    refine j_know (pick_know (P := ROW X.1 tp _ xecap) (by repeat (first | with_reducible exact pick_0 | with_reducible apply pick_s)) row_know) (fun hcxe => ?_)
    refine j_aload_n E 78 dX7_feed_77 0 rfl rfl rfl ?_
    refine j_getf E 81 dX7_feed_78 fl_X7_10 (by repeat (first | with_reducible exact pick_0 | with_reducible apply pick_s)) (by rfl) rfl ?_
    refine j_callV E (c_row_size hG (d-1) tp xecap _) 84 dX7_feed_81 _ _ _ iv_X7_43 rfl rfl rfl (by repeat (first | with_reducible exact pick_0 | with_reducible apply pick_s | exact sel_0 | apply sel_s)) (by omega) (by omega) (by omega) (Nat.le_of_ble_eq_true rfl) rfl ?_
    rintro _ _ _ _ ⟨rfl, rfl, rfl, rfl⟩
    dsimp only [List.cons_append, List.nil_append, Option.toList]
    have e7 : (((((tape ++ beB a1.toInt64 4) ++ beB a2.toInt64 4) ++ beB a3.toInt64 4) ++ beB a4.toInt64 4) ++ beB a5.toInt64 4).length = tape.length + 20 := by simp only [List.length_append, beB_len]
    rw [e7]
    have e8 : ((((tape ++ beB a1.toInt64 4) ++ beB a2.toInt64 4) ++ beB a3.toInt64 4) ++ beB a4.toInt64 4) ++ beB a5.toInt64 4 = tape ++ (beB a1.toInt64 4 ++ (beB a2.toInt64 4 ++ (beB a3.toInt64 4 ++ (beB a4.toInt64 4 ++ beB a5.toInt64 4)))) := by simp only [List.append_assoc]
    rw [e8]
    refine pga_close us (by repeat (first | with_reducible exact pick_0 | with_reducible apply pick_s | exact sel_0 | apply sel_s)) hok9 hvt htz ?_
    exact j_iret E B rfl (xadc + xbdc + xcdc + xddc + xedc) (xads + xbds + xcds + xdds + xeds) dX7_feed_84 (by repeat (first | with_reducible exact pick_0 | with_reducible apply pick_s | exact sel_0 | apply sel_s)) ⟨_, _, rfl, rfl, rfl, by omega, by omega, by omega, by omega⟩ (by omega) (by omega) (by omega) (by omega)
  · have q12 : ¬ (tape.length + 20) ≤ 65536 := mt (nI_leI (a := (tape.length + 20)) (b := 65536) (by omega) (by omega)).mpr h12
    have e : sFeed a1 a2 a3 a4 a5 (tape, us, np, nb, out, cd, pl) = (1, 0, (tape, us, np, nb, out, cd, pl)) := if_neg q12
    rw [e] at hok9 B
    refine pga_close us (by repeat (first | with_reducible exact pick_0 | with_reducible apply pick_s | exact sel_0 | apply sel_s)) hok hvt htz ?_
    exact j_throwS E B T h2 (tk_U sr_50) 1 6 dX7_feed_15 18 19 21 24 rfl rfl rfl rfl dX7_feed_18 dX7_feed_19 dX7_feed_21 dX7_feed_24 (by repeat (first | with_reducible exact pick_0 | with_reducible apply pick_s | exact sel_0 | apply sel_s)) ⟨_, _, mm0, rfl, by omega, by omega, by omega, by omega⟩ (by omega) (by omega) (by omega) (by omega) (by show 2 + 3 < d; omega) (by show 0 + (13 * (2 + 1) + 43) ≤ 46 * d; omega)
set_option maxHeartbeats 4000000 in
theorem c_pg_end {g : GT} {z : Nat → Nat} (hA : GA g z) (d M N x P Q : Nat) (n : Int32) (S : AS) (hd : 100 ≤ d) (hM : 9100000 + 800 * S.1.length ≤ 320 * M + P) (hN : 1700000 + 21 * S.1.length ≤ N + Q) : CtrV g mX7_end 6 d M N x [.int n] [PGA g z x S P Q] (pgo g z x P Q S.1.length M N (sEnd n S).1 (none) (sEnd n S).2.2) (pgx g z x P Q S.1.length M N (sEnd n S).1 (sEnd n S).2.2 [(exA, 1)]) := by
  refine ⟨pga_rcv, ?_⟩
  have hG := hA.1
  have h2 := hA.2.1
  obtain ⟨tape, us, np, nb, out, cd, pl⟩ := S
  dsimp only at hM hN
  refine ctr_intro hG (by decide +kernel) (Nat.le_of_ble_eq_true rfl) ?_
  rintro X F rfl E B hI T
  replace E : JE X RX7 cX7_end 2 d M N := E
  show J X _ [PGA X.1 z x (tape, us, np, nb, out, cd, pl) P Q, F] 0 0 0 [some (.ref x), some (.int n)] []
  refine pga_open (by repeat (first | with_reducible exact pick_0 | with_reducible apply pick_s)) ?_
  intro tp vl rd ld gr e0 ou p1 m1 lf p2 m2 rt p3 m3 capT capV capG c1 k1 c2 k2 c3 k3 b2 b3 vs hS
  refine j_know (fun w hw => pgl_know w hw) (fun hcp => ?_)
  dsimp only [PGL, List.cons_append, List.nil_append]
  obtain ⟨hok, hvt, htz, hP, hQ⟩ := hS
  dsimp only at hvt hP hQ
  have hvs := vsok_of hok hvt htz
  have hlen : vs.length = us.length := by rw [← hvt, vts_len]
  have h65 : tape.length ≤ 65536 := hok.1
  have h30 : us.length ≤ 3000 := hok.2.1
  have h60 : np ≤ 6000 := hok.2.2.1
  have hnb : nb ≤ 65536 := hok.2.2.2.1
  have hou : out.length ≤ 65536 := hok.2.2.2.2.1
  have hok9 := sEnd_ok (n := n) hok
  have bad : ¬ inB n (tape.length + 1) = true → J X 2 [PGF x tp vl rd ou lf rt, ROW X.1 tp tape capT, VLS X.1 z vl vs np nb capV, RDR rd ld gr e0 (nI cd) (nI pl), LEAx ld, LST X.1 z gr [] capG, PCK X.1 z ou p1 m1 out c1 k1, PCK X.1 z lf p2 m2 b2 c2 k2, PCK X.1 z rt p3 m3 b3 c3 k3, F] 0 0 15 [some (.ref x), some (.int n)] [] := by
    intro q
    have e : sEnd n (tape, us, np, nb, out, cd, pl) = (1, 0, (tape, us, np, nb, out, cd, pl)) := if_neg q
    rw [e] at hok9 B
    refine pga_close us (by repeat (first | with_reducible exact pick_0 | with_reducible apply pick_s | exact sel_0 | apply sel_s)) hok hvt htz ?_
    exact j_throwS E B T h2 (tk_A sr_61) 1 6 dX7_end_15 18 19 21 24 rfl rfl rfl rfl dX7_end_18 dX7_end_19 dX7_end_21 dX7_end_24 (by repeat (first | with_reducible exact pick_0 | with_reducible apply pick_s | exact sel_0 | apply sel_s)) ⟨_, _, mm0, rfl, by omega, by omega, by omega, by omega⟩ (by omega) (by omega) (by omega) (by omega) (by show 2 + 3 < d; omega) (by show 0 + (13 * (2 + 1) + 43) ≤ 46 * d; omega)
  refine j_iload_n E 1 dX7_end_0 1 rfl rfl rfl ?_
  refine j_if_lt E 15 4 dX7_end_1 (by decide) rfl (fun h1 => ?_) (fun h1 => ?_)
  · refine bad (fun q => ?_)
    obtain ⟨j, hj, rfl⟩ := inB_t (by omega) q
    exact nI_pos (by omega) h1
  · obtain ⟨j, hj, rfl⟩ := nI_of h1
    refine j_iload_n E 5 dX7_end_4 1 rfl rfl rfl ?_
    refine j_aload_n E 6 dX7_end_5 0 rfl rfl rfl ?_
    refine j_getf E 9 dX7_end_6 fl_X7_10 (by repeat (first | with_reducible exact pick_0 | with_reducible apply pick_s)) (by rfl) rfl ?_
    refine j_callV E (c_row_size hG (d-1) tp capT tape) 12 dX7_end_9 _ _ _ iv_X7_43 rfl rfl rfl (by repeat (first | with_reducible exact pick_0 | with_reducible apply pick_s | exact sel_0 | apply sel_s)) (by omega) (by omega) (by omega) (Nat.le_of_ble_eq_true rfl) rfl ?_
    rintro _ _ _ _ ⟨rfl, rfl, rfl, rfl⟩
    dsimp only [List.cons_append, List.nil_append, Option.toList]
    refine j_icmp_le E 25 15 dX7_end_12 (by decide) rfl (fun h12 => ?_) (fun h12 => ?_)
    · have q12 : j ≤ (tape.length) := (nI_leI (a := j) (b := (tape.length)) (by omega) (by omega)).mp h12
      have qb : inB (nI j) (tape.length + 1) = true := by rw [inB_nI hj (by omega)]; exact decide_eq_true (by omega)
      have e : sEnd (nI j) (tape, us, np, nb, out, cd, pl) = (0, 0, (tape.take j, us, np, nb, out, cd, pl)) := by
        unfold sEnd
        dsimp only
        rw [if_pos qb, nI_clamp hj]
      rw [e] at hok9 B
      refine j_aload_n E 26 dX7_end_25 0 rfl rfl rfl ?_
      refine j_getf E 29 dX7_end_26 fl_X7_10 (by repeat (first | with_reducible exact pick_0 | with_reducible apply pick_s)) (by rfl) rfl ?_
      refine j_iload_n E 30 dX7_end_29 1 rfl rfl rfl ?_
      refine j_callV E (c_row_cut hG (d-1) tp capT j tape q12) 33 dX7_end_30 _ _ _ iv_X7_64 rfl rfl rfl (by repeat (first | with_reducible exact pick_0 | with_reducible apply pick_s | exact sel_0 | apply sel_s)) (by omega) (by omega) (by omega) (Nat.le_of_ble_eq_true rfl) rfl ?_
      rintro _ _ _ _ ⟨rfl, rfl, rfl, rfl⟩
      dsimp only [List.cons_append, List.nil_append, Option.toList]
      refine pga_close us (by repeat (first | with_reducible exact pick_0 | with_reducible apply pick_s | exact sel_0 | apply sel_s)) hok9 hvt htz ?_
      exact j_vret E B rfl 0 0 dX7_end_33 (by repeat (first | with_reducible exact pick_0 | with_reducible apply pick_s | exact sel_0 | apply sel_s)) ⟨_, _, rfl, rfl, rfl, by omega, by omega, by omega, by omega⟩ (by omega) (by omega) (by omega) (by omega)
    · have q12 : ¬ j ≤ (tape.length) := mt (nI_leI (a := j) (b := (tape.length)) (by omega) (by omega)).mpr h12
      exact j_sel (by repeat (first | with_reducible exact pick_0 | with_reducible apply pick_s | exact sel_0 | apply sel_s)) (bad (fun q => by
        rw [inB_nI hj (by omega)] at q
        have := of_decide_eq_true q
        omega))
set_option maxHeartbeats 4000000 in
theorem c_pg_fault {g : GT} {z : Nat → Nat} (hA : GA g z) (d M N x P Q : Nat) (w : Int32) (S : AS) (hd : 100 ≤ d) (hM : 9100000 + 800 * S.1.length ≤ 320 * M + P) (hN : 1700000 + 21 * S.1.length ≤ N + Q) : CtrV g mX7_fault 6 d M N x [.int w] [PGA g z x S P Q] (pgo g z x P Q S.1.length M N (sFault w S).1 (some (.int (sFault w S).2.1)) (sFault w S).2.2) (pgx g z x P Q S.1.length M N (sFault w S).1 (sFault w S).2.2 [(exI, 1)]) := by
  refine ⟨pga_rcv, ?_⟩
  have hG := hA.1
  have h2 := hA.2.1
  obtain ⟨tape, us, np, nb, out, cd, pl⟩ := S
  dsimp only at hM hN
  refine ctr_intro hG (by decide +kernel) (Nat.le_of_ble_eq_true rfl) ?_
  rintro X F rfl E B hI T
  replace E : JE X RX7 cX7_fault 2 d M N := E
  show J X _ [PGA X.1 z x (tape, us, np, nb, out, cd, pl) P Q, F] 0 0 0 [some (.ref x), some (.int w)] []
  refine pga_open (by repeat (first | with_reducible exact pick_0 | with_reducible apply pick_s)) ?_
  intro tp vl rd ld gr e0 ou p1 m1 lf p2 m2 rt p3 m3 capT capV capG c1 k1 c2 k2 c3 k3 b2 b3 vs hS
  refine j_know (fun w hw => pgl_know w hw) (fun hcp => ?_)
  dsimp only [PGL, List.cons_append, List.nil_append]
  obtain ⟨hok, hvt, htz, hP, hQ⟩ := hS
  dsimp only at hvt hP hQ
  have hvs := vsok_of hok hvt htz
  have hlen : vs.length = us.length := by rw [← hvt, vts_len]
  have h65 : tape.length ≤ 65536 := hok.1
  have h30 : us.length ≤ 3000 := hok.2.1
  have h60 : np ≤ 6000 := hok.2.2.1
  have hnb : nb ≤ 65536 := hok.2.2.2.1
  have hou : out.length ≤ 65536 := hok.2.2.2.2.1
  have bad : ¬ w = 0 → ¬ w = 1 → J X 2 [PGF x tp vl rd ou lf rt, ROW X.1 tp tape capT, VLS X.1 z vl vs np nb capV, RDR rd ld gr e0 (nI cd) (nI pl), LEAx ld, LST X.1 z gr [] capG, PCK X.1 z ou p1 m1 out c1 k1, PCK X.1 z lf p2 m2 b2 c2 k2, PCK X.1 z rt p3 m3 b3 c3 k3, F] 0 0 9 [some (.ref x), some (.int w)] [] := by
    intro q1 q2
    have e : sFault w (tape, us, np, nb, out, cd, pl) = (1, 0, (tape, us, np, nb, out, cd, pl)) := (if_neg q1).trans (if_neg q2)
    rw [e] at B
    refine pga_close us (by repeat (first | with_reducible exact pick_0 | with_reducible apply pick_s | exact sel_0 | apply sel_s)) hok hvt htz ?_
    exact j_throwS E B T h2 (tk_I sr_74) 1 6 dX7_fault_9 12 13 15 18 rfl rfl rfl rfl dX7_fault_12 dX7_fault_13 dX7_fault_15 dX7_fault_18 (by repeat (first | with_reducible exact pick_0 | with_reducible apply pick_s | exact sel_0 | apply sel_s)) ⟨_, _, mm0, rfl, by omega, by omega, by omega, by omega⟩ (by omega) (by omega) (by omega) (by omega) (by show 2 + 3 < d; omega) (by show 0 + (13 * (2 + 1) + 43) ≤ 46 * d; omega)
  refine j_iload_n E 1 dX7_fault_0 1 rfl rfl rfl ?_
  refine j_if_lt E 9 4 dX7_fault_1 (by decide) rfl (fun h1 => ?_) (fun h1 => ?_)
  · refine bad (fun q => ?_) (fun q => ?_)
    · rw [q] at h1
      exact absurd h1 (by decide)
    · rw [q] at h1
      exact absurd h1 (by decide)
  · obtain ⟨j, hj, rfl⟩ := nI_of h1
    refine j_iload_n E 5 dX7_fault_4 1 rfl rfl rfl ?_
    refine j_iconst E (1) 6 dX7_fault_5 (by decide) rfl ?_
    refine j_icmp_le E 19 9 dX7_fault_6 (by decide) rfl (fun h6 => ?_) (fun h6 => ?_)
    · have q6 : j ≤ 1 := (nI_leI (a := j) (b := 1) (by omega) (by omega)).mp h6
      refine j_iload_n E 20 dX7_fault_19 1 rfl rfl rfl ?_
      refine j_if_ne E 33 23 dX7_fault_20 (by decide) rfl (fun h20 => ?_) (fun h20 => ?_)
      · have q0 : ¬ j = 0 := fun q => h20 (by rw [q]; rfl)
        have q1 : j = 1 := by omega
        subst q1
        have e : sFault (nI 1) (tape, us, np, nb, out, cd, pl) = (0, nI pl, (tape, us, np, nb, out, cd, pl)) := rfl
        rw [e] at B
        refine j_aload_n E 34 dX7_fault_33 0 rfl rfl rfl ?_
        refine j_getf E 37 dX7_fault_34 fl_X7_26 (by repeat (first | with_reducible exact pick_0 | with_reducible apply pick_s)) (by rfl) rfl ?_
        refine j_getfN E 40 dX7_fault_37 fl_X7_81 (by repeat (first | with_reducible exact pick_0 | with_reducible apply pick_s)) (by rfl) rfl ?_
        refine pga_close us (by repeat (first | with_reducible exact pick_0 | with_reducible apply pick_s | exact sel_0 | apply sel_s)) hok hvt htz ?_
        exact j_iret E B rfl 0 0 dX7_fault_40 (by repeat (first | with_reducible exact pick_0 | with_reducible apply pick_s | exact sel_0 | apply sel_s)) ⟨_, _, rfl, rfl, rfl, by omega, by omega, by omega, by omega⟩ (by omega) (by omega) (by omega) (by omega)
      · have e : sFault (nI j) (tape, us, np, nb, out, cd, pl) = (0, nI cd, (tape, us, np, nb, out, cd, pl)) := if_pos h20
        rw [e] at B
        refine j_aload_n E 24 dX7_fault_23 0 rfl rfl rfl ?_
        refine j_getf E 27 dX7_fault_24 fl_X7_26 (by repeat (first | with_reducible exact pick_0 | with_reducible apply pick_s)) (by rfl) rfl ?_
        refine j_getfN E 30 dX7_fault_27 fl_X7_77 (by repeat (first | with_reducible exact pick_0 | with_reducible apply pick_s)) (by rfl) rfl ?_
        refine j_goto E 40 dX7_fault_30 (by decide) ?_
        refine pga_close us (by repeat (first | with_reducible exact pick_0 | with_reducible apply pick_s | exact sel_0 | apply sel_s)) hok hvt htz ?_
        exact j_iret E B rfl 0 0 dX7_fault_40 (by repeat (first | with_reducible exact pick_0 | with_reducible apply pick_s | exact sel_0 | apply sel_s)) ⟨_, _, rfl, rfl, rfl, by omega, by omega, by omega, by omega⟩ (by omega) (by omega) (by omega) (by omega)
    · have q6 : ¬ j ≤ 1 := mt (nI_leI (a := j) (b := 1) (by omega) (by omega)).mpr h6
      refine bad (fun q => ?_) (fun q => ?_)
      · have := (nI_eq (b := 0) hj (by decide)).mp q
        omega
      · have := (nI_eq (b := 1) hj (by decide)).mp q
        omega
set_option maxHeartbeats 4000000 in
theorem c_pg_skip {g : GT} {z : Nat → Nat} (hA : GA g z) (d M N x P Q : Nat) (w : Int32) (S : AS) (hd : 100 ≤ d) (hM : 9100000 + 800 * S.1.length ≤ 320 * M + P) (hN : 1700000 + 21 * S.1.length ≤ N + Q) : CtrV g mX7_skip 6 d M N x [.int w] [PGA g z x S P Q] (pgo g z x P Q S.1.length M N (sSkip w S).1 (some (.int (sSkip w S).2.1)) (sSkip w S).2.2) (pgx g z x P Q S.1.length M N (sSkip w S).1 (sSkip w S).2.2 [(exI, 1)]) := by
  refine ⟨pga_rcv, ?_⟩
  have hG := hA.1
  have h2 := hA.2.1
  obtain ⟨tape, us, np, nb, out, cd, pl⟩ := S
  dsimp only at hM hN
  refine ctr_intro hG (by decide +kernel) (Nat.le_of_ble_eq_true rfl) ?_
  rintro X F rfl E B hI T
  replace E : JE X RX7 cX7_skip 2 d M N := E
  show J X _ [PGA X.1 z x (tape, us, np, nb, out, cd, pl) P Q, F] 0 0 0 [some (.ref x), some (.int w)] []
  refine pga_open (by repeat (first | with_reducible exact pick_0 | with_reducible apply pick_s)) ?_
  intro tp vl rd ld gr e0 ou p1 m1 lf p2 m2 rt p3 m3 capT capV capG c1 k1 c2 k2 c3 k3 b2 b3 vs hS
  refine j_know (fun w hw => pgl_know w hw) (fun hcp => ?_)
  dsimp only [PGL, List.cons_append, List.nil_append]
  obtain ⟨hok, hvt, htz, hP, hQ⟩ := hS
  dsimp only at hvt hP hQ
  have hvs := vsok_of hok hvt htz
  have hlen : vs.length = us.length := by rw [← hvt, vts_len]
  have h65 : tape.length ≤ 65536 := hok.1
  have h30 : us.length ≤ 3000 := hok.2.1
  have h60 : np ≤ 6000 := hok.2.2.1
  have hnb : nb ≤ 65536 := hok.2.2.2.1
  have hou : out.length ≤ 65536 := hok.2.2.2.2.1
  have bad : ¬ inB w tape.length = true → J X 2 [PGF x tp vl rd ou lf rt, ROW X.1 tp tape capT, VLS X.1 z vl vs np nb capV, RDR rd ld gr e0 (nI cd) (nI pl), LEAx ld, LST X.1 z gr [] capG, PCK X.1 z ou p1 m1 out c1 k1, PCK X.1 z lf p2 m2 b2 c2 k2, PCK X.1 z rt p3 m3 b3 c3 k3, F] 0 0 15 [some (.ref x), some (.int w)] [] := by
    intro q
    have e : sSkip w (tape, us, np, nb, out, cd, pl) = (1, 0, (tape, us, np, nb, out, cd, pl)) := if_neg q
    rw [e] at B
    refine pga_close us (by repeat (first | with_reducible exact pick_0 | with_reducible apply pick_s | exact sel_0 | apply sel_s)) hok hvt htz ?_
    exact j_throwS E B T h2 (tk_I sr_84) 1 6 dX7_skip_15 18 19 21 24 rfl rfl rfl rfl dX7_skip_18 dX7_skip_19 dX7_skip_21 dX7_skip_24 (by repeat (first | with_reducible exact pick_0 | with_reducible apply pick_s | exact sel_0 | apply sel_s)) ⟨_, _, mm0, rfl, by omega, by omega, by omega, by omega⟩ (by omega) (by omega) (by omega) (by omega) (by show 2 + 3 < d; omega) (by show 0 + (13 * (2 + 1) + 43) ≤ 46 * d; omega)
  refine j_iload_n E 1 dX7_skip_0 1 rfl rfl rfl ?_
  refine j_if_lt E 15 4 dX7_skip_1 (by decide) rfl (fun h1 => ?_) (fun h1 => ?_)
  · refine bad (fun q => ?_)
    obtain ⟨j, hj, rfl⟩ := inB_t (by omega) q
    exact nI_pos (by omega) h1
  · obtain ⟨j, hj, rfl⟩ := nI_of h1
    refine j_iload_n E 5 dX7_skip_4 1 rfl rfl rfl ?_
    refine j_aload_n E 6 dX7_skip_5 0 rfl rfl rfl ?_
    refine j_getf E 9 dX7_skip_6 fl_X7_10 (by repeat (first | with_reducible exact pick_0 | with_reducible apply pick_s)) (by rfl) rfl ?_
    refine j_callV E (c_row_size hG (d-1) tp capT tape) 12 dX7_skip_9 _ _ _ iv_X7_43 rfl rfl rfl (by repeat (first | with_reducible exact pick_0 | with_reducible apply pick_s | exact sel_0 | apply sel_s)) (by omega) (by omega) (by omega) (Nat.le_of_ble_eq_true rfl) rfl ?_
    rintro _ _ _ _ ⟨rfl, rfl, rfl, rfl⟩
    dsimp only [List.cons_append, List.nil_append, Option.toList]
    refine j_icmp_lt E 25 15 dX7_skip_12 (by decide) rfl (fun h12 => ?_) (fun h12 => ?_)
    · have q12 : j < (tape.length) := (nI_ltI (a := j) (b := (tape.length)) (by omega) (by omega)).mp h12
      have qb : inB (nI j) tape.length = true := by rw [inB_nI hj (by omega)]; exact decide_eq_true q12
      have e : sSkip (nI j) (tape, us, np, nb, out, cd, pl) = (0, oI (skV tape (tape.length - j) j 1), (tape, us, np, nb, out, cd, pl)) := by
        unfold sSkip
        dsimp only
        rw [if_pos qb, nI_clamp hj]
      rw [e] at B
      refine j_aload_n E 26 dX7_skip_25 0 rfl rfl rfl ?_
      refine j_getf E 29 dX7_skip_26 fl_X7_26 (by repeat (first | with_reducible exact pick_0 | with_reducible apply pick_s)) (by rfl) rfl ?_
      refine j_aload_n E 30 dX7_skip_29 0 rfl rfl rfl ?_
      refine j_getf E 33 dX7_skip_30 fl_X7_10 (by repeat (first | with_reducible exact pick_0 | with_reducible apply pick_s)) (by rfl) rfl ?_
      refine j_iload_n E 34 dX7_skip_33 1 rfl rfl rfl ?_
      refine j_callV E (c_rd_end hA (d-1) rd ld gr e0 tp capT j (nI cd) (nI pl) tape (by omega) (by omega) (by omega)) 37 dX7_skip_34 _ _ _ iv_X7_86 rfl rfl rfl (by repeat (first | with_reducible exact pick_0 | with_reducible apply pick_s | exact sel_0 | apply sel_s)) (by omega) (by omega) (by omega) (Nat.le_of_ble_eq_true rfl) rfl ?_
      rintro _ _ _ _ ⟨rfl, rfl, rfl, rfl⟩
      dsimp only [List.cons_append, List.nil_append, Option.toList]
      refine pga_close us (by repeat (first | with_reducible exact pick_0 | with_reducible apply pick_s | exact sel_0 | apply sel_s)) hok hvt htz ?_
      exact j_iret E B rfl 0 0 dX7_skip_37 (by repeat (first | with_reducible exact pick_0 | with_reducible apply pick_s | exact sel_0 | apply sel_s)) ⟨_, _, rfl, rfl, rfl, by omega, by omega, by omega, by omega⟩ (by omega) (by omega) (by omega) (by omega)
    · have q12 : ¬ j < (tape.length) := mt (nI_ltI (a := j) (b := (tape.length)) (by omega) (by omega)).mpr h12
      exact j_sel (by repeat (first | with_reducible exact pick_0 | with_reducible apply pick_s | exact sel_0 | apply sel_s)) (bad (fun q => by
        rw [inB_nI hj (by omega)] at q
        have := of_decide_eq_true q
        omega))
set_option maxHeartbeats 4000000 in
theorem c_pg_shown {g : GT} {z : Nat → Nat} (hA : GA g z) (d M N x P Q : Nat) (w : Int32) (S : AS) (hd : 100 ≤ d) (hM : 9100000 + 800 * S.1.length ≤ 320 * M + P) (hN : 1700000 + 21 * S.1.length ≤ N + Q) : CtrV g mX7_shown 6 d M N x [.int w] [PGA g z x S P Q] (pgo g z x P Q S.1.length M N (sShown w S).1 (some (.int (sShown w S).2.1)) (sShown w S).2.2) (pgx g z x P Q S.1.length M N (sShown w S).1 (sShown w S).2.2 [(exI, 1)]) := by
  refine ⟨pga_rcv, ?_⟩
  have hG := hA.1
  have h2 := hA.2.1
  obtain ⟨tape, us, np, nb, out, cd, pl⟩ := S
  dsimp only at hM hN
  refine ctr_intro hG (by decide +kernel) (Nat.le_of_ble_eq_true rfl) ?_
  rintro X F rfl E B hI T
  replace E : JE X RX7 cX7_shown 2 d M N := E
  show J X _ [PGA X.1 z x (tape, us, np, nb, out, cd, pl) P Q, F] 0 0 0 [some (.ref x), some (.int w)] []
  refine pga_open (by repeat (first | with_reducible exact pick_0 | with_reducible apply pick_s)) ?_
  intro tp vl rd ld gr e0 ou p1 m1 lf p2 m2 rt p3 m3 capT capV capG c1 k1 c2 k2 c3 k3 b2 b3 vs hS
  refine j_know (fun w hw => pgl_know w hw) (fun hcp => ?_)
  dsimp only [PGL, List.cons_append, List.nil_append]
  obtain ⟨hok, hvt, htz, hP, hQ⟩ := hS
  dsimp only at hvt hP hQ
  have hvs := vsok_of hok hvt htz
  have hlen : vs.length = us.length := by rw [← hvt, vts_len]
  have h65 : tape.length ≤ 65536 := hok.1
  have h30 : us.length ≤ 3000 := hok.2.1
  have h60 : np ≤ 6000 := hok.2.2.1
  have hnb : nb ≤ 65536 := hok.2.2.2.1
  have hou : out.length ≤ 65536 := hok.2.2.2.2.1
  have bad : ¬ inB w out.length = true → J X 2 [PGF x tp vl rd ou lf rt, ROW X.1 tp tape capT, VLS X.1 z vl vs np nb capV, RDR rd ld gr e0 (nI cd) (nI pl), LEAx ld, LST X.1 z gr [] capG, PCK X.1 z ou p1 m1 out c1 k1, PCK X.1 z lf p2 m2 b2 c2 k2, PCK X.1 z rt p3 m3 b3 c3 k3, F] 0 0 18 [some (.ref x), some (.int w)] [] := by
    intro q
    have e : sShown w (tape, us, np, nb, out, cd, pl) = (1, 0, (tape, us, np, nb, out, cd, pl)) := if_neg q
    rw [e] at B
    refine pga_close us (by repeat (first | with_reducible exact pick_0 | with_reducible apply pick_s | exact sel_0 | apply sel_s)) hok hvt htz ?_
    exact j_throwS E B T h2 (tk_I sr_102) 1 6 dX7_shown_18 21 22 24 27 rfl rfl rfl rfl dX7_shown_21 dX7_shown_22 dX7_shown_24 dX7_shown_27 (by repeat (first | with_reducible exact pick_0 | with_reducible apply pick_s | exact sel_0 | apply sel_s)) ⟨_, _, mm0, rfl, by omega, by omega, by omega, by omega⟩ (by omega) (by omega) (by omega) (by omega) (by show 2 + 3 < d; omega) (by show 0 + (13 * (2 + 1) + 43) ≤ 46 * d; omega)
  refine j_iload_n E 1 dX7_shown_0 1 rfl rfl rfl ?_
  refine j_if_lt E 18 4 dX7_shown_1 (by decide) rfl (fun h1 => ?_) (fun h1 => ?_)
  · refine bad (fun q => ?_)
    obtain ⟨j, hj, rfl⟩ := inB_t (by omega) q
    exact nI_pos (by omega) h1
  · obtain ⟨j, hj, rfl⟩ := nI_of h1
    refine j_open (P := PCK X.1 z ou p1 m1 out c1 k1) (by repeat (first | with_reducible exact pick_0 | with_reducible apply pick_s)) pck_open ?_
    rintro ⟨mo, fa⟩ -
    dsimp only [List.cons_append, List.nil_append]
    refine j_iload_n E 5 dX7_shown_4 1 rfl rfl rfl ?_
    refine j_aload_n E 6 dX7_shown_5 0 rfl rfl rfl ?_
    refine j_getf E 9 dX7_shown_6 fl_X7_33 (by repeat (first | with_reducible exact pick_0 | with_reducible apply pick_s)) (by rfl) rfl ?_
    refine j_getfF E 12 dX7_shown_9 fl_X7_99 (by repeat (first | with_reducible exact pick_0 | with_reducible apply pick_s)) (by rfl) rfl ?_
    refine j_callV E (c_row_size hG (d-1) p1 c1 out) 15 dX7_shown_12 _ _ _ iv_X7_43 rfl rfl rfl (by repeat (first | with_reducible exact pick_0 | with_reducible apply pick_s | exact sel_0 | apply sel_s)) (by omega) (by omega) (by omega) (Nat.le_of_ble_eq_true rfl) rfl ?_
    rintro _ _ _ _ ⟨rfl, rfl, rfl, rfl⟩
    dsimp only [List.cons_append, List.nil_append, Option.toList]
    refine j_icmp_lt E 28 18 dX7_shown_15 (by decide) rfl (fun h15 => ?_) (fun h15 => ?_)
    · have q15 : j < (out.length) := (nI_ltI (a := j) (b := (out.length)) (by omega) (by omega)).mp h15
      have qb : inB (nI j) out.length = true := by rw [inB_nI hj (by omega)]; exact decide_eq_true q15
      have e : sShown (nI j) (tape, us, np, nb, out, cd, pl) = (0, nI (out.getD j 0).toNat, (tape, us, np, nb, out, cd, pl)) := by
        unfold sShown
        dsimp only
        rw [if_pos qb, nI_clamp hj]
      rw [e] at B
      refine j_aload_n E 29 dX7_shown_28 0 rfl rfl rfl ?_
      refine j_getf E 32 dX7_shown_29 fl_X7_33 (by repeat (first | with_reducible exact pick_0 | with_reducible apply pick_s)) (by rfl) rfl ?_
      refine j_getfF E 35 dX7_shown_32 fl_X7_99 (by repeat (first | with_reducible exact pick_0 | with_reducible apply pick_s)) (by rfl) rfl ?_
      refine j_iload_n E 36 dX7_shown_35 1 rfl rfl rfl ?_
      refine j_callV E (c_row_at hG (d-1) p1 c1 j out q15) 39 dX7_shown_36 _ _ _ iv_X7_104 rfl rfl rfl (by repeat (first | with_reducible exact pick_0 | with_reducible apply pick_s | exact sel_0 | apply sel_s)) (by omega) (by omega) (by omega) (Nat.le_of_ble_eq_true rfl) rfl ?_
      rintro _ _ _ _ ⟨rfl, rfl, rfl, rfl⟩
      dsimp only [List.cons_append, List.nil_append, Option.toList]
      refine j_close (by repeat (first | with_reducible exact pick_0 | with_reducible apply pick_s | exact sel_0 | apply sel_s)) (pck_of (g := X.1) (z := z) (pk := ou) (pr := p1) (cm := m1) (cap := c1) (capC := k1) (bs := out) (mo := mo) (fa := fa)) ?_
      refine pga_close us (by repeat (first | with_reducible exact pick_0 | with_reducible apply pick_s | exact sel_0 | apply sel_s)) hok hvt htz ?_
      exact j_iret E B rfl 0 0 dX7_shown_39 (by repeat (first | with_reducible exact pick_0 | with_reducible apply pick_s | exact sel_0 | apply sel_s)) ⟨_, _, rfl, rfl, rfl, by omega, by omega, by omega, by omega⟩ (by omega) (by omega) (by omega) (by omega)
    · have q15 : ¬ j < (out.length) := mt (nI_ltI (a := j) (b := (out.length)) (by omega) (by omega)).mpr h15
      refine j_close (by repeat (first | with_reducible exact pick_0 | with_reducible apply pick_s | exact sel_0 | apply sel_s)) (pck_of (g := X.1) (z := z) (pk := ou) (pr := p1) (cm := m1) (cap := c1) (capC := k1) (bs := out) (mo := mo) (fa := fa)) ?_
      exact j_sel (by repeat (first | with_reducible exact pick_0 | with_reducible apply pick_s | exact sel_0 | apply sel_s)) (bad (fun q => by
        rw [inB_nI hj (by omega)] at q
        have := of_decide_eq_true q
        omega))

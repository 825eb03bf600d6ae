/-! PackedGraph: new values -/
theorem vts_ents {ads : List Nat} {new : List VT} (h : ads.length = new.length) : vts (ents ads new) = new := by
  induction ads generalizing new with
  | nil =>
    rcases new with _ | ⟨v, new⟩
    · rfl
    · cases h
  | cons a ads ih =>
    rcases new with _ | ⟨v, new⟩
    · cases h
    · show v :: vts (ents ads new) = v :: new
      rw [ih (by simpa using h)]
theorem ents_tz {ads : List Nat} {new : List VT} : ∀ e ∈ ents ads new, e.2.2 = -1 := by
  induction ads generalizing new with
  | nil => exact fun e he => absurd he List.not_mem_nil
  | cons a ads ih =>
    rcases new with _ | ⟨v, new⟩
    · exact fun e he => absurd he List.not_mem_nil
    · intro e he
      rcases List.mem_cons.mp he with q | q
      · rw [q]
      · exact ih e q
theorem tz_snoc {vs : List VE} {e : VE} (h : ∀ e ∈ vs, e.2.2 = -1) (h2 : e.2.2 = -1) : ∀ u ∈ vs ++ [e], u.2.2 = -1 := fun u hu => by
  rcases List.mem_append.mp hu with q | q
  · exact h u q
  · rw [List.mem_singleton.mp q]
    exact h2
set_option maxHeartbeats 4000000 in
theorem c_pg_init {g : GT} {z : Nat → Nat} (hA : GA g z) (d x : Nat) (hd : 40 ≤ d) : Ctr g mX7_init d 19 303 [.ref x] [pt x (.inr (6, [.null, .null, .null, .null, .null, .null]))] (fun o dc ds ws' => ∃ P Q, o = none ∧ dc ≤ 19 ∧ ds ≤ 303 ∧ ws' = [PGA g z x ([], [], 0, 0, [], 0, 0) P Q]) noX := by
  have hG := hA.1
  refine ctr_intro hG (by decide +kernel) (Nat.le_of_ble_eq_true rfl) ?_
  rintro X F rfl E B hI T
  replace E : JE X RX7 cX7_init 1 d 19 303 := E
  show J X _ [pt x (.inr (6, [.null, .null, .null, .null, .null, .null])), F] 0 0 0 [some (.ref x)] []
  refine j_aload_n E 1 dX7_init_0 0 rfl rfl rfl ?_
  refine j_objI E 4 dX7_init_1 ob_X7 ob_inst ob_code (Nat.le_of_ble_eq_true rfl) (by omega) rfl ?_
  refine j_aload_n E 5 dX7_init_4 0 rfl rfl rfl ?_
  refine j_new E 8 dX7_init_5 nw_X7_7 (by omega) (by omega) rfl (fun tp => ?_)
  refine j_dup E 9 dX7_init_8 rfl rfl ?_
  refine j_callIn E (c_row_init hG (d-1) (by omega) tp) 12 dX7_init_9 iv_X7_9 rfl rfl (by repeat (first | with_reducible exact pick_0 | with_reducible apply pick_s | exact sel_0 | apply sel_s)) (by omega) (by omega) (by omega) (Nat.le_of_ble_eq_true rfl) rfl ?_
  rintro _ _ _ _ ⟨rfl, rfl, rfl, rfl⟩
  dsimp only [List.cons_append, List.nil_append, Option.toList]
  refine j_putfF E (hI rfl) 15 dX7_init_12 fl_X7_10 (by repeat (first | with_reducible exact pick_0 | with_reducible apply pick_s)) rfl rfl (Nat.le_of_ble_eq_true rfl) rfl ?_
  dsimp only [List.set]
  refine j_aload_n E 16 dX7_init_15 0 rfl rfl rfl ?_
  refine j_new E 19 dX7_init_16 nw_X7_16 (by omega) (by omega) rfl (fun vl => ?_)
  refine j_dup E 20 dX7_init_19 rfl rfl ?_
  refine j_callIn E (c_vls_init hA (d-1) (by omega) vl) 23 dX7_init_20 iv_X7_18 rfl rfl (by repeat (first | with_reducible exact pick_0 | with_reducible apply pick_s | exact sel_0 | apply sel_s)) (by omega) (by omega) (by omega) (Nat.le_of_ble_eq_true rfl) rfl ?_
  rintro _ adc ads _ ⟨rfl, a1, a2, rfl⟩
  dsimp only [List.cons_append, List.nil_append, Option.toList]
  refine j_putfF E (hI rfl) 26 dX7_init_23 fl_X7_19 (by repeat (first | with_reducible exact pick_0 | with_reducible apply pick_s)) rfl rfl (Nat.le_of_ble_eq_true rfl) rfl ?_
  dsimp only [List.set]
  refine j_aload_n E 27 dX7_init_26 0 rfl rfl rfl ?_
  refine j_new E 30 dX7_init_27 nw_X7_23 (by omega) (by omega) rfl (fun rd => ?_)
  refine j_dup E 31 dX7_init_30 rfl rfl ?_
  refine j_callIn E (c_rd_init hA (d-1) (by omega) rd) 34 dX7_init_31 iv_X7_25 rfl rfl (by repeat (first | with_reducible exact pick_0 | with_reducible apply pick_s | exact sel_0 | apply sel_s)) (by omega) (by omega) (by omega) (Nat.le_of_ble_eq_true rfl) rfl ?_
  rintro _ bdc bds _ ⟨ld, gr, rfl, b1, b2, rfl⟩
  dsimp only [List.cons_append, List.nil_append, Option.toList]
  refine j_putfF E (hI rfl) 37 dX7_init_34 fl_X7_26 (by repeat (first | with_reducible exact pick_0 | with_reducible apply pick_s)) rfl rfl (Nat.le_of_ble_eq_true rfl) rfl ?_
  dsimp only [List.set]
  refine j_aload_n E 38 dX7_init_37 0 rfl rfl rfl ?_
  refine j_new E 41 dX7_init_38 nw_X7_30 (by omega) (by omega) rfl (fun ou => ?_)
  refine j_dup E 42 dX7_init_41 rfl rfl ?_
  refine j_callIn E (c_pk_init hA (d-1) (by omega) ou) 45 dX7_init_42 iv_X7_32 rfl rfl (by repeat (first | with_reducible exact pick_0 | with_reducible apply pick_s | exact sel_0 | apply sel_s)) (by omega) (by omega) (by omega) (Nat.le_of_ble_eq_true rfl) rfl ?_
  rintro _ cdc cds _ ⟨p1, m1, rfl, c1, c2, rfl⟩
  dsimp only [List.cons_append, List.nil_append, Option.toList]
  refine j_putfF E (hI rfl) 48 dX7_init_45 fl_X7_33 (by repeat (first | with_reducible exact pick_0 | with_reducible apply pick_s)) rfl rfl (Nat.le_of_ble_eq_true rfl) rfl ?_
  dsimp only [List.set]
  refine j_aload_n E 49 dX7_init_48 0 rfl rfl rfl ?_
  refine j_new E 52 dX7_init_49 nw_X7_30 (by omega) (by omega) rfl (fun lf => ?_)
  refine j_dup E 53 dX7_init_52 rfl rfl ?_
  refine j_callIn E (c_pk_init hA (d-1) (by omega) lf) 56 dX7_init_53 iv_X7_32 rfl rfl (by repeat (first | with_reducible exact pick_0 | with_reducible apply pick_s | exact sel_0 | apply sel_s)) (by omega) (by omega) (by omega) (Nat.le_of_ble_eq_true rfl) rfl ?_
  rintro _ ddc dds _ ⟨p2, m2, rfl, d1, d2, rfl⟩
  dsimp only [List.cons_append, List.nil_append, Option.toList]
  refine j_putfF E (hI rfl) 59 dX7_init_56 fl_X7_37 (by repeat (first | with_reducible exact pick_0 | with_reducible apply pick_s)) rfl rfl (Nat.le_of_ble_eq_true rfl) rfl ?_
  dsimp only [List.set]
  refine j_aload_n E 60 dX7_init_59 0 rfl rfl rfl ?_
  refine j_new E 63 dX7_init_60 nw_X7_30 (by omega) (by omega) rfl (fun rt => ?_)
  refine j_dup E 64 dX7_init_63 rfl rfl ?_
  refine j_callIn E (c_pk_init hA (d-1) (by omega) rt) 67 dX7_init_64 iv_X7_32 rfl rfl (by repeat (first | with_reducible exact pick_0 | with_reducible apply pick_s | exact sel_0 | apply sel_s)) (by omega) (by omega) (by omega) (Nat.le_of_ble_eq_true rfl) rfl ?_
  rintro _ edc eds _ ⟨p3, m3, rfl, e1, e2, rfl⟩
  dsimp only [List.cons_append, List.nil_append, Option.toList]
  refine j_putfF E (hI rfl) 70 dX7_init_67 fl_X7_40 (by repeat (first | with_reducible exact pick_0 | with_reducible apply pick_s)) rfl rfl (Nat.le_of_ble_eq_true rfl) rfl ?_
  dsimp only [List.set]
  rw [show (0 : Int32) = nI 0 from rfl]
  refine pga_close [] (by repeat (first | with_reducible exact pick_0 | with_reducible apply pick_s | exact sel_0 | apply sel_s)) ⟨Nat.zero_le _, Nat.zero_le _, Nat.zero_le _, Nat.zero_le _, Nat.zero_le _, Nat.zero_le _, Nat.zero_le _, fun v hv => absurd hv List.not_mem_nil⟩ rfl (fun e he => absurd he List.not_mem_nil) ?_
  exact j_vret E B rfl 19 303 dX7_init_70 (by repeat (first | with_reducible exact pick_0 | with_reducible apply pick_s | exact sel_0 | apply sel_s)) ⟨_, _, rfl, by omega, by omega, rfl⟩ (by omega) (by omega) (by omega) (by omega)
set_option maxHeartbeats 4000000 in
theorem c_pg_unpack {g : GT} {z : Nat → Nat} (hA : GA g z) (d M N x P Q : Nat)  (S : AS) (hd : 100 ≤ d) (hM : 9100000 + 800 * S.1.length ≤ 320 * M + P) (hN : 1700000 + 21 * S.1.length ≤ N + Q) : CtrV g mX7_unpack 6 d M N x [] [PGA g z x S P Q] (pgo g z x P Q S.1.length M N (sUnpack S).1 (some (.int (sUnpack S).2.1)) (sUnpack S).2.2) (pgx g z x P Q S.1.length M N (sUnpack S).1 (sUnpack S).2.2 []) := by
  refine ⟨pga_rcv, ?_⟩
  have hG := hA.1
  have h2 := hA.2.1
  obtain ⟨tape, us, np, nb, out, cd, pl⟩ := S
  dsimp only at hM hN
  refine ctr_intro hG (by decide +kernel) (Nat.le_of_ble_eq_true rfl) ?_
  rintro X F rfl E B hI T
  replace E : JE X RX7 cX7_unpack 2 d M N := E
  show J X _ [PGA X.1 z x (tape, us, np, nb, out, cd, pl) P Q, F] 0 0 0 [some (.ref x), none] []
  refine pga_open (by repeat (first | with_reducible exact pick_0 | with_reducible apply pick_s)) ?_
  intro tp vl rd ld gr e0 ou p1 m1 lf p2 m2 rt p3 m3 capT capV capG c1 k1 c2 k2 c3 k3 b2 b3 vs hS
  refine j_know (fun w hw => pgl_know w hw) (fun hcp => ?_)
  dsimp only [PGL, List.cons_append, List.nil_append]
  obtain ⟨hok, hvt, htz, hP, hQ⟩ := hS
  dsimp only at hvt hP hQ
  have hvs := vsok_of hok hvt htz
  have hlen : vs.length = us.length := by rw [← hvt, vts_len]
  have h65 : tape.length ≤ 65536 := hok.1
  have h30 : us.length ≤ 3000 := hok.2.1
  have h60 : np ≤ 6000 := hok.2.2.1
  have hnb : nb ≤ 65536 := hok.2.2.2.1
  have hou : out.length ≤ 65536 := hok.2.2.2.2.1
  have hok9 := sUnpack_ok hok
  refine j_aload_n E 1 dX7_unpack_0 0 rfl rfl rfl ?_
  refine j_getf E 4 dX7_unpack_1 fl_X7_26 (by repeat (first | with_reducible exact pick_0 | with_reducible apply pick_s)) (by rfl) rfl ?_
  refine j_aload_n E 5 dX7_unpack_4 0 rfl rfl rfl ?_
  refine j_getf E 8 dX7_unpack_5 fl_X7_10 (by repeat (first | with_reducible exact pick_0 | with_reducible apply pick_s)) (by rfl) rfl ?_
  refine j_aload_n E 9 dX7_unpack_8 0 rfl rfl rfl ?_
  refine j_getf E 12 dX7_unpack_9 fl_X7_19 (by repeat (first | with_reducible exact pick_0 | with_reducible apply pick_s)) (by rfl) rfl ?_
  refine j_callV E (c_rd_tape hA (d-1) M N rd ld gr tp vl e0 np nb capV capG capT (nI cd) (nI pl) tape vs (by omega) (by omega) h60 hnb (by omega) (by omega) (by omega)) 15 dX7_unpack_12 _ _ _ iv_X7_68 rfl rfl rfl (by repeat (first | with_reducible exact pick_0 | with_reducible apply pick_s | exact sel_0 | apply sel_s)) (by omega) (by omega) (by omega) (Nat.le_of_ble_eq_true rfl) rfl ?_
  rintro o xdc xds ws' ⟨hq1, hq2, hq3⟩
  rw [hlen] at hq1
  have e9 : sUnpack (tape, us, np, nb, out, cd, pl) = match rdAll tape us.length np nb with
    | .inl x => (0, -1, ([], us, np, nb, out, x.1, x.2))
    | .inr x => (0, nI x.1, ([], us ++ x.2.1, x.2.2.1, x.2.2.2, out, 0, 0)) := rfl
  rw [e9] at hok9 B
  rcases hr : rdAll tape us.length np nb with y | y
  · rw [hr] at hq1 hok9 B
    dsimp only at hok9 B
    obtain ⟨e2, cV, cG, rfl, rfl, g1, g2⟩ := hq1
    dsimp only [List.cons_append, List.nil_append, Option.toList]
    refine j_istore_n E 16 dX7_unpack_15 1 rfl (Nat.le_of_ble_eq_true rfl) rfl rfl ?_
    dsimp only [List.set]
    refine j_aload_n E 17 dX7_unpack_16 0 rfl rfl rfl ?_
    refine j_getf E 20 dX7_unpack_17 fl_X7_10 (by repeat (first | with_reducible exact pick_0 | with_reducible apply pick_s)) (by rfl) rfl ?_
    refine j_iconst E (0) 21 dX7_unpack_20 (by decide) rfl ?_
    rw [show (0 : Int32) = nI 0 from rfl]
    refine j_callV E (c_row_cut hG (d-1) tp capT 0 tape (Nat.zero_le _)) 24 dX7_unpack_21 _ _ _ iv_X7_64 rfl rfl rfl (by repeat (first | with_reducible exact pick_0 | with_reducible apply pick_s | exact sel_0 | apply sel_s)) (by omega) (by omega) (by omega) (Nat.le_of_ble_eq_true rfl) rfl ?_
    rintro _ _ _ _ ⟨rfl, rfl, rfl, rfl⟩
    dsimp only [List.cons_append, List.nil_append, Option.toList]
    rw [show tape.take 0 = [] from rfl]
    refine j_iload_n E 25 dX7_unpack_24 1 rfl rfl rfl ?_
    refine pga_close us (by repeat (first | with_reducible exact pick_0 | with_reducible apply pick_s | exact sel_0 | apply sel_s)) hok9 hvt htz ?_
    exact j_iret E B rfl xdc xds dX7_unpack_25 (by repeat (first | with_reducible exact pick_0 | with_reducible apply pick_s | exact sel_0 | apply sel_s)) ⟨_, _, rfl, rfl, rfl, by omega, by omega, by omega, by omega⟩ (by omega) (by omega) (by omega) (by omega)
  · rw [hr] at hq1 hok9 B
    dsimp only at hok9 B
    obtain ⟨ads, e2, cV, cG, f1, rfl, rfl, g1, g2⟩ := hq1
    dsimp only [List.cons_append, List.nil_append, Option.toList]
    refine j_istore_n E 16 dX7_unpack_15 1 rfl (Nat.le_of_ble_eq_true rfl) rfl rfl ?_
    dsimp only [List.set]
    refine j_aload_n E 17 dX7_unpack_16 0 rfl rfl rfl ?_
    refine j_getf E 20 dX7_unpack_17 fl_X7_10 (by repeat (first | with_reducible exact pick_0 | with_reducible apply pick_s)) (by rfl) rfl ?_
    refine j_iconst E (0) 21 dX7_unpack_20 (by decide) rfl ?_
    rw [show (0 : Int32) = nI 0 from rfl]
    refine j_callV E (c_row_cut hG (d-1) tp capT 0 tape (Nat.zero_le _)) 24 dX7_unpack_21 _ _ _ iv_X7_64 rfl rfl rfl (by repeat (first | with_reducible exact pick_0 | with_reducible apply pick_s | exact sel_0 | apply sel_s)) (by omega) (by omega) (by omega) (Nat.le_of_ble_eq_true rfl) rfl ?_
    rintro _ _ _ _ ⟨rfl, rfl, rfl, rfl⟩
    dsimp only [List.cons_append, List.nil_append, Option.toList]
    rw [show tape.take 0 = [] from rfl]
    refine j_iload_n E 25 dX7_unpack_24 1 rfl rfl rfl ?_
    refine pga_close (us ++ y.2.1) (by repeat (first | with_reducible exact pick_0 | with_reducible apply pick_s | exact sel_0 | apply sel_s)) hok9 (by rw [← hvt, vts, List.map_append]; exact congrArg (List.map (fun e => e.2.1) vs ++ ·) (vts_ents f1)) (fun u hu => ?_) ?_
    · rcases List.mem_append.mp hu with q | q
      · exact htz u q
      · exact ents_tz u q
    exact j_iret E B rfl xdc xds dX7_unpack_25 (by repeat (first | with_reducible exact pick_0 | with_reducible apply pick_s | exact sel_0 | apply sel_s)) ⟨_, _, rfl, rfl, rfl, by omega, by omega, by omega, by omega⟩ (by omega) (by omega) (by omega) (by omega)
set_option maxHeartbeats 4000000 in
theorem c_pg_pack {g : GT} {z : Nat → Nat} (hA : GA g z) (d M N x P Q : Nat) (w : Int32) (S : AS) (hd : 100 ≤ d) (hM : 9100000 + 800 * S.1.length ≤ 320 * M + P) (hN : 1700000 + 21 * S.1.length ≤ N + Q) : CtrV g mX7_pack 6 d M N x [.int w] [PGA g z x S P Q] (pgo g z x P Q S.1.length M N (sPack w S).1 (some (.int (sPack w S).2.1)) (sPack w S).2.2) (pgx g z x P Q S.1.length M N (sPack w S).1 (sPack w S).2.2 [(exI, 1), (exU, 2)]) := by
  refine ⟨pga_rcv, ?_⟩
  have hG := hA.1
  have h2 := hA.2.1
  obtain ⟨tape, us, np, nb, out, cd, pl⟩ := S
  dsimp only at hM hN
  refine ctr_intro hG (by decide +kernel) (Nat.le_of_ble_eq_true rfl) ?_
  rintro X F rfl E B hI T
  replace E : JE X RX7 cX7_pack 2 d M N := E
  show J X _ [PGA X.1 z x (tape, us, np, nb, out, cd, pl) P Q, F] 0 0 0 [some (.ref x), some (.int w)] []
  refine pga_open (by repeat (first | with_reducible exact pick_0 | with_reducible apply pick_s)) ?_
  intro tp vl rd ld gr e0 ou p1 m1 lf p2 m2 rt p3 m3 capT capV capG c1 k1 c2 k2 c3 k3 b2 b3 vs hS
  refine j_know (fun w hw => pgl_know w hw) (fun hcp => ?_)
  dsimp only [PGL, List.cons_append, List.nil_append]
  obtain ⟨hok, hvt, htz, hP, hQ⟩ := hS
  dsimp only at hvt hP hQ
  have hvs := vsok_of hok hvt htz
  have hlen : vs.length = us.length := by rw [← hvt, vts_len]
  have h65 : tape.length ≤ 65536 := hok.1
  have h30 : us.length ≤ 3000 := hok.2.1
  have h60 : np ≤ 6000 := hok.2.2.1
  have hnb : nb ≤ 65536 := hok.2.2.2.1
  have hou : out.length ≤ 65536 := hok.2.2.2.2.1
  have hok9 := sPack_ok (v := w) hok
  refine j_aload_n E 1 dX7_pack_0 0 rfl rfl rfl ?_
  refine j_iload_n E 2 dX7_pack_1 1 rfl rfl rfl ?_
  refine j_callVX E (c_nd_value hA (d-1) x tp vl rd ou lf rt np nb capV w vs (by omega)) 5 dX7_pack_2 _ _ _ iv_X7_90 rfl rfl rfl (by repeat (first | with_reducible exact pick_0 | with_reducible apply pick_s | exact sel_0 | apply sel_s)) (by omega) (by omega) (by omega) (Nat.le_of_ble_eq_true rfl) rfl ?_ ?_
  · rintro _ _ _ _ ⟨qb, rfl, rfl, rfl, rfl⟩
    dsimp only [List.cons_append, List.nil_append, Option.toList]
    rw [hlen] at qb
    obtain ⟨j, hj, rfl⟩ := inB_t (by omega) qb
    obtain ⟨e, he⟩ : ∃ e, vs[j]? = some e := ⟨_, List.getElem?_eq_getElem (by omega)⟩
    obtain ⟨ea, ev, et⟩ := e
    have e9 : sPack (nI j) (tape, us, np, nb, out, cd, pl) = match packU us 65536 j with
      | some p => (0, nI p.length, (tape, us, np, nb, p, cd, pl))
      | none => (2, 0, (tape, us, np, nb, [], cd, pl)) := by
      unfold sPack
      dsimp only
      rw [if_pos qb, nI_clamp (by omega)]
      rfl
    rw [e9] at hok9 B
    refine j_aload_n E 6 dX7_pack_5 0 rfl rfl rfl ?_
    refine j_getf E 9 dX7_pack_6 fl_X7_33 (by repeat (first | with_reducible exact pick_0 | with_reducible apply pick_s)) (by rfl) rfl ?_
    refine j_aload_n E 10 dX7_pack_9 0 rfl rfl rfl ?_
    refine j_getf E 13 dX7_pack_10 fl_X7_19 (by repeat (first | with_reducible exact pick_0 | with_reducible apply pick_s)) (by rfl) rfl ?_
    refine j_iload_n E 14 dX7_pack_13 1 rfl rfl rfl ?_
    refine j_ldcI E _ 16 dX7_pack_14 kc_X7_47 rfl ?_
    rw [show (65536 : Int32) = nI 65536 from rfl]
    refine j_callV E (c_pk_write hA (d-1) M N ou p1 m1 vl 65536 c1 k1 capV np nb j ea ev et out vs (by omega) hvs he (Nat.le_refl _) (by omega) (by omega)) 19 dX7_pack_16 _ _ _ iv_X7_93 rfl rfl rfl (by repeat (first | with_reducible exact pick_0 | with_reducible apply pick_s | exact sel_0 | apply sel_s)) (by omega) (by omega) (by omega) (Nat.le_of_ble_eq_true rfl) rfl ?_
    rintro _ xdc xds _ ⟨xcap, xcC, rfl, rfl, g1, g2, g3, g4⟩
    dsimp only [List.cons_append, List.nil_append, Option.toList]
    rw [hvt]
    refine j_know (pick_know (P := PCK X.1 z ou p1 m1 _ xcap xcC) (by repeat (first | with_reducible exact pick_0 | with_reducible apply pick_s)) pck_know) (fun hcx => ?_)
    rcases hp : packU us 65536 j with _ | p
    · rw [hp] at hok9 B
      dsimp only [Option.isSome_none, Option.getD_none] at hok9 B ⊢
      refine j_if_ne E 32 22 dX7_pack_19 (by decide) rfl (fun h19 => ?_) (fun h19 => ?_)
      · exact absurd rfl h19
      · refine pga_close us (by repeat (first | with_reducible exact pick_0 | with_reducible apply pick_s | exact sel_0 | apply sel_s)) hok9 hvt htz ?_
        exact j_throwS E B T h2 (tk_U sr_97) (xdc + 1) (xds + 6) dX7_pack_22 25 26 28 31 rfl rfl rfl rfl dX7_pack_25 dX7_pack_26 dX7_pack_28 dX7_pack_31 (by repeat (first | with_reducible exact pick_0 | with_reducible apply pick_s | exact sel_0 | apply sel_s)) ⟨_, _, mm1, rfl, by omega, by omega, by omega, by omega⟩ (by omega) (by omega) (by omega) (by omega) (by show 2 + 3 < d; omega) (by show 0 + (13 * (2 + 1) + 43) ≤ 46 * d; omega)
    · rw [hp] at hok9 B
      dsimp only [Option.isSome_some, Option.getD_some] at hok9 B ⊢
      refine j_if_ne E 32 22 dX7_pack_19 (by decide) rfl (fun h19 => ?_) (fun h19 => ?_)
      · refine j_open (P := PCK X.1 z ou p1 m1 p xcap xcC) (by repeat (first | with_reducible exact pick_0 | with_reducible apply pick_s)) pck_open ?_
        rintro ⟨mo, fa⟩ -
        dsimp only [List.cons_append, List.nil_append]
        refine j_aload_n E 33 dX7_pack_32 0 rfl rfl rfl ?_
        refine j_getf E 36 dX7_pack_33 fl_X7_33 (by repeat (first | with_reducible exact pick_0 | with_reducible apply pick_s)) (by rfl) rfl ?_
        refine j_getfF E 39 dX7_pack_36 fl_X7_99 (by repeat (first | with_reducible exact pick_0 | with_reducible apply pick_s)) (by rfl) rfl ?_
        refine j_callV E (c_row_size hG (d-1) p1 xcap p) 42 dX7_pack_39 _ _ _ iv_X7_43 rfl rfl rfl (by repeat (first | with_reducible exact pick_0 | with_reducible apply pick_s | exact sel_0 | apply sel_s)) (by omega) (by omega) (by omega) (Nat.le_of_ble_eq_true rfl) rfl ?_
        rintro _ _ _ _ ⟨rfl, rfl, rfl, rfl⟩
        dsimp only [List.cons_append, List.nil_append, Option.toList]
        refine j_close (by repeat (first | with_reducible exact pick_0 | with_reducible apply pick_s | exact sel_0 | apply sel_s)) (pck_of (g := X.1) (z := z) (pk := ou) (pr := p1) (cm := m1) (cap := xcap) (capC := xcC) (bs := p) (mo := mo) (fa := fa)) ?_
        refine pga_close us (by repeat (first | with_reducible exact pick_0 | with_reducible apply pick_s | exact sel_0 | apply sel_s)) hok9 hvt htz ?_
        exact j_iret E B rfl xdc xds dX7_pack_42 (by repeat (first | with_reducible exact pick_0 | with_reducible apply pick_s | exact sel_0 | apply sel_s)) ⟨_, _, rfl, rfl, rfl, by omega, by omega, by omega, by omega⟩ (by omega) (by omega) (by omega) (by omega)
      · exact absurd h19 (by decide)
  · rintro En _ _ _ ⟨qb, rfl, rfl, rfl, rfl⟩
    dsimp only [List.cons_append, List.nil_append]
    rw [hlen] at qb
    have e9 : sPack w (tape, us, np, nb, out, cd, pl) = (1, 0, (tape, us, np, nb, out, cd, pl)) := if_neg (by dsimp only; rw [qb]; decide)
    rw [e9] at B
    refine pgax_close us (by repeat (first | with_reducible exact pick_0 | with_reducible apply pick_s | exact sel_0 | apply sel_s)) hok hvt htz ?_
    exact jx_out E B T 1 6 (by repeat (first | with_reducible exact pick_0 | with_reducible apply pick_s | exact sel_0 | apply sel_s)) ⟨_, _, mm0, rfl, by omega, by omega, by omega, by omega⟩ (by omega) (by omega) (by omega) (by omega)
set_option maxHeartbeats 4000000 in
theorem c_pg_nil {g : GT} {z : Nat → Nat} (hA : GA g z) (d M N x P Q : Nat)  (S : AS) (hd : 100 ≤ d) (hM : 9100000 + 800 * S.1.length ≤ 320 * M + P) (hN : 1700000 + 21 * S.1.length ≤ N + Q) : CtrV g mX7_nil 6 d M N x [] [PGA g z x S P Q] (pgo g z x P Q S.1.length M N (sKeep 0 0 0 1 S).1 (some (.int (sKeep 0 0 0 1 S).2.1)) (sKeep 0 0 0 1 S).2.2) (pgx g z x P Q S.1.length M N (sKeep 0 0 0 1 S).1 (sKeep 0 0 0 1 S).2.2 [(exU, 1)]) := by
  refine ⟨pga_rcv, ?_⟩
  have hG := hA.1
  have h2 := hA.2.1
  obtain ⟨tape, us, np, nb, out, cd, pl⟩ := S
  dsimp only at hM hN
  refine ctr_intro hG (by decide +kernel) (Nat.le_of_ble_eq_true rfl) ?_
  rintro X F rfl E B hI T
  replace E : JE X RX7 cX7_nil 1 d M N := E
  show J X _ [PGA X.1 z x (tape, us, np, nb, out, cd, pl) P Q, F] 0 0 0 [some (.ref x)] []
  refine pga_open (by repeat (first | with_reducible exact pick_0 | with_reducible apply pick_s)) ?_
  intro tp vl rd ld gr e0 ou p1 m1 lf p2 m2 rt p3 m3 capT capV capG c1 k1 c2 k2 c3 k3 b2 b3 vs hS
  refine j_know (fun w hw => pgl_know w hw) (fun hcp => ?_)
  dsimp only [PGL, List.cons_append, List.nil_append]
  obtain ⟨hok, hvt, htz, hP, hQ⟩ := hS
  dsimp only at hvt hP hQ
  have hvs := vsok_of hok hvt htz
  have hlen : vs.length = us.length := by rw [← hvt, vts_len]
  have h65 : tape.length ≤ 65536 := hok.1
  have h30 : us.length ≤ 3000 := hok.2.1
  have h60 : np ≤ 6000 := hok.2.2.1
  have hnb : nb ≤ 65536 := hok.2.2.2.1
  have hou : out.length ≤ 65536 := hok.2.2.2.2.1
  have hok9 : AOk (sKeep 0 0 0 1 (tape, us, np, nb, out, cd, pl)).2.2 := sKeep_ok hok (by decide) (fun q => absurd q (by decide)) (fun _ => rfl) (fun q => absurd q (by decide))
  refine j_aload_n E 1 dX7_nil_0 0 rfl rfl rfl ?_
  refine j_iconst E (0) 2 dX7_nil_1 (by decide) rfl ?_
  refine j_callVX E (c_nd_room hA (d-1) x tp vl rd ou lf rt np nb capV 0 vs (by omega) (by omega) (by omega)) 5 dX7_nil_2 _ _ _ iv_X7_108 rfl rfl rfl (by repeat (first | with_reducible exact pick_0 | with_reducible apply pick_s | exact sel_0 | apply sel_s)) (by omega) (by omega) (by omega) (Nat.le_of_ble_eq_true rfl) rfl ?_ ?_
  · rintro _ _ _ _ ⟨qr, rfl, rfl, rfl, rfl⟩
    dsimp only [List.cons_append, List.nil_append, Option.toList]
    have hr3 : us.length < 3000 := by omega
    refine j_aload_n E 6 dX7_nil_5 0 rfl rfl rfl ?_
    refine j_getf E 9 dX7_nil_6 fl_X7_19 (by repeat (first | with_reducible exact pick_0 | with_reducible apply pick_s)) (by rfl) rfl ?_
    refine j_iconst E (0) 10 dX7_nil_9 (by decide) rfl ?_
    refine j_lconst E 0 11 dX7_nil_10 rfl rfl ?_
    refine j_iconst E (0) 12 dX7_nil_11 (by decide) rfl ?_
    have e9 : sKeep 0 0 0 1 (tape, us, np, nb, out, cd, pl) = (0, nI us.length, (tape, us ++ [(0, 0, 0, [], [])], np, nb, out, cd, pl)) := if_pos hr3
    rw [e9] at hok9 B
    refine j_gets E 15 dX7_nil_12 hA.2.2.1.1 gs_X7_111 rfl ?_
    refine j_close (P := BYS X.1 z (z 0) []) (qs := []) (by repeat (first | with_reducible exact pick_0 | with_reducible apply pick_s | exact sel_0 | apply sel_s)) bys_nil ?_
    refine j_callV E (c_vls_keep hA (d-1) vl np nb capV 0 (z 0) (by omega) 0 0 [] vs (by omega)) 18 dX7_nil_15 _ _ _ iv_X7_115 rfl rfl rfl (by repeat (first | with_reducible exact pick_0 | with_reducible apply pick_s | exact sel_0 | apply sel_s)) (by omega) (by omega) (by omega) (Nat.le_of_ble_eq_true rfl) rfl ?_
    rintro _ adc ads _ ⟨xa, xcap, rfl, rfl, y1, y2, y3, y4⟩
    dsimp only [List.cons_append, List.nil_append, Option.toList]
    rw [show nb + ([] : List UInt8).length = nb from rfl, hlen]
    refine pga_close (us ++ [(0, 0, 0, [], [])]) (by repeat (first | with_reducible exact pick_0 | with_reducible apply pick_s | exact sel_0 | apply sel_s)) hok9 (by rw [vts_app, hvt]) (tz_snoc htz rfl) ?_
    exact j_iret E B rfl adc ads dX7_nil_18 (by repeat (first | with_reducible exact pick_0 | with_reducible apply pick_s | exact sel_0 | apply sel_s)) ⟨_, _, rfl, rfl, rfl, by omega, by omega, by omega, by omega⟩ (by omega) (by omega) (by omega) (by omega)
  · rintro En _ _ _ ⟨qr, rfl, rfl, rfl, rfl⟩
    dsimp only [List.cons_append, List.nil_append]
    have hnr : ¬ us.length < 3000 := fun q => qr ⟨by omega, by omega⟩
    have e9 : sKeep 0 0 0 1 (tape, us, np, nb, out, cd, pl) = (1, 0, (tape, us, np, nb, out, cd, pl)) := if_neg hnr
    rw [e9] at B
    refine pgax_close us (by repeat (first | with_reducible exact pick_0 | with_reducible apply pick_s | exact sel_0 | apply sel_s)) hok hvt htz ?_
    exact jx_out E B T 1 6 (by repeat (first | with_reducible exact pick_0 | with_reducible apply pick_s | exact sel_0 | apply sel_s)) ⟨_, _, mm0, rfl, by omega, by omega, by omega, by omega⟩ (by omega) (by omega) (by omega) (by omega)
set_option maxHeartbeats 4000000 in
theorem c_pg_truth {g : GT} {z : Nat → Nat} (hA : GA g z) (d M N x P Q : Nat) (b : Bool) (S : AS) (hd : 100 ≤ d) (hM : 9100000 + 800 * S.1.length ≤ 320 * M + P) (hN : 1700000 + 21 * S.1.length ≤ N + Q) : CtrV g mX7_truth 6 d M N x [.int (bI b)] [PGA g z x S P Q] (pgo g z x P Q S.1.length M N (sKeep 1 0 (bI b) 1 S).1 (some (.int (sKeep 1 0 (bI b) 1 S).2.1)) (sKeep 1 0 (bI b) 1 S).2.2) (pgx g z x P Q S.1.length M N (sKeep 1 0 (bI b) 1 S).1 (sKeep 1 0 (bI b) 1 S).2.2 [(exU, 1)]) := by
  refine ⟨pga_rcv, ?_⟩
  have hG := hA.1
  have h2 := hA.2.1
  obtain ⟨tape, us, np, nb, out, cd, pl⟩ := S
  dsimp only at hM hN
  refine ctr_intro hG (by decide +kernel) (Nat.le_of_ble_eq_true rfl) ?_
  rintro X F rfl E B hI T
  replace E : JE X RX7 cX7_truth 2 d M N := E
  show J X _ [PGA X.1 z x (tape, us, np, nb, out, cd, pl) P Q, F] 0 0 0 [some (.ref x), some (.int (bI b))] []
  refine pga_open (by repeat (first | with_reducible exact pick_0 | with_reducible apply pick_s)) ?_
  intro tp vl rd ld gr e0 ou p1 m1 lf p2 m2 rt p3 m3 capT capV capG c1 k1 c2 k2 c3 k3 b2 b3 vs hS
  refine j_know (fun w hw => pgl_know w hw) (fun hcp => ?_)
  dsimp only [PGL, List.cons_append, List.nil_append]
  obtain ⟨hok, hvt, htz, hP, hQ⟩ := hS
  dsimp only at hvt hP hQ
  have hvs := vsok_of hok hvt htz
  have hlen : vs.length = us.length := by rw [← hvt, vts_len]
  have h65 : tape.length ≤ 65536 := hok.1
  have h30 : us.length ≤ 3000 := hok.2.1
  have h60 : np ≤ 6000 := hok.2.2.1
  have hnb : nb ≤ 65536 := hok.2.2.2.1
  have hou : out.length ≤ 65536 := hok.2.2.2.2.1
  have hok9 : AOk (sKeep 1 0 (bI b) 1 (tape, us, np, nb, out, cd, pl)).2.2 := sKeep_ok hok (by decide) (fun q => absurd q (by decide)) (fun q => absurd (Or.inl rfl) q) (fun q => absurd q (by decide))
  refine j_aload_n E 1 dX7_truth_0 0 rfl rfl rfl ?_
  refine j_iconst E (0) 2 dX7_truth_1 (by decide) rfl ?_
  refine j_callVX E (c_nd_room hA (d-1) x tp vl rd ou lf rt np nb capV 0 vs (by omega) (by omega) (by omega)) 5 dX7_truth_2 _ _ _ iv_X7_108 rfl rfl rfl (by repeat (first | with_reducible exact pick_0 | with_reducible apply pick_s | exact sel_0 | apply sel_s)) (by omega) (by omega) (by omega) (Nat.le_of_ble_eq_true rfl) rfl ?_ ?_
  · rintro _ _ _ _ ⟨qr, rfl, rfl, rfl, rfl⟩
    dsimp only [List.cons_append, List.nil_append, Option.toList]
    have hr3 : us.length < 3000 := by omega
    have mid : J X 2 [PGF x tp vl rd ou lf rt, ROW X.1 tp tape capT, VLS X.1 z vl vs np nb capV, RDR rd ld gr e0 (nI cd) (nI pl), LEAx ld, LST X.1 z gr [] capG, PCK X.1 z ou p1 m1 out c1 k1, PCK X.1 z lf p2 m2 b2 c2 k2, PCK X.1 z rt p3 m3 b3 c3 k3, F] (0 + 0) (0 + 0) 20 [some (.ref x), some (.int (bI b))] [.int (bI b), .long 0, .int 1, .ref vl] := by
      have e9 : sKeep 1 0 (bI b) 1 (tape, us, np, nb, out, cd, pl) = (0, nI us.length, (tape, us ++ [(1, 0, (bI b), [], [])], np, nb, out, cd, pl)) := if_pos hr3
      rw [e9] at hok9 B
      refine j_gets E 23 dX7_truth_20 hA.2.2.1.1 gs_X7_111 rfl ?_
      refine j_close (P := BYS X.1 z (z 0) []) (qs := []) (by repeat (first | with_reducible exact pick_0 | with_reducible apply pick_s | exact sel_0 | apply sel_s)) bys_nil ?_
      refine j_callV E (c_vls_keep hA (d-1) vl np nb capV 1 (z 0) (by omega) 0 (bI b) [] vs (by omega)) 26 dX7_truth_23 _ _ _ iv_X7_115 rfl rfl rfl (by repeat (first | with_reducible exact pick_0 | with_reducible apply pick_s | exact sel_0 | apply sel_s)) (by omega) (by omega) (by omega) (Nat.le_of_ble_eq_true rfl) rfl ?_
      rintro _ adc ads _ ⟨xa, xcap, rfl, rfl, y1, y2, y3, y4⟩
      dsimp only [List.cons_append, List.nil_append, Option.toList]
      rw [show nb + ([] : List UInt8).length = nb from rfl, hlen]
      refine pga_close (us ++ [(1, 0, (bI b), [], [])]) (by repeat (first | with_reducible exact pick_0 | with_reducible apply pick_s | exact sel_0 | apply sel_s)) hok9 (by rw [vts_app, hvt]) (tz_snoc htz rfl) ?_
      exact j_iret E B rfl adc ads dX7_truth_26 (by repeat (first | with_reducible exact pick_0 | with_reducible apply pick_s | exact sel_0 | apply sel_s)) ⟨_, _, rfl, rfl, rfl, by omega, by omega, by omega, by omega⟩ (by omega) (by omega) (by omega) (by omega)
    rcases b with _ | _
    · refine j_aload_n E 6 dX7_truth_5 0 rfl rfl rfl ?_
      refine j_getf E 9 dX7_truth_6 fl_X7_19 (by repeat (first | with_reducible exact pick_0 | with_reducible apply pick_s)) (by rfl) rfl ?_
      refine j_iconst E (1) 10 dX7_truth_9 (by decide) rfl ?_
      refine j_lconst E 0 11 dX7_truth_10 rfl rfl ?_
      refine j_iload_n E 12 dX7_truth_11 1 rfl rfl rfl ?_
      refine j_if_eq E 19 15 dX7_truth_12 (by decide) rfl (fun h12 => ?_) (fun h12 => ?_)
      · refine j_iconst E (0) 20 dX7_truth_19 (by decide) rfl ?_
        exact j_sel (by repeat (first | with_reducible exact pick_0 | with_reducible apply pick_s | exact sel_0 | apply sel_s)) mid
      · exact absurd rfl h12
    · refine j_aload_n E 6 dX7_truth_5 0 rfl rfl rfl ?_
      refine j_getf E 9 dX7_truth_6 fl_X7_19 (by repeat (first | with_reducible exact pick_0 | with_reducible apply pick_s)) (by rfl) rfl ?_
      refine j_iconst E (1) 10 dX7_truth_9 (by decide) rfl ?_
      refine j_lconst E 0 11 dX7_truth_10 rfl rfl ?_
      refine j_iload_n E 12 dX7_truth_11 1 rfl rfl rfl ?_
      refine j_if_eq E 19 15 dX7_truth_12 (by decide) rfl (fun h12 => ?_) (fun h12 => ?_)
      · exact absurd h12 (by decide)
      · refine j_iconst E (1) 16 dX7_truth_15 (by decide) rfl ?_
        refine j_goto E 20 dX7_truth_16 (by decide) ?_
        exact j_sel (by repeat (first | with_reducible exact pick_0 | with_reducible apply pick_s | exact sel_0 | apply sel_s)) mid
  · rintro En _ _ _ ⟨qr, rfl, rfl, rfl, rfl⟩
    dsimp only [List.cons_append, List.nil_append]
    have hnr : ¬ us.length < 3000 := fun q => qr ⟨by omega, by omega⟩
    have e9 : sKeep 1 0 (bI b) 1 (tape, us, np, nb, out, cd, pl) = (1, 0, (tape, us, np, nb, out, cd, pl)) := if_neg hnr
    rw [e9] at B
    refine pgax_close us (by repeat (first | with_reducible exact pick_0 | with_reducible apply pick_s | exact sel_0 | apply sel_s)) hok hvt htz ?_
    exact jx_out E B T 1 6 (by repeat (first | with_reducible exact pick_0 | with_reducible apply pick_s | exact sel_0 | apply sel_s)) ⟨_, _, mm0, rfl, by omega, by omega, by omega, by omega⟩ (by omega) (by omega) (by omega) (by omega)
set_option maxHeartbeats 4000000 in
theorem c_pg_integer {g : GT} {z : Nat → Nat} (hA : GA g z) (d M N x P Q : Nat) (v : Int64) (hb : Bool) (S : AS) (hd : 100 ≤ d) (hM : 9100000 + 800 * S.1.length ≤ 320 * M + P) (hN : 1700000 + 21 * S.1.length ≤ N + Q) : CtrV g mX7_integer 6 d M N x [.long v, .int (bI hb)] [PGA g z x S P Q] (pgo g z x P Q S.1.length M N (sKeep 2 v (if hb = true ∧ v < 0 then 1 else 0) 1 S).1 (some (.int (sKeep 2 v (if hb = true ∧ v < 0 then 1 else 0) 1 S).2.1)) (sKeep 2 v (if hb = true ∧ v < 0 then 1 else 0) 1 S).2.2) (pgx g z x P Q S.1.length M N (sKeep 2 v (if hb = true ∧ v < 0 then 1 else 0) 1 S).1 (sKeep 2 v (if hb = true ∧ v < 0 then 1 else 0) 1 S).2.2 [(exU, 1)]) := by
  refine ⟨pga_rcv, ?_⟩
  have hG := hA.1
  have h2 := hA.2.1
  obtain ⟨tape, us, np, nb, out, cd, pl⟩ := S
  dsimp only at hM hN
  refine ctr_intro hG (by decide +kernel) (Nat.le_of_ble_eq_true rfl) ?_
  rintro X F rfl E B hI T
  replace E : JE X RX7 cX7_integer 4 d M N := E
  show J X _ [PGA X.1 z x (tape, us, np, nb, out, cd, pl) P Q, F] 0 0 0 [some (.ref x), some (.long v), none, some (.int (bI hb))] []
  refine pga_open (by repeat (first | with_reducible exact pick_0 | with_reducible apply pick_s)) ?_
  intro tp vl rd ld gr e0 ou p1 m1 lf p2 m2 rt p3 m3 capT capV capG c1 k1 c2 k2 c3 k3 b2 b3 vs hS
  refine j_know (fun w hw => pgl_know w hw) (fun hcp => ?_)
  dsimp only [PGL, List.cons_append, List.nil_append]
  obtain ⟨hok, hvt, htz, hP, hQ⟩ := hS
  dsimp only at hvt hP hQ
  have hvs := vsok_of hok hvt htz
  have hlen : vs.length = us.length := by rw [← hvt, vts_len]
  have h65 : tape.length ≤ 65536 := hok.1
  have h30 : us.length ≤ 3000 := hok.2.1
  have h60 : np ≤ 6000 := hok.2.2.1
  have hnb : nb ≤ 65536 := hok.2.2.2.1
  have hou : out.length ≤ 65536 := hok.2.2.2.2.1
  have hok9 : AOk (sKeep 2 v (if hb = true ∧ v < 0 then 1 else 0) 1 (tape, us, np, nb, out, cd, pl)).2.2 := sKeep_ok hok (by decide) (fun q => absurd q (by decide)) (fun q => absurd (Or.inr (Or.inl rfl)) q) (fun _ => by split; exact Or.inr rfl; exact Or.inl rfl)
  refine j_aload_n E 1 dX7_integer_0 0 rfl rfl rfl ?_
  refine j_iconst E (0) 2 dX7_integer_1 (by decide) rfl ?_
  refine j_callVX E (c_nd_room hA (d-1) x tp vl rd ou lf rt np nb capV 0 vs (by omega) (by omega) (by omega)) 5 dX7_integer_2 _ _ _ iv_X7_108 rfl rfl rfl (by repeat (first | with_reducible exact pick_0 | with_reducible apply pick_s | exact sel_0 | apply sel_s)) (by omega) (by omega) (by omega) (Nat.le_of_ble_eq_true rfl) rfl ?_ ?_
  · rintro _ _ _ _ ⟨qr, rfl, rfl, rfl, rfl⟩
    dsimp only [List.cons_append, List.nil_append, Option.toList]
    have hr3 : us.length < 3000 := by omega
    have mid : ∀ dt : Int32, dt = (if hb = true ∧ v < 0 then 1 else 0) → J X 4 [PGF x tp vl rd ou lf rt, ROW X.1 tp tape capT, VLS X.1 z vl vs np nb capV, RDR rd ld gr e0 (nI cd) (nI pl), LEAx ld, LST X.1 z gr [] capG, PCK X.1 z ou p1 m1 out c1 k1, PCK X.1 z lf p2 m2 b2 c2 k2, PCK X.1 z rt p3 m3 b3 c3 k3, F] (0 + 0) (0 + 0) 26 [some (.ref x), some (.long v), none, some (.int (bI hb))] [.int dt, .long v, .int 2, .ref vl] := by
      intro dt hdt
      rw [← hdt] at hok9 B
      have e9 : sKeep 2 v dt 1 (tape, us, np, nb, out, cd, pl) = (0, nI us.length, (tape, us ++ [(2, v, dt, [], [])], np, nb, out, cd, pl)) := if_pos hr3
      rw [e9] at hok9 B
      refine j_gets E 29 dX7_integer_26 hA.2.2.1.1 gs_X7_111 rfl ?_
      refine j_close (P := BYS X.1 z (z 0) []) (qs := []) (by repeat (first | with_reducible exact pick_0 | with_reducible apply pick_s | exact sel_0 | apply sel_s)) bys_nil ?_
      refine j_callV E (c_vls_keep hA (d-1) vl np nb capV 2 (z 0) (by omega) v dt [] vs (by omega)) 32 dX7_integer_29 _ _ _ iv_X7_115 rfl rfl rfl (by repeat (first | with_reducible exact pick_0 | with_reducible apply pick_s | exact sel_0 | apply sel_s)) (by omega) (by omega) (by omega) (Nat.le_of_ble_eq_true rfl) rfl ?_
      rintro _ adc ads _ ⟨xa, xcap, rfl, rfl, y1, y2, y3, y4⟩
      dsimp only [List.cons_append, List.nil_append, Option.toList]
      rw [show nb + ([] : List UInt8).length = nb from rfl, hlen]
      refine pga_close (us ++ [(2, v, dt, [], [])]) (by repeat (first | with_reducible exact pick_0 | with_reducible apply pick_s | exact sel_0 | apply sel_s)) hok9 (by rw [vts_app, hvt]) (tz_snoc htz rfl) ?_
      exact j_iret E B rfl adc ads dX7_integer_32 (by repeat (first | with_reducible exact pick_0 | with_reducible apply pick_s | exact sel_0 | apply sel_s)) ⟨_, _, rfl, rfl, rfl, by omega, by omega, by omega, by omega⟩ (by omega) (by omega) (by omega) (by omega)
    rcases hb with _ | _
    · refine j_aload_n E 6 dX7_integer_5 0 rfl rfl rfl ?_
      refine j_getf E 9 dX7_integer_6 fl_X7_19 (by repeat (first | with_reducible exact pick_0 | with_reducible apply pick_s)) (by rfl) rfl ?_
      refine j_iconst E (2) 10 dX7_integer_9 (by decide) rfl ?_
      refine j_lload_n E 11 dX7_integer_10 1 rfl rfl rfl ?_
      refine j_iload_n E 12 dX7_integer_11 3 rfl rfl rfl ?_
      refine j_if_eq E 25 15 dX7_integer_12 (by decide) rfl (fun h12 => ?_) (fun h12 => ?_)
      · refine j_iconst E (0) 26 dX7_integer_25 (by decide) rfl ?_
        exact j_sel (by repeat (first | with_reducible exact pick_0 | with_reducible apply pick_s | exact sel_0 | apply sel_s)) (mid 0 (if_neg (fun q => absurd q.1 (by decide))).symm)
      · exact absurd rfl h12
    · refine j_aload_n E 6 dX7_integer_5 0 rfl rfl rfl ?_
      refine j_getf E 9 dX7_integer_6 fl_X7_19 (by repeat (first | with_reducible exact pick_0 | with_reducible apply pick_s)) (by rfl) rfl ?_
      refine j_iconst E (2) 10 dX7_integer_9 (by decide) rfl ?_
      refine j_lload_n E 11 dX7_integer_10 1 rfl rfl rfl ?_
      refine j_iload_n E 12 dX7_integer_11 3 rfl rfl rfl ?_
      refine j_if_eq E 25 15 dX7_integer_12 (by decide) rfl (fun h12 => ?_) (fun h12 => ?_)
      · exact absurd h12 (by decide)
      · refine j_lload_n E 16 dX7_integer_15 1 rfl rfl rfl ?_
        refine j_lconst E 0 17 dX7_integer_16 rfl rfl ?_
        refine j_lcmp E 18 dX7_integer_17 rfl ?_
        refine j_if_ge E 25 21 dX7_integer_18 (by decide) rfl (fun h18 => ?_) (fun h18 => ?_)
        · have q1 : ¬ v < 0 := fun q => absurd ((lg_cmp_ge _ _).mp h18) (by rw [fa_le64, fa_lt64] at *; omega)
          refine j_iconst E (0) 26 dX7_integer_25 (by decide) rfl ?_
          exact j_sel (by repeat (first | with_reducible exact pick_0 | with_reducible apply pick_s | exact sel_0 | apply sel_s)) (mid 0 (if_neg (fun q => q1 q.2)).symm)
        · have q1 : v < 0 := by
            have q2 : ¬ (0 : Int64) ≤ v := fun q => h18 ((lg_cmp_ge _ _).mpr q)
            rw [fa_le64] at q2
            rw [fa_lt64]
            omega
          refine j_iconst E (1) 22 dX7_integer_21 (by decide) rfl ?_
          refine j_goto E 26 dX7_integer_22 (by decide) ?_
          exact j_sel (by repeat (first | with_reducible exact pick_0 | with_reducible apply pick_s | exact sel_0 | apply sel_s)) (mid 1 (if_pos ⟨rfl, q1⟩).symm)
  · rintro En _ _ _ ⟨qr, rfl, rfl, rfl, rfl⟩
    dsimp only [List.cons_append, List.nil_append]
    have hnr : ¬ us.length < 3000 := fun q => qr ⟨by omega, by omega⟩
    have e9 : sKeep 2 v (if hb = true ∧ v < 0 then 1 else 0) 1 (tape, us, np, nb, out, cd, pl) = (1, 0, (tape, us, np, nb, out, cd, pl)) := if_neg hnr
    rw [e9] at B
    refine pgax_close us (by repeat (first | with_reducible exact pick_0 | with_reducible apply pick_s | exact sel_0 | apply sel_s)) hok hvt htz ?_
    exact jx_out E B T 1 6 (by repeat (first | with_reducible exact pick_0 | with_reducible apply pick_s | exact sel_0 | apply sel_s)) ⟨_, _, mm0, rfl, by omega, by omega, by omega, by omega⟩ (by omega) (by omega) (by omega) (by omega)
set_option maxHeartbeats 4000000 in
theorem c_pg_real {g : GT} {z : Nat → Nat} (hA : GA g z) (d M N x P Q : Nat) (v : Int64) (hb : Bool) (S : AS) (hd : 100 ≤ d) (hM : 9100000 + 800 * S.1.length ≤ 320 * M + P) (hN : 1700000 + 21 * S.1.length ≤ N + Q) : CtrV g mX7_real 6 d M N x [.long v, .int (bI hb)] [PGA g z x S P Q] (pgo g z x P Q S.1.length M N ((if hb = true then sKeep 4 v 0 1 S else sKeep 3 (v &&& 4294967295) 0 1 S)).1 (some (.int (if hb = true then sKeep 4 v 0 1 S else sKeep 3 (v &&& 4294967295) 0 1 S).2.1)) ((if hb = true then sKeep 4 v 0 1 S else sKeep 3 (v &&& 4294967295) 0 1 S)).2.2) (pgx g z x P Q S.1.length M N ((if hb = true then sKeep 4 v 0 1 S else sKeep 3 (v &&& 4294967295) 0 1 S)).1 ((if hb = true then sKeep 4 v 0 1 S else sKeep 3 (v &&& 4294967295) 0 1 S)).2.2 [(exU, 1)]) := by
  refine ⟨pga_rcv, ?_⟩
  have hG := hA.1
  have h2 := hA.2.1
  obtain ⟨tape, us, np, nb, out, cd, pl⟩ := S
  dsimp only at hM hN
  refine ctr_intro hG (by decide +kernel) (Nat.le_of_ble_eq_true rfl) ?_
  rintro X F rfl E B hI T
  replace E : JE X RX7 cX7_real 4 d M N := E
  show J X _ [PGA X.1 z x (tape, us, np, nb, out, cd, pl) P Q, F] 0 0 0 [some (.ref x), some (.long v), none, some (.int (bI hb))] []
  refine pga_open (by repeat (first | with_reducible exact pick_0 | with_reducible apply pick_s)) ?_
  intro tp vl rd ld gr e0 ou p1 m1 lf p2 m2 rt p3 m3 capT capV capG c1 k1 c2 k2 c3 k3 b2 b3 vs hS
  refine j_know (fun w hw => pgl_know w hw) (fun hcp => ?_)
  dsimp only [PGL, List.cons_append, List.nil_append]
  obtain ⟨hok, hvt, htz, hP, hQ⟩ := hS
  dsimp only at hvt hP hQ
  have hvs := vsok_of hok hvt htz
  have hlen : vs.length = us.length := by rw [← hvt, vts_len]
  have h65 : tape.length ≤ 65536 := hok.1
  have h30 : us.length ≤ 3000 := hok.2.1
  have h60 : np ≤ 6000 := hok.2.2.1
  have hnb : nb ≤ 65536 := hok.2.2.2.1
  have hou : out.length ≤ 65536 := hok.2.2.2.2.1
  refine j_aload_n E 1 dX7_real_0 0 rfl rfl rfl ?_
  refine j_iconst E (0) 2 dX7_real_1 (by decide) rfl ?_
  refine j_callVX E (c_nd_room hA (d-1) x tp vl rd ou lf rt np nb capV 0 vs (by omega) (by omega) (by omega)) 5 dX7_real_2 _ _ _ iv_X7_108 rfl rfl rfl (by repeat (first | with_reducible exact pick_0 | with_reducible apply pick_s | exact sel_0 | apply sel_s)) (by omega) (by omega) (by omega) (Nat.le_of_ble_eq_true rfl) rfl ?_ ?_
  · rintro _ _ _ _ ⟨qr, rfl, rfl, rfl, rfl⟩
    dsimp only [List.cons_append, List.nil_append, Option.toList]
    have hr3 : us.length < 3000 := by omega
    rcases hb with _ | _
    · rw [if_neg (by decide)] at B
      have hok9 : AOk (sKeep 3 (v &&& 4294967295) 0 1 (tape, us, np, nb, out, cd, pl)).2.2 := sKeep_ok hok (by decide) (fun q => absurd q (by decide)) (fun _ => rfl) (fun q => absurd q (by decide))
      refine j_iload_n E 6 dX7_real_5 3 rfl rfl rfl ?_
      refine j_if_eq E 25 9 dX7_real_6 (by decide) rfl (fun h6 => ?_) (fun h6 => ?_)
      · refine j_aload_n E 26 dX7_real_25 0 rfl rfl rfl ?_
        refine j_getf E 29 dX7_real_26 fl_X7_19 (by repeat (first | with_reducible exact pick_0 | with_reducible apply pick_s)) (by rfl) rfl ?_
        refine j_iconst E (3) 30 dX7_real_29 (by decide) rfl ?_
        refine j_lload_n E 31 dX7_real_30 1 rfl rfl rfl ?_
        refine j_ldcL E _ 34 dX7_real_31 kc_X7_119 rfl ?_
        refine j_land E 35 dX7_real_34 rfl ?_
        refine j_iconst E (0) 36 dX7_real_35 (by decide) rfl ?_
        have e9 : sKeep 3 (v &&& 4294967295) 0 1 (tape, us, np, nb, out, cd, pl) = (0, nI us.length, (tape, us ++ [(3, (v &&& 4294967295), 0, [], [])], np, nb, out, cd, pl)) := if_pos hr3
        rw [e9] at hok9 B
        refine j_gets E 39 dX7_real_36 hA.2.2.1.1 gs_X7_111 rfl ?_
        refine j_close (P := BYS X.1 z (z 0) []) (qs := []) (by repeat (first | with_reducible exact pick_0 | with_reducible apply pick_s | exact sel_0 | apply sel_s)) bys_nil ?_
        refine j_callV E (c_vls_keep hA (d-1) vl np nb capV 3 (z 0) (by omega) (v &&& 4294967295) 0 [] vs (by omega)) 42 dX7_real_39 _ _ _ iv_X7_115 rfl rfl rfl (by repeat (first | with_reducible exact pick_0 | with_reducible apply pick_s | exact sel_0 | apply sel_s)) (by omega) (by omega) (by omega) (Nat.le_of_ble_eq_true rfl) rfl ?_
        rintro _ adc ads _ ⟨xa, xcap, rfl, rfl, y1, y2, y3, y4⟩
        dsimp only [List.cons_append, List.nil_append, Option.toList]
        rw [show nb + ([] : List UInt8).length = nb from rfl, hlen]
        refine pga_close (us ++ [(3, (v &&& 4294967295), 0, [], [])]) (by repeat (first | with_reducible exact pick_0 | with_reducible apply pick_s | exact sel_0 | apply sel_s)) hok9 (by rw [vts_app, hvt]) (tz_snoc htz rfl) ?_
        exact j_iret E B rfl adc ads dX7_real_42 (by repeat (first | with_reducible exact pick_0 | with_reducible apply pick_s | exact sel_0 | apply sel_s)) ⟨_, _, rfl, rfl, rfl, by omega, by omega, by omega, by omega⟩ (by omega) (by omega) (by omega) (by omega)
      · exact absurd rfl h6
    · rw [if_pos rfl] at B
      have hok9 : AOk (sKeep 4 v 0 1 (tape, us, np, nb, out, cd, pl)).2.2 := sKeep_ok hok (by decide) (fun q => absurd q (by decide)) (fun _ => rfl) (fun q => absurd q (by decide))
      refine j_iload_n E 6 dX7_real_5 3 rfl rfl rfl ?_
      refine j_if_eq E 25 9 dX7_real_6 (by decide) rfl (fun h6 => ?_) (fun h6 => ?_)
      · exact absurd h6 (by decide)
      · refine j_aload_n E 10 dX7_real_9 0 rfl rfl rfl ?_
        refine j_getf E 13 dX7_real_10 fl_X7_19 (by repeat (first | with_reducible exact pick_0 | with_reducible apply pick_s)) (by rfl) rfl ?_
        refine j_iconst E (4) 14 dX7_real_13 (by decide) rfl ?_
        refine j_lload_n E 15 dX7_real_14 1 rfl rfl rfl ?_
        refine j_iconst E (0) 16 dX7_real_15 (by decide) rfl ?_
        have e9 : sKeep 4 v 0 1 (tape, us, np, nb, out, cd, pl) = (0, nI us.length, (tape, us ++ [(4, v, 0, [], [])], np, nb, out, cd, pl)) := if_pos hr3
        rw [e9] at hok9 B
        refine j_gets E 19 dX7_real_16 hA.2.2.1.1 gs_X7_111 rfl ?_
        refine j_close (P := BYS X.1 z (z 0) []) (qs := []) (by repeat (first | with_reducible exact pick_0 | with_reducible apply pick_s | exact sel_0 | apply sel_s)) bys_nil ?_
        refine j_callV E (c_vls_keep hA (d-1) vl np nb capV 4 (z 0) (by omega) v 0 [] vs (by omega)) 22 dX7_real_19 _ _ _ iv_X7_115 rfl rfl rfl (by repeat (first | with_reducible exact pick_0 | with_reducible apply pick_s | exact sel_0 | apply sel_s)) (by omega) (by omega) (by omega) (Nat.le_of_ble_eq_true rfl) rfl ?_
        rintro _ adc ads _ ⟨xa, xcap, rfl, rfl, y1, y2, y3, y4⟩
        dsimp only [List.cons_append, List.nil_append, Option.toList]
        rw [show nb + ([] : List UInt8).length = nb from rfl, hlen]
        refine j_goto E 42 dX7_real_22 (by decide) ?_
        refine pga_close (us ++ [(4, v, 0, [], [])]) (by repeat (first | with_reducible exact pick_0 | with_reducible apply pick_s | exact sel_0 | apply sel_s)) hok9 (by rw [vts_app, hvt]) (tz_snoc htz rfl) ?_
        exact j_iret E B rfl adc ads dX7_real_42 (by repeat (first | with_reducible exact pick_0 | with_reducible apply pick_s | exact sel_0 | apply sel_s)) ⟨_, _, rfl, rfl, rfl, by omega, by omega, by omega, by omega⟩ (by omega) (by omega) (by omega) (by omega)
  · rintro En _ _ _ ⟨qr, rfl, rfl, rfl, rfl⟩
    dsimp only [List.cons_append, List.nil_append]
    have hnr : ¬ us.length < 3000 := fun q => qr ⟨by omega, by omega⟩
    have e9 : (if hb = true then sKeep 4 v 0 1 (tape, us, np, nb, out, cd, pl) else sKeep 3 (v &&& 4294967295) 0 1 (tape, us, np, nb, out, cd, pl)) = (1, 0, (tape, us, np, nb, out, cd, pl)) := by
      split
      · exact if_neg hnr
      · exact if_neg hnr
    rw [e9] at B
    refine pgax_close us (by repeat (first | with_reducible exact pick_0 | with_reducible apply pick_s | exact sel_0 | apply sel_s)) hok hvt htz ?_
    exact jx_out E B T 1 6 (by repeat (first | with_reducible exact pick_0 | with_reducible apply pick_s | exact sel_0 | apply sel_s)) ⟨_, _, mm0, rfl, by omega, by omega, by omega, by omega⟩ (by omega) (by omega) (by omega) (by omega)
set_option maxHeartbeats 4000000 in
theorem c_pg_time {g : GT} {z : Nat → Nat} (hA : GA g z) (d M N x P Q : Nat) (v : Int64) (na : Int32) (S : AS) (hd : 100 ≤ d) (hM : 9100000 + 800 * S.1.length ≤ 320 * M + P) (hN : 1700000 + 21 * S.1.length ≤ N + Q) : CtrV g mX7_time 6 d M N x [.long v, .int na] [PGA g z x S P Q] (pgo g z x P Q S.1.length M N (sTime v na S).1 (some (.int (sTime v na S).2.1)) (sTime v na S).2.2) (pgx g z x P Q S.1.length M N (sTime v na S).1 (sTime v na S).2.2 [(exA, 1), (exU, 2)]) := by
  refine ⟨pga_rcv, ?_⟩
  have hG := hA.1
  have h2 := hA.2.1
  obtain ⟨tape, us, np, nb, out, cd, pl⟩ := S
  dsimp only at hM hN
  refine ctr_intro hG (by decide +kernel) (Nat.le_of_ble_eq_true rfl) ?_
  rintro X F rfl E B hI T
  replace E : JE X RX7 cX7_time 4 d M N := E
  show J X _ [PGA X.1 z x (tape, us, np, nb, out, cd, pl) P Q, F] 0 0 0 [some (.ref x), some (.long v), none, some (.int na)] []
  refine pga_open (by repeat (first | with_reducible exact pick_0 | with_reducible apply pick_s)) ?_
  intro tp vl rd ld gr e0 ou p1 m1 lf p2 m2 rt p3 m3 capT capV capG c1 k1 c2 k2 c3 k3 b2 b3 vs hS
  refine j_know (fun w hw => pgl_know w hw) (fun hcp => ?_)
  dsimp only [PGL, List.cons_append, List.nil_append]
  obtain ⟨hok, hvt, htz, hP, hQ⟩ := hS
  dsimp only at hvt hP hQ
  have hvs := vsok_of hok hvt htz
  have hlen : vs.length = us.length := by rw [← hvt, vts_len]
  have h65 : tape.length ≤ 65536 := hok.1
  have h30 : us.length ≤ 3000 := hok.2.1
  have h60 : np ≤ 6000 := hok.2.2.1
  have hnb : nb ≤ 65536 := hok.2.2.2.1
  have hou : out.length ≤ 65536 := hok.2.2.2.2.1
  have bad : (na < 0 ∨ 999999999 < na) → J X 4 [PGF x tp vl rd ou lf rt, ROW X.1 tp tape capT, VLS X.1 z vl vs np nb capV, RDR rd ld gr e0 (nI cd) (nI pl), LEAx ld, LST X.1 z gr [] capG, PCK X.1 z ou p1 m1 out c1 k1, PCK X.1 z lf p2 m2 b2 c2 k2, PCK X.1 z rt p3 m3 b3 c3 k3, F] 0 0 10 [some (.ref x), some (.long v), none, some (.int na)] [] := by
    intro q
    have e9 : sTime v na (tape, us, np, nb, out, cd, pl) = (1, 0, (tape, us, np, nb, out, cd, pl)) := if_pos q
    rw [e9] at B
    refine pga_close us (by repeat (first | with_reducible exact pick_0 | with_reducible apply pick_s | exact sel_0 | apply sel_s)) hok hvt htz ?_
    exact j_throwS E B T h2 (tk_A sr_138) 1 6 dX7_time_10 13 14 16 19 rfl rfl rfl rfl dX7_time_13 dX7_time_14 dX7_time_16 dX7_time_19 (by repeat (first | with_reducible exact pick_0 | with_reducible apply pick_s | exact sel_0 | apply sel_s)) ⟨_, _, mm0, rfl, by omega, by omega, by omega, by omega⟩ (by omega) (by omega) (by omega) (by omega) (by show 2 + 3 < d; omega) (by show 0 + (13 * (2 + 1) + 43) ≤ 46 * d; omega)
  refine j_iload_n E 1 dX7_time_0 3 rfl rfl rfl ?_
  refine j_if_lt E 10 4 dX7_time_1 (by decide) rfl (fun h1 => ?_) (fun h1 => ?_)
  · exact bad (Or.inl h1)
  · refine j_iload_n E 5 dX7_time_4 3 rfl rfl rfl ?_
    refine j_ldcI E _ 7 dX7_time_5 kc_X7_137 rfl ?_
    refine j_icmp_le E 20 10 dX7_time_7 (by decide) rfl (fun h7 => ?_) (fun h7 => ?_)
    · have qn : ¬ (na < 0 ∨ 999999999 < na) := fun q => q.elim h1 (fun q => absurd ((fa_le _ _).mp h7) (by rw [fa_lt] at q; omega))
      obtain ⟨m, hm, rfl⟩ := nI_of h1
      have hm9 : m ≤ 999999999 := (nI_leI (b := 999999999) hm (by decide)).mp h7
      have e8 : sTime v (nI m) (tape, us, np, nb, out, cd, pl) = sKeep 10 v (nI m) 2 (tape, us, np, nb, out, cd, pl) := if_neg qn
      rw [e8] at B
      have hok9 : AOk (sKeep 10 v (nI m) 2 (tape, us, np, nb, out, cd, pl)).2.2 := sKeep_ok hok (by decide) (fun _ => ⟨m, hm9, rfl⟩) (fun q => absurd (Or.inr (Or.inr (Or.inr rfl))) q) (fun q => absurd q (by decide))
      refine j_aload_n E 21 dX7_time_20 0 rfl rfl rfl ?_
      refine j_iconst E (0) 22 dX7_time_21 (by decide) rfl ?_
      refine j_callVX E (c_nd_room hA (d-1) x tp vl rd ou lf rt np nb capV 0 vs (by omega) (by omega) (by omega)) 25 dX7_time_22 _ _ _ iv_X7_108 rfl rfl rfl (by repeat (first | with_reducible exact pick_0 | with_reducible apply pick_s | exact sel_0 | apply sel_s)) (by omega) (by omega) (by omega) (Nat.le_of_ble_eq_true rfl) rfl ?_ ?_
      · rintro _ _ _ _ ⟨qr, rfl, rfl, rfl, rfl⟩
        dsimp only [List.cons_append, List.nil_append, Option.toList]
        have hr3 : us.length < 3000 := by omega
        refine j_aload_n E 26 dX7_time_25 0 rfl rfl rfl ?_
        refine j_getf E 29 dX7_time_26 fl_X7_19 (by repeat (first | with_reducible exact pick_0 | with_reducible apply pick_s)) (by rfl) rfl ?_
        refine j_bipush E (10) 31 dX7_time_29 (by decide) rfl ?_
        refine j_lload_n E 32 dX7_time_31 1 rfl rfl rfl ?_
        refine j_iload_n E 33 dX7_time_32 3 rfl rfl rfl ?_
        have e9 : sKeep 10 v (nI m) 2 (tape, us, np, nb, out, cd, pl) = (0, nI us.length, (tape, us ++ [(10, v, (nI m), [], [])], np, nb, out, cd, pl)) := if_pos hr3
        rw [e9] at hok9 B
        refine j_gets E 36 dX7_time_33 hA.2.2.1.1 gs_X7_111 rfl ?_
        refine j_close (P := BYS X.1 z (z 0) []) (qs := []) (by repeat (first | with_reducible exact pick_0 | with_reducible apply pick_s | exact sel_0 | apply sel_s)) bys_nil ?_
        refine j_callV E (c_vls_keep hA (d-1) vl np nb capV 10 (z 0) (by omega) v (nI m) [] vs (by omega)) 39 dX7_time_36 _ _ _ iv_X7_115 rfl rfl rfl (by repeat (first | with_reducible exact pick_0 | with_reducible apply pick_s | exact sel_0 | apply sel_s)) (by omega) (by omega) (by omega) (Nat.le_of_ble_eq_true rfl) rfl ?_
        rintro _ adc ads _ ⟨xa, xcap, rfl, rfl, y1, y2, y3, y4⟩
        dsimp only [List.cons_append, List.nil_append, Option.toList]
        rw [show nb + ([] : List UInt8).length = nb from rfl, hlen]
        refine pga_close (us ++ [(10, v, (nI m), [], [])]) (by repeat (first | with_reducible exact pick_0 | with_reducible apply pick_s | exact sel_0 | apply sel_s)) hok9 (by rw [vts_app, hvt]) (tz_snoc htz rfl) ?_
        exact j_iret E B rfl adc ads dX7_time_39 (by repeat (first | with_reducible exact pick_0 | with_reducible apply pick_s | exact sel_0 | apply sel_s)) ⟨_, _, rfl, rfl, rfl, by omega, by omega, by omega, by omega⟩ (by omega) (by omega) (by omega) (by omega)
      · rintro En _ _ _ ⟨qr, rfl, rfl, rfl, rfl⟩
        dsimp only [List.cons_append, List.nil_append]
        have hnr : ¬ us.length < 3000 := fun q => qr ⟨by omega, by omega⟩
        have e9 : sKeep 10 v (nI m) 2 (tape, us, np, nb, out, cd, pl) = (2, 0, (tape, us, np, nb, out, cd, pl)) := if_neg hnr
        rw [e9] at B
        refine pgax_close us (by repeat (first | with_reducible exact pick_0 | with_reducible apply pick_s | exact sel_0 | apply sel_s)) hok hvt htz ?_
        exact jx_out E B T 1 6 (by repeat (first | with_reducible exact pick_0 | with_reducible apply pick_s | exact sel_0 | apply sel_s)) ⟨_, _, mm1, rfl, by omega, by omega, by omega, by omega⟩ (by omega) (by omega) (by omega) (by omega)
    · refine bad (Or.inr ?_)
      exact fa_of_nle h7
set_option maxHeartbeats 4000000 in
theorem c_pg_group {g : GT} {z : Nat → Nat} (hA : GA g z) (d M N x P Q : Nat) (kd : Int32) (S : AS) (hd : 100 ≤ d) (hM : 9100000 + 800 * S.1.length ≤ 320 * M + P) (hN : 1700000 + 21 * S.1.length ≤ N + Q) : CtrV g mX7_group 6 d M N x [.int kd] [PGA g z x S P Q] (pgo g z x P Q S.1.length M N (sGroup kd S).1 (some (.int (sGroup kd S).2.1)) (sGroup kd S).2.2) (pgx g z x P Q S.1.length M N (sGroup kd S).1 (sGroup kd S).2.2 [(exA, 1), (exU, 2)]) := by
  refine ⟨pga_rcv, ?_⟩
  have hG := hA.1
  have h2 := hA.2.1
  obtain ⟨tape, us, np, nb, out, cd, pl⟩ := S
  dsimp only at hM hN
  refine ctr_intro hG (by decide +kernel) (Nat.le_of_ble_eq_true rfl) ?_
  rintro X F rfl E B hI T
  replace E : JE X RX7 cX7_group 2 d M N := E
  show J X _ [PGA X.1 z x (tape, us, np, nb, out, cd, pl) P Q, F] 0 0 0 [some (.ref x), some (.int kd)] []
  refine pga_open (by repeat (first | with_reducible exact pick_0 | with_reducible apply pick_s)) ?_
  intro tp vl rd ld gr e0 ou p1 m1 lf p2 m2 rt p3 m3 capT capV capG c1 k1 c2 k2 c3 k3 b2 b3 vs hS
  refine j_know (fun w hw => pgl_know w hw) (fun hcp => ?_)
  dsimp only [PGL, List.cons_append, List.nil_append]
  obtain ⟨hok, hvt, htz, hP, hQ⟩ := hS
  dsimp only at hvt hP hQ
  have hvs := vsok_of hok hvt htz
  have hlen : vs.length = us.length := by rw [← hvt, vts_len]
  have h65 : tape.length ≤ 65536 := hok.1
  have h30 : us.length ≤ 3000 := hok.2.1
  have h60 : np ≤ 6000 := hok.2.2.1
  have hnb : nb ≤ 65536 := hok.2.2.2.1
  have hou : out.length ≤ 65536 := hok.2.2.2.2.1
  have good : ∀ K : Nat, (K = 7 ∨ K = 8) → sGroup (nI K) (tape, us, np, nb, out, cd, pl) = sKeep K 0 0 2 (tape, us, np, nb, out, cd, pl) → kd = nI K → J X 2 [PGF x tp vl rd ou lf rt, ROW X.1 tp tape capT, VLS X.1 z vl vs np nb capV, RDR rd ld gr e0 (nI cd) (nI pl), LEAx ld, LST X.1 z gr [] capG, PCK X.1 z ou p1 m1 out c1 k1, PCK X.1 z lf p2 m2 b2 c2 k2, PCK X.1 z rt p3 m3 b3 c3 k3, F] 0 0 22 [some (.ref x), some (.int kd)] [] := by
    intro K hK e8 hkd
    subst hkd
    rw [e8] at B
    have hok9 : AOk (sKeep K 0 0 2 (tape, us, np, nb, out, cd, pl)).2.2 := sKeep_ok hok (by omega) (fun q => by omega) (fun _ => rfl) (fun q => by omega)
    refine j_aload_n E 23 dX7_group_22 0 rfl rfl rfl ?_
    refine j_iconst E (0) 24 dX7_group_23 (by decide) rfl ?_
    refine j_callVX E (c_nd_room hA (d-1) x tp vl rd ou lf rt np nb capV 0 vs (by omega) (by omega) (by omega)) 27 dX7_group_24 _ _ _ iv_X7_108 rfl rfl rfl (by repeat (first | with_reducible exact pick_0 | with_reducible apply pick_s | exact sel_0 | apply sel_s)) (by omega) (by omega) (by omega) (Nat.le_of_ble_eq_true rfl) rfl ?_ ?_
    · rintro _ _ _ _ ⟨qr, rfl, rfl, rfl, rfl⟩
      dsimp only [List.cons_append, List.nil_append, Option.toList]
      have hr3 : us.length < 3000 := by omega
      refine j_aload_n E 28 dX7_group_27 0 rfl rfl rfl ?_
      refine j_getf E 31 dX7_group_28 fl_X7_19 (by repeat (first | with_reducible exact pick_0 | with_reducible apply pick_s)) (by rfl) rfl ?_
      refine j_iload_n E 32 dX7_group_31 1 rfl rfl rfl ?_
      refine j_lconst E 0 33 dX7_group_32 rfl rfl ?_
      refine j_iconst E (0) 34 dX7_group_33 (by decide) rfl ?_
      have e9 : sKeep K 0 0 2 (tape, us, np, nb, out, cd, pl) = (0, nI us.length, (tape, us ++ [(K, 0, 0, [], [])], np, nb, out, cd, pl)) := if_pos hr3
      rw [e9] at hok9 B
      refine j_gets E 37 dX7_group_34 hA.2.2.1.1 gs_X7_111 rfl ?_
      refine j_close (P := BYS X.1 z (z 0) []) (qs := []) (by repeat (first | with_reducible exact pick_0 | with_reducible apply pick_s | exact sel_0 | apply sel_s)) bys_nil ?_
      refine j_callV E (c_vls_keep hA (d-1) vl np nb capV K (z 0) (by omega) 0 0 [] vs (by omega)) 40 dX7_group_37 _ _ _ iv_X7_115 rfl rfl rfl (by repeat (first | with_reducible exact pick_0 | with_reducible apply pick_s | exact sel_0 | apply sel_s)) (by omega) (by omega) (by omega) (Nat.le_of_ble_eq_true rfl) rfl ?_
      rintro _ adc ads _ ⟨xa, xcap, rfl, rfl, y1, y2, y3, y4⟩
      dsimp only [List.cons_append, List.nil_append, Option.toList]
      rw [show nb + ([] : List UInt8).length = nb from rfl, hlen]
      refine pga_close (us ++ [(K, 0, 0, [], [])]) (by repeat (first | with_reducible exact pick_0 | with_reducible apply pick_s | exact sel_0 | apply sel_s)) hok9 (by rw [vts_app, hvt]) (tz_snoc htz rfl) ?_
      exact j_iret E B rfl adc ads dX7_group_40 (by repeat (first | with_reducible exact pick_0 | with_reducible apply pick_s | exact sel_0 | apply sel_s)) ⟨_, _, rfl, rfl, rfl, by omega, by omega, by omega, by omega⟩ (by omega) (by omega) (by omega) (by omega)
    · rintro En _ _ _ ⟨qr, rfl, rfl, rfl, rfl⟩
      dsimp only [List.cons_append, List.nil_append]
      have hnr : ¬ us.length < 3000 := fun q => qr ⟨by omega, by omega⟩
      have e9 : sKeep K 0 0 2 (tape, us, np, nb, out, cd, pl) = (2, 0, (tape, us, np, nb, out, cd, pl)) := if_neg hnr
      rw [e9] at B
      refine pgax_close us (by repeat (first | with_reducible exact pick_0 | with_reducible apply pick_s | exact sel_0 | apply sel_s)) hok hvt htz ?_
      exact jx_out E B T 1 6 (by repeat (first | with_reducible exact pick_0 | with_reducible apply pick_s | exact sel_0 | apply sel_s)) ⟨_, _, mm1, rfl, by omega, by omega, by omega, by omega⟩ (by omega) (by omega) (by omega) (by omega)
  refine j_iload_n E 1 dX7_group_0 1 rfl rfl rfl ?_
  refine j_bipush E (7) 3 dX7_group_1 (by decide) rfl ?_
  refine j_icmp_eq E 22 6 dX7_group_3 (by decide) rfl (fun h3 => ?_) (fun h3 => ?_)
  · exact good 7 (Or.inl rfl) rfl h3
  · refine j_iload_n E 7 dX7_group_6 1 rfl rfl rfl ?_
    refine j_bipush E (8) 9 dX7_group_7 (by decide) rfl ?_
    refine j_icmp_eq E 22 12 dX7_group_9 (by decide) rfl (fun h9 => ?_) (fun h9 => ?_)
    · exact good 8 (Or.inr rfl) rfl h9
    · have e9 : sGroup kd (tape, us, np, nb, out, cd, pl) = (1, 0, (tape, us, np, nb, out, cd, pl)) := (if_neg h3).trans (if_neg h9)
      rw [e9] at B
      refine pga_close us (by repeat (first | with_reducible exact pick_0 | with_reducible apply pick_s | exact sel_0 | apply sel_s)) hok hvt htz ?_
      exact j_throwS E B T h2 (tk_A sr_140) 1 6 dX7_group_12 15 16 18 21 rfl rfl rfl rfl dX7_group_15 dX7_group_16 dX7_group_18 dX7_group_21 (by repeat (first | with_reducible exact pick_0 | with_reducible apply pick_s | exact sel_0 | apply sel_s)) ⟨_, _, mm0, rfl, by omega, by omega, by omega, by omega⟩ (by omega) (by omega) (by omega) (by omega) (by show 2 + 3 < d; omega) (by show 0 + (13 * (2 + 1) + 43) ≤ 46 * d; omega)

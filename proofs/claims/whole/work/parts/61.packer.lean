/-! Packer: bytes -/
def stF (st : Option (List UInt8)) : Int32 := match st with
  | none => 1
  | some _ => 0
def stB (st : Option (List UInt8)) (most : Nat) (bs : List UInt8) : Prop := match st with
  | none => bs.length ≤ most
  | some p => bs = p ∧ p.length ≤ most
theorem stB_le {st : Option (List UInt8)} {most : Nat} {bs : List UInt8} (h : stB st most bs) : bs.length ≤ most := by
  rcases st with _ | p
  · exact h
  · exact h.1 ▸ h.2
/-- a packer, with its row; what is written so far is st -/
def PKO (g : GT) (pk pr cm most : Nat) (st : Option (List UInt8)) (cap : Nat) : Asn := fun w => ∃ bs : List UInt8, stB st most bs ∧ sepL [pt pk (.inr (2, [.ref pr, .ref cm, .int (nI most), .int (stF st)])), ROW g pr bs cap] w
theorem pko_open {g : GT} {pk pr cm most cap : Nat} {st : Option (List UInt8)} : ∀ w, PKO g pk pr cm most st cap w → ∃ bs : List UInt8, stB st most bs ∧ sepL [pt pk (.inr (2, [.ref pr, .ref cm, .int (nI most), .int (stF st)])), ROW g pr bs cap] w := fun _ h => h
theorem pko_has {g : GT} {pk pr cm most cap : Nat} {st : Option (List UInt8)} : Has (PKO g pk pr cm most st cap) pk 2 := fun w ⟨bs, _, w1, w2, hp, h1, _⟩ => by
  have h2 : w1 = [(pk, .inr (2, [.ref pr, .ref cm, .int (nI most), .int (stF st)]))] := h1
  exact ⟨_, hp.symm.subset (List.mem_append_left _ (by rw [h2]; exact List.mem_singleton.mpr rfl))⟩
theorem pko_rcv {g : GT} {pk pr cm most cap : Nat} {st : Option (List UInt8)} {L : List Asn} : Rcv (PKO g pk pr cm most st cap :: L) pk 2 := rcv_0 pko_has
theorem pko_close {X : XT} {nL : Nat} {ws ws1 : List Asn} {k n pc : Nat} {lv : List (Option Value)} {st : List Value} {pk pr cm most cap : Nat} {fa : Int32} (so : Option (List UInt8)) (bs : List UInt8) (hs : Sel ws [pt pk (.inr (2, [.ref pr, .ref cm, .int (nI most), .int fa])), ROW X.1 pr bs cap] ws1) (hf : stF so = fa) (h : stB so most bs) (kk : J X nL (PKO X.1 pk pr cm most so cap :: ws1) k n pc lv st) : J X nL ws k n pc lv st :=
  j_close hs (fun w hw => ⟨bs, h, by rw [hf]; exact hw⟩) kk
theorem row_know {g : GT} {r cap : Nat} {bs : List UInt8} : ∀ w, ROW g r bs cap w → 64 ≤ cap ∧ cap ≤ 131072 := fun _ ⟨_, h, _⟩ => h.2.2.2
theorem pko_know {g : GT} {pk pr cm most cap : Nat} {st : Option (List UInt8)} : ∀ w, PKO g pk pr cm most st cap w → 64 ≤ cap ∧ cap ≤ 131072 := by
  rintro w ⟨bs, -, w1, w2, -, -, u1, u2, -, h, -⟩
  exact row_know u1 h
def wrF (most : Nat) (st : Option (List UInt8)) (n : Nat) : Option (List UInt8) := match st with
  | none => none
  | some p => if p.length + n ≤ most then some p else none
theorem wrF_some {most n : Nat} {st : Option (List UInt8)} {p : List UInt8} (h : wrF most st n = some p) : st = some p ∧ p.length + n ≤ most := by
  rcases st with _ | q
  · cases h
  · unfold wrF at h
    dsimp only at h
    split at h
    · cases h
      exact ⟨rfl, by assumption⟩
    · cases h
theorem wr_none {most : Nat} {st : Option (List UInt8)} {bs : List UInt8} (h : wrF most st bs.length = none) : wr most st bs = none := by
  rcases st with _ | q
  · rfl
  · unfold wrF at h
    unfold wr
    dsimp only at h ⊢
    split at h
    · cases h
    · rename_i q1
      rw [if_neg q1]
theorem wr_some {most : Nat} {st : Option (List UInt8)} {bs p : List UInt8} (h : wrF most st bs.length = some p) : wr most st bs = some (p ++ bs) := by
  obtain ⟨rfl, h2⟩ := wrF_some h
  exact if_pos h2
set_option maxHeartbeats 4000000 in
theorem c_pk_fits {g : GT} (hG : GLB g) (d pk pr cm most cap n : Nat) (st : Option (List UInt8)) (hd : 1 ≤ d) (hn : most + n < 2 ^ 30) : CtrV g mX3_fits 2 d 0 0 pk [.int (nI n)] [PKO g pk pr cm most st cap] (fun o dc ds ws' => o = some (.int (match wrF most st n with | none => 0 | some _ => 1)) ∧ dc = 0 ∧ ds = 0 ∧ ws' = [PKO g pk pr cm most (wrF most st n) cap]) noX := by
  refine ⟨pko_rcv, ?_⟩
  refine ctr_intro hG (by decide +kernel) (Nat.le_of_ble_eq_true rfl) ?_
  rintro X F rfl E B hI T
  replace E : JE X RX3 cX3_fits 2 d 0 0 := E
  show J X _ [PKO X.1 pk pr cm most st cap, F] 0 0 0 [some (.ref pk), some (.int (nI n))] []
  refine j_open (by repeat (first | with_reducible exact pick_0 | with_reducible apply pick_s)) pko_open ?_
  rintro bs hbs
  have hle := stB_le hbs
  rcases st with _ | p
  · have e : wrF most none n = none := rfl
    rw [e] at B
    dsimp only [List.cons_append, List.nil_append, stF] at hbs ⊢
    refine j_aload_n E 1 dX3_fits_0 0 rfl rfl rfl ?_
    refine j_aload_n E 2 dX3_fits_1 0 rfl rfl rfl ?_
    refine j_getf E 5 dX3_fits_2 fl_X3_33 (by repeat (first | with_reducible exact pick_0 | with_reducible apply pick_s)) (by rfl) rfl ?_
    refine j_if_ne E 24 8 dX3_fits_5 (by decide) rfl (fun h5 => ?_) (fun h5 => ?_)
    · refine j_iconst E (1) 25 dX3_fits_24 (by decide) rfl ?_
      refine j_goto E 29 dX3_fits_25 (by decide) ?_
      refine j_putf E 32 dX3_fits_29 fl_X3_33 (by repeat (first | with_reducible exact pick_0 | with_reducible apply pick_s)) (by decide) (by decide) (Nat.le_of_ble_eq_true rfl) rfl ?_
      dsimp only [List.set]
      refine j_aload_n E 33 dX3_fits_32 0 rfl rfl rfl ?_
      refine j_getf E 36 dX3_fits_33 fl_X3_33 (by repeat (first | with_reducible exact pick_0 | with_reducible apply pick_s)) (by rfl) rfl ?_
      refine j_if_ne E 43 39 dX3_fits_36 (by decide) rfl (fun h36 => ?_) (fun h36 => ?_)
      · refine j_iconst E (0) 44 dX3_fits_43 (by decide) rfl ?_
        refine pko_close none bs (by repeat (first | with_reducible exact pick_0 | with_reducible apply pick_s | exact sel_0 | apply sel_s)) (by rfl) hbs ?_
        exact j_zret E B rfl (by first | exact Or.inl rfl | exact Or.inr rfl) 0 0 dX3_fits_44 (by repeat (first | with_reducible exact pick_0 | with_reducible apply pick_s | exact sel_0 | apply sel_s)) ⟨rfl, rfl, rfl, rfl⟩ (by omega) (by omega) (by omega) (by omega)
      · exact absurd h36 (by decide)
    · exact absurd h5 (by decide)
  · obtain ⟨rfl, hb2⟩ := hbs
    dsimp only [List.cons_append, List.nil_append, stF]
    refine j_aload_n E 1 dX3_fits_0 0 rfl rfl rfl ?_
    refine j_aload_n E 2 dX3_fits_1 0 rfl rfl rfl ?_
    refine j_getf E 5 dX3_fits_2 fl_X3_33 (by repeat (first | with_reducible exact pick_0 | with_reducible apply pick_s)) (by rfl) rfl ?_
    refine j_if_ne E 24 8 dX3_fits_5 (by decide) rfl (fun h5 => ?_) (fun h5 => ?_)
    · exact absurd rfl h5
    · refine j_aload_n E 9 dX3_fits_8 0 rfl rfl rfl ?_
      refine j_getf E 12 dX3_fits_9 fl_X3_12 (by repeat (first | with_reducible exact pick_0 | with_reducible apply pick_s)) (by rfl) rfl ?_
      refine j_callV E (c_row_size hG (d-1) pr cap bs) 15 dX3_fits_12 _ _ _ iv_X3_157 rfl rfl rfl (by repeat (first | with_reducible exact pick_0 | with_reducible apply pick_s | exact sel_0 | apply sel_s)) (by omega) (by omega) (by omega) (Nat.le_of_ble_eq_true rfl) rfl ?_
      rintro _ _ _ _ ⟨rfl, rfl, rfl, rfl⟩
      dsimp only [List.cons_append, List.nil_append, Option.toList]
      refine j_iload_n E 16 dX3_fits_15 1 rfl rfl rfl ?_
      refine j_iadd E 17 dX3_fits_16 rfl ?_
      refine j_eqi (nI_add bs.length n) ?_
      refine j_aload_n E 18 dX3_fits_17 0 rfl rfl rfl ?_
      refine j_getf E 21 dX3_fits_18 fl_X3_29 (by repeat (first | with_reducible exact pick_0 | with_reducible apply pick_s)) (by rfl) rfl ?_
      refine j_icmp_le E 28 24 dX3_fits_21 (by decide) rfl (fun h21 => ?_) (fun h21 => ?_)
      · have q21 : (bs.length + n) ≤ most := (nI_leI (a := (bs.length + n)) (b := most) (by omega) (by omega)).mp h21
        have e : wrF most (some bs) n = some bs := if_pos q21
        rw [e] at B
        refine j_iconst E (0) 29 dX3_fits_28 (by decide) rfl ?_
        refine j_putf E 32 dX3_fits_29 fl_X3_33 (by repeat (first | with_reducible exact pick_0 | with_reducible apply pick_s)) (by decide) (by decide) (Nat.le_of_ble_eq_true rfl) rfl ?_
        dsimp only [List.set]
        refine j_aload_n E 33 dX3_fits_32 0 rfl rfl rfl ?_
        refine j_getf E 36 dX3_fits_33 fl_X3_33 (by repeat (first | with_reducible exact pick_0 | with_reducible apply pick_s)) (by rfl) rfl ?_
        refine j_if_ne E 43 39 dX3_fits_36 (by decide) rfl (fun h36 => ?_) (fun h36 => ?_)
        · exact absurd rfl h36
        · refine j_iconst E (1) 40 dX3_fits_39 (by decide) rfl ?_
          refine j_goto E 44 dX3_fits_40 (by decide) ?_
          refine pko_close (some bs) bs (by repeat (first | with_reducible exact pick_0 | with_reducible apply pick_s | exact sel_0 | apply sel_s)) (by rfl) ⟨rfl, hb2⟩ ?_
          exact j_zret E B rfl (by first | exact Or.inl rfl | exact Or.inr rfl) 0 0 dX3_fits_44 (by repeat (first | with_reducible exact pick_0 | with_reducible apply pick_s | exact sel_0 | apply sel_s)) ⟨rfl, rfl, rfl, rfl⟩ (by omega) (by omega) (by omega) (by omega)
      · have q21 : ¬ (bs.length + n) ≤ most := mt (nI_leI (a := (bs.length + n)) (b := most) (by omega) (by omega)).mpr h21
        have e : wrF most (some bs) n = none := if_neg q21
        rw [e] at B
        refine j_iconst E (1) 25 dX3_fits_24 (by decide) rfl ?_
        refine j_goto E 29 dX3_fits_25 (by decide) ?_
        refine j_putf E 32 dX3_fits_29 fl_X3_33 (by repeat (first | with_reducible exact pick_0 | with_reducible apply pick_s)) (by decide) (by decide) (Nat.le_of_ble_eq_true rfl) rfl ?_
        dsimp only [List.set]
        refine j_aload_n E 33 dX3_fits_32 0 rfl rfl rfl ?_
        refine j_getf E 36 dX3_fits_33 fl_X3_33 (by repeat (first | with_reducible exact pick_0 | with_reducible apply pick_s)) (by rfl) rfl ?_
        refine j_if_ne E 43 39 dX3_fits_36 (by decide) rfl (fun h36 => ?_) (fun h36 => ?_)
        · refine j_iconst E (0) 44 dX3_fits_43 (by decide) rfl ?_
          refine pko_close none bs (by repeat (first | with_reducible exact pick_0 | with_reducible apply pick_s | exact sel_0 | apply sel_s)) (by rfl) hb2 ?_
          exact j_zret E B rfl (by first | exact Or.inl rfl | exact Or.inr rfl) 0 0 dX3_fits_44 (by repeat (first | with_reducible exact pick_0 | with_reducible apply pick_s | exact sel_0 | apply sel_s)) ⟨rfl, rfl, rfl, rfl⟩ (by omega) (by omega) (by omega) (by omega)
        · exact absurd h36 (by decide)
set_option maxHeartbeats 4000000 in
theorem c_pk_bytes {g : GT} (hG : GLB g) (d M N pk pr cm most cap n : Nat) (st : Option (List UInt8)) (v : Int64) (hd : 6 ≤ d) (hn : n ≤ 8) (hm : most ≤ 65536) (hM : 131136 ≤ 64 * M + cap) (hN : 393216 ≤ N + 2 * cap) : CtrV g mX3_writeBytes 2 d M N pk [.long v, .int (nI n)] [PKO g pk pr cm most st cap] (fun o dc ds ws' => ∃ xcap, o = none ∧ ws' = [PKO g pk pr cm most (wr most st (beB v n)) xcap] ∧ 64 * dc + cap ≤ xcap ∧ ds + 2 * cap ≤ 2 * xcap ∧ dc ≤ M ∧ ds ≤ N) noX := by
  refine ⟨pko_rcv, ?_⟩
  refine ctr_intro hG (by decide +kernel) (Nat.le_of_ble_eq_true rfl) ?_
  rintro X F rfl E B hI T
  replace E : JE X RX3 cX3_writeBytes 4 d M N := E
  show J X _ [PKO X.1 pk pr cm most st cap, F] 0 0 0 [some (.ref pk), some (.long v), none, some (.int (nI n))] []
  refine j_know (pick_know (P := PKO X.1 pk pr cm most st cap) (by repeat (first | with_reducible exact pick_0 | with_reducible apply pick_s)) pko_know) (fun hcap => ?_)
  have hlen : (beB v n).length = n := beB_len v n
  refine j_aload_n E 1 dX3_writeBytes_0 0 rfl rfl rfl ?_
  refine j_iload_n E 2 dX3_writeBytes_1 3 rfl rfl rfl ?_
  refine j_callV E (c_pk_fits hG (d-1) pk pr cm most cap n st (by omega) (by omega)) 5 dX3_writeBytes_2 _ _ _ iv_X3_141 rfl rfl rfl (by repeat (first | with_reducible exact pick_0 | with_reducible apply pick_s | exact sel_0 | apply sel_s)) (by omega) (by omega) (by omega) (Nat.le_of_ble_eq_true rfl) rfl ?_
  rintro _ _ _ _ ⟨rfl, rfl, rfl, rfl⟩
  dsimp only [List.cons_append, List.nil_append, Option.toList]
  rcases hw : wrF most st n with _ | p
  · rw [wr_none (bs := beB v n) (by rw [hlen]; exact hw)] at B
    dsimp only
    refine j_if_eq E 17 8 dX3_writeBytes_5 (by decide) rfl (fun h5 => ?_) (fun h5 => ?_)
    · exact j_vret E B rfl 0 0 dX3_writeBytes_17 (by repeat (first | with_reducible exact pick_0 | with_reducible apply pick_s | exact sel_0 | apply sel_s)) ⟨cap, rfl, rfl, by omega, by omega, by omega, by omega⟩ (by omega) (by omega) (by omega) (by omega)
    · exact absurd rfl h5
  · rw [wr_some (bs := beB v n) (by rw [hlen]; exact hw)] at B
    have h9 := wrF_some hw
    dsimp only
    refine j_if_eq E 17 8 dX3_writeBytes_5 (by decide) rfl (fun h5 => ?_) (fun h5 => ?_)
    · exact absurd h5 (by decide)
    · refine j_open (by repeat (first | with_reducible exact pick_0 | with_reducible apply pick_s)) pko_open ?_
      rintro bs ⟨rfl, hb2⟩
      dsimp only [List.cons_append, List.nil_append, stF]
      refine j_aload_n E 9 dX3_writeBytes_8 0 rfl rfl rfl ?_
      refine j_getf E 12 dX3_writeBytes_9 fl_X3_12 (by repeat (first | with_reducible exact pick_0 | with_reducible apply pick_s)) (by rfl) rfl ?_
      refine j_lload_n E 13 dX3_writeBytes_12 1 rfl rfl rfl ?_
      refine j_iload_n E 14 dX3_writeBytes_13 3 rfl rfl rfl ?_
      refine j_callV E (c_row_append hG (d-1) (by omega) pr cap n v bs hn (by omega)) 17 dX3_writeBytes_14 _ _ _ iv_X3_154 rfl rfl rfl (by repeat (first | with_reducible exact pick_0 | with_reducible apply pick_s | exact sel_0 | apply sel_s)) (by omega) (by omega) (by omega) (Nat.le_of_ble_eq_true rfl) rfl ?_
      rintro _ xdc xds _ ⟨xcap, rfl, rfl, g1, g2, g3, g4, g5⟩
      dsimp only [List.cons_append, List.nil_append, Option.toList]
      refine pko_close (some (bs ++ beB v n)) _ (by repeat (first | with_reducible exact pick_0 | with_reducible apply pick_s | exact sel_0 | apply sel_s)) (by rfl) ⟨rfl, by rw [List.length_append, hlen]; exact h9.2⟩ ?_
      exact j_vret E B rfl xdc xds dX3_writeBytes_17 (by repeat (first | with_reducible exact pick_0 | with_reducible apply pick_s | exact sel_0 | apply sel_s)) ⟨xcap, rfl, rfl, by omega, by omega, by omega, by omega⟩ (by omega) (by omega) (by omega) (by omega)
def bI (b : Bool) : Int32 := if b = true then 1 else 0
theorem sh1_all : ∀ s : Fin 5, (1 : Int32) <<< (nI s.val &&& 31) = nI (2 ^ s.val) := by decide +kernel
theorem sh1 {s : Nat} (h : s < 5) : (1 : Int32) <<< (nI s &&& 31) = nI (2 ^ s) := sh1_all ⟨s, h⟩
theorem p2_le {s : Nat} (h : s < 4) : 2 ^ s ≤ 8 := Nat.le_trans (Nat.pow_le_pow_right (by decide) (show s ≤ 3 by omega)) (by decide)
set_option maxHeartbeats 4000000 in
theorem c_pk_xl {g : GT} (hG : GLB g) (d n : Nat) (hn : n < 2 ^ 31) : Ctr g mX3_extensionLead d 0 0 [.int (nI n)] [] (fun o dc ds ws' => o = some (.int (oI (xl n))) ∧ dc = 0 ∧ ds = 0 ∧ ws' = []) noX := by
  refine ctr_intro hG (by decide +kernel) (Nat.le_of_ble_eq_true rfl) ?_
  rintro X F rfl E B hI T
  replace E : JE X RX3 cX3_extensionLead 2 d 0 0 := E
  show J X _ [F] 0 0 0 [some (.int (nI n)), none] []
  have loop : ∀ (q s : Nat), s + q = 5 → (∀ t, t < s → ¬ n = 2 ^ t) → J X 2 [F] 0 0 2 [some (.int (nI n)), some (.int (nI s))] [] := by
    intro q
    induction q with
    | zero =>
      intro s hs hne
      have e : xl n = none := by
        have h0 := hne 0 (by omega)
        have h1 := hne 1 (by omega)
        have h2 := hne 2 (by omega)
        have h3 := hne 3 (by omega)
        have h4 := hne 4 (by omega)
        rw [xl, if_neg h0, if_neg h1, if_neg h2, if_neg h3, if_neg h4]
      rw [e] at B
      refine j_iload_n E 3 dX3_extensionLead_2 1 rfl rfl rfl ?_
      refine j_iconst E (5) 4 dX3_extensionLead_3 (by decide) rfl ?_
      refine j_icmp_ge E 26 7 dX3_extensionLead_4 (by decide) rfl (fun h4 => ?_) (fun h4 => ?_)
      · refine j_iconst E (-1) 27 dX3_extensionLead_26 (by decide) rfl ?_
        exact j_iret E B rfl 0 0 dX3_extensionLead_27 (by repeat (first | with_reducible exact pick_0 | with_reducible apply pick_s | exact sel_0 | apply sel_s)) ⟨rfl, rfl, rfl, rfl⟩ (by omega) (by omega) (by omega) (by omega)
      · exact absurd (nI_le (a := 5) (b := s) (by omega) (by omega)) h4
    | succ q ih =>
      intro s hs hne
      refine j_iload_n E 3 dX3_extensionLead_2 1 rfl rfl rfl ?_
      refine j_iconst E (5) 4 dX3_extensionLead_3 (by decide) rfl ?_
      refine j_icmp_ge E 26 7 dX3_extensionLead_4 (by decide) rfl (fun h4 => ?_) (fun h4 => ?_)
      · exact absurd h4 (nI_ge (a := s) (b := 5) (by omega) (by decide))
      · refine j_iload_n E 8 dX3_extensionLead_7 0 rfl rfl rfl ?_
        refine j_iconst E (1) 9 dX3_extensionLead_8 (by decide) rfl ?_
        refine j_iload_n E 10 dX3_extensionLead_9 1 rfl rfl rfl ?_
        refine j_ishl E 11 dX3_extensionLead_10 rfl ?_
        refine j_eqi (sh1 (by omega)) ?_
        have h16 : 2 ^ s ≤ 16 := Nat.le_trans (Nat.pow_le_pow_right (by decide) (show s ≤ 4 by omega)) (by decide)
        refine j_icmp_ne E 20 14 dX3_extensionLead_11 (by decide) rfl (fun h11 => ?_) (fun h11 => ?_)
        · have hq : ¬ n = 2 ^ s := fun e => h11 (congrArg nI e)
          refine j_iinc E _ 23 dX3_extensionLead_20 rfl rfl (Nat.le_of_ble_eq_true rfl) rfl rfl ?_
          dsimp only [List.set]
          refine j_goto E 2 dX3_extensionLead_23 (by decide) ?_
          have hz := ih (s + 1) (by omega) (fun t ht => by
            by_cases e : t = s
            · exact e ▸ hq
            · exact hne t (by omega))
          rw [← nI_1] at hz
          exact hz
        · have hq : n = 2 ^ s := (nI_eq hn (by omega)).mp h11
          have e : xl n = some (212 + s) := by
            have hs5 : s = 0 ∨ s = 1 ∨ s = 2 ∨ s = 3 ∨ s = 4 := by omega
            rcases hs5 with rfl | rfl | rfl | rfl | rfl <;> (subst hq; rfl)
          rw [e] at B
          refine j_sipush E (212) 17 dX3_extensionLead_14 (by decide) rfl ?_
          refine j_iload_n E 18 dX3_extensionLead_17 1 rfl rfl rfl ?_
          refine j_iadd E 19 dX3_extensionLead_18 rfl ?_
          refine j_eqi (nI_add 212 s) ?_
          exact j_iret E B rfl 0 0 dX3_extensionLead_19 (by repeat (first | with_reducible exact pick_0 | with_reducible apply pick_s | exact sel_0 | apply sel_s)) ⟨rfl, rfl, rfl, rfl⟩ (by omega) (by omega) (by omega) (by omega)
  refine j_iconst E (0) 1 dX3_extensionLead_0 (by decide) rfl ?_
  refine j_istore_n E 2 dX3_extensionLead_1 1 rfl (Nat.le_of_ble_eq_true rfl) rfl rfl ?_
  dsimp only [List.set]
  exact loop 5 0 rfl (fun t ht => absurd ht (Nat.not_lt_zero _))
set_option maxHeartbeats 4000000 in
theorem c_pk_head {g : GT} (hG : GLB g) (d M N pk pr cm most cap ld n : Nat) (wh : Option Nat) (st : Option (List UInt8)) (hd : 7 ≤ d) (hw : ∀ w, wh = some w → w < 256) (hld : ld < 256) (hn : n < 2 ^ 30) (hm : most ≤ 65536) (hM : 131136 ≤ 64 * M + cap) (hN : 393216 ≤ N + 2 * cap) : CtrV g mX3_writeHead 2 d M N pk [.int (oI wh), .int (nI ld), .int (nI n)] [PKO g pk pr cm most st cap] (fun o dc ds ws' => ∃ xcap, o = none ∧ ws' = [PKO g pk pr cm most (wr most st (hdE wh ld n)) xcap] ∧ 64 * dc + cap ≤ xcap ∧ ds + 2 * cap ≤ 2 * xcap ∧ dc ≤ M ∧ ds ≤ N) noX := by
  refine ⟨pko_rcv, ?_⟩
  refine ctr_intro hG (by decide +kernel) (Nat.le_of_ble_eq_true rfl) ?_
  rintro X F rfl E B hI T
  replace E : JE X RX3 cX3_writeHead 5 d M N := E
  show J X _ [PKO X.1 pk pr cm most st cap, F] 0 0 0 [some (.ref pk), some (.int (oI wh)), some (.int (nI ld)), some (.int (nI n)), none] []
  rcases wh with _ | w
  · rw [hdE] at B
    dsimp only [oI] at B ⊢
    have hw2 := wid_le n
    have htail : J X 5 [PKO X.1 pk pr cm most st cap, F] 0 0 35 [some (.ref pk), some (.int (-1)), some (.int (nI ld)), some (.int (nI n)), none] [.int (nI (wid n))] := by
      obtain ⟨s, hs⟩ : ∃ s, s = wid n := ⟨_, rfl⟩
      rw [← hs] at B hw2 ⊢
      refine j_istore E 37 dX3_writeHead_35 (Nat.le_of_ble_eq_true rfl) rfl rfl ?_
      dsimp only [List.set]
      refine j_aload_n E 38 dX3_writeHead_37 0 rfl rfl rfl ?_
      refine j_iload_n E 39 dX3_writeHead_38 2 rfl rfl rfl ?_
      refine j_iload E 41 dX3_writeHead_39 rfl rfl ?_
      refine j_iadd E 42 dX3_writeHead_41 rfl ?_
      refine j_eqi (nI_add ld s) ?_
      refine j_i2l E 43 dX3_writeHead_42 rfl ?_
      rw [nI_l (by omega)]
      refine j_iconst E (1) 44 dX3_writeHead_43 (by decide) rfl ?_
      refine j_callV E (c_pk_bytes hG (d-1) M N pk pr cm most cap 1 st (lN (ld + s)) (by omega) (by omega) hm hM hN) 47 dX3_writeHead_44 _ _ _ iv_X3_71 rfl rfl rfl (by repeat (first | with_reducible exact pick_0 | with_reducible apply pick_s | exact sel_0 | apply sel_s)) (by omega) (by omega) (by omega) (Nat.le_of_ble_eq_true rfl) rfl ?_
      rintro _ xadc xads _ ⟨xacap, rfl, rfl, xa1, xa2, xa3, xa4⟩
      dsimp only [List.cons_append, List.nil_append, Option.toList]
      refine j_aload_n E 48 dX3_writeHead_47 0 rfl rfl rfl ?_
      refine j_iload_n E 49 dX3_writeHead_48 3 rfl rfl rfl ?_
      refine j_i2l E 50 dX3_writeHead_49 rfl ?_
      rw [nI_l (by omega)]
      refine j_iconst E (1) 51 dX3_writeHead_50 (by decide) rfl ?_
      refine j_iload E 53 dX3_writeHead_51 rfl rfl ?_
      refine j_ishl E 54 dX3_writeHead_53 rfl ?_
      refine j_eqi (sh1 (by omega)) ?_
      refine j_callV E (c_pk_bytes hG (d-1) (M - xadc) (N - xads) pk pr cm most xacap (2 ^ s) _ (lN n) (by omega) (p2_le (by omega)) hm (by omega) (by omega)) 57 dX3_writeHead_54 _ _ _ iv_X3_71 rfl rfl rfl (by repeat (first | with_reducible exact pick_0 | with_reducible apply pick_s | exact sel_0 | apply sel_s)) (by omega) (by omega) (by omega) (Nat.le_of_ble_eq_true rfl) rfl ?_
      rintro _ xbdc xbds _ ⟨xbcap, rfl, rfl, xb1, xb2, xb3, xb4⟩
      dsimp only [List.cons_append, List.nil_append, Option.toList]
      rw [wr_app]
      exact j_vret E B rfl (0 + xadc + xbdc) (0 + xads + xbds) dX3_writeHead_57 (by repeat (first | with_reducible exact pick_0 | with_reducible apply pick_s | exact sel_0 | apply sel_s)) ⟨xbcap, rfl, rfl, by omega, by omega, by omega, by omega⟩ (by omega) (by omega) (by omega) (by omega)
    refine j_iload_n E 1 dX3_writeHead_0 1 rfl rfl rfl ?_
    refine j_iconst E (-1) 2 dX3_writeHead_1 (by decide) rfl ?_
    refine j_icmp_eq E 13 5 dX3_writeHead_2 (by decide) rfl (fun h2 => ?_) (fun h2 => ?_)
    · refine j_iload_n E 14 dX3_writeHead_13 3 rfl rfl rfl ?_
      refine j_sipush E (256) 17 dX3_writeHead_14 (by decide) rfl ?_
      refine j_icmp_ge E 24 20 dX3_writeHead_17 (by decide) rfl (fun h17 => ?_) (fun h17 => ?_)
      · refine j_iload_n E 25 dX3_writeHead_24 3 rfl rfl rfl ?_
        refine j_ldcI E _ 27 dX3_writeHead_25 kc_X3_149 rfl ?_
        refine j_icmp_ge E 34 30 dX3_writeHead_27 (by decide) rfl (fun h27 => ?_) (fun h27 => ?_)
        · have e : wid n = 2 := by
            have q1 : ¬ n < 65536 := fun q => absurd (show nI 65536 ≤ nI n from h27) (nI_ge q (by omega))
            rw [wid, if_neg (by omega), if_neg q1]
          rw [e] at htail
          refine j_iconst E (2) 35 dX3_writeHead_34 (by decide) rfl ?_
          exact htail
        · have e : wid n = 1 := by
            have q1 : ¬ n < 256 := fun q => absurd (show nI 256 ≤ nI n from h17) (nI_ge q (by omega))
            have q2 : n < 65536 := Nat.lt_of_not_le fun q => h27 (nI_le q (by omega))
            rw [wid, if_neg q1, if_pos q2]
          rw [e] at htail
          refine j_iconst E (1) 31 dX3_writeHead_30 (by decide) rfl ?_
          refine j_goto E 35 dX3_writeHead_31 (by decide) ?_
          exact htail
      · have e : wid n = 0 := by
          have q1 : n < 256 := Nat.lt_of_not_le fun q => h17 (nI_le q (by omega))
          rw [wid, if_pos q1]
        rw [e] at htail
        refine j_iconst E (0) 21 dX3_writeHead_20 (by decide) rfl ?_
        refine j_goto E 35 dX3_writeHead_21 (by decide) ?_
        exact htail
    · exact absurd rfl h2
  · have hw9 := hw w rfl
    rw [hdE] at B
    dsimp only [oI] at B ⊢
    refine j_iload_n E 1 dX3_writeHead_0 1 rfl rfl rfl ?_
    refine j_iconst E (-1) 2 dX3_writeHead_1 (by decide) rfl ?_
    refine j_icmp_eq E 13 5 dX3_writeHead_2 (by decide) rfl (fun h2 => ?_) (fun h2 => ?_)
    · exact absurd h2 (nI_m1 (by omega))
    · refine j_aload_n E 6 dX3_writeHead_5 0 rfl rfl rfl ?_
      refine j_iload_n E 7 dX3_writeHead_6 1 rfl rfl rfl ?_
      refine j_i2l E 8 dX3_writeHead_7 rfl ?_
      rw [nI_l (by omega)]
      refine j_iconst E (1) 9 dX3_writeHead_8 (by decide) rfl ?_
      refine j_callV E (c_pk_bytes hG (d-1) M N pk pr cm most cap 1 st (lN w) (by omega) (by omega) hm hM hN) 12 dX3_writeHead_9 _ _ _ iv_X3_71 rfl rfl rfl (by repeat (first | with_reducible exact pick_0 | with_reducible apply pick_s | exact sel_0 | apply sel_s)) (by omega) (by omega) (by omega) (Nat.le_of_ble_eq_true rfl) rfl ?_
      rintro _ xadc xads _ ⟨xacap, rfl, rfl, xa1, xa2, xa3, xa4⟩
      dsimp only [List.cons_append, List.nil_append, Option.toList]
      exact j_vret E B rfl (0 + xadc) (0 + xads) dX3_writeHead_12 (by repeat (first | with_reducible exact pick_0 | with_reducible apply pick_s | exact sel_0 | apply sel_s)) ⟨xacap, rfl, rfl, by omega, by omega, by omega, by omega⟩ (by omega) (by omega) (by omega) (by omega)

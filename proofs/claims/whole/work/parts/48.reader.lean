/-! Reader: the small ones -/
abbrev RDR (rd ld gr i : Nat) (cd pl : Int32) : Asn := pt rd (.inr (3, [.ref ld, .ref gr, .int (nI i), .int cd, .int pl]))
def ents (ads : List Nat) (new : List VT) : List VE := List.zipWith (fun a v => (a, v, (-1 : Int32))) ads new
/-- what a reading of one value without parts leaves behind -/
def leafQ (g : GT) (z : Nat → Nat) (rd ld gr e : Nat) (cd pl : Int32) (vl : Nat) (vs : List VE) (np nb cap m : Nat) (ex : List Asn) (R : RO) (o : Option Value) (dc ds : Nat) (ws' : List Asn) : Prop :=
  match R with
  | .inl x => o = some (.int (-1)) ∧ dc = 0 ∧ ds = 0 ∧ ws' = RDR rd ld gr e (nI x.1) (nI x.2) :: VLS g z vl vs np nb cap :: ex
  | .inr x => ∃ ads xcap, ads.length = x.2.2.1.length ∧ o = some (.int (nI x.1)) ∧ x.2.1 = e ∧ ws' = RDR rd ld gr e cd pl :: VLS g z vl (vs ++ ents ads x.2.2.1) x.2.2.2.1 x.2.2.2.2.1 xcap :: ex ∧ 5 * dc + cap ≤ xcap + 10 ∧ ds + 4 * cap ≤ 4 * xcap + 8 + m ∧ dc ≤ 3 ∧ ds ≤ 20008 + m
section
variable {g : GT} {z : Nat → Nat} {rd ld gr e vl np nb cap m : Nat} {cd pl : Int32} {vs : List VE} {ex : List Asn}
theorem leafQ_inl {c p : Nat} : leafQ g z rd ld gr e cd pl vl vs np nb cap m ex (.inl (c, p)) (some (.int (-1))) 0 0 (RDR rd ld gr e (nI c) (nI p) :: VLS g z vl vs np nb cap :: ex) := ⟨rfl, rfl, rfl, rfl⟩
theorem leafQ_inr {n k np2 nb2 xa xcap dc ds : Nat} {gs : List Nat} {nm : Int64} {dt : Int32} {cs : List UInt8} (h1 : 5 * dc + cap ≤ xcap + 10) (h2 : ds + 4 * cap ≤ 4 * xcap + 8 + m) (h3 : dc ≤ 3) (h4 : ds ≤ 20008 + m) : leafQ g z rd ld gr e cd pl vl vs np nb cap m ex (.inr (n, e, [(k, nm, dt, cs, [])], np2, nb2, gs)) (some (.int (nI n))) dc ds (RDR rd ld gr e cd pl :: VLS g z vl (vs ++ [(xa, (k, nm, dt, cs, []), -1)]) np2 nb2 xcap :: ex) := ⟨[xa], xcap, rfl, rfl, rfl, rfl, h1, h2, h3, h4⟩
end
set_option maxHeartbeats 4000000 in
theorem c_rd_refuse {g : GT} (hG : GLB g) (d rd ld gr i : Nat) (cd pl c p : Int32) : CtrV g mX4_refuse 3 d 0 0 rd [.int c, .int p] [RDR rd ld gr i cd pl] (fun o dc ds ws' => o = some (.int (-1)) ∧ dc = 0 ∧ ds = 0 ∧ ws' = [RDR rd ld gr i c p]) noX := by
  refine ⟨rcv_pt, ?_⟩
  refine ctr_intro hG (by decide +kernel) (Nat.le_of_ble_eq_true rfl) ?_
  rintro X F rfl E B hI T
  replace E : JE X RX4 cX4_refuse 3 d 0 0 := E
  show J X _ [RDR rd ld gr i cd pl, F] 0 0 0 [some (.ref rd), some (.int c), some (.int p)] []
  refine j_aload_n E 1 dX4_refuse_0 0 rfl rfl rfl ?_
  refine j_iload_n E 2 dX4_refuse_1 1 rfl rfl rfl ?_
  refine j_putf E 5 dX4_refuse_2 fl_X4_41 (by repeat (first | with_reducible exact pick_0 | with_reducible apply pick_s)) rfl rfl (Nat.le_of_ble_eq_true rfl) rfl ?_
  dsimp only [List.set]
  refine j_aload_n E 6 dX4_refuse_5 0 rfl rfl rfl ?_
  refine j_iload_n E 7 dX4_refuse_6 2 rfl rfl rfl ?_
  refine j_putf E 10 dX4_refuse_7 fl_X4_44 (by repeat (first | with_reducible exact pick_0 | with_reducible apply pick_s)) rfl rfl (Nat.le_of_ble_eq_true rfl) rfl ?_
  dsimp only [List.set]
  refine j_iconst E (-1) 11 dX4_refuse_10 (by decide) rfl ?_
  exact j_iret E B rfl 0 0 dX4_refuse_11 (by repeat (first | with_reducible exact pick_0 | with_reducible apply pick_s | exact sel_0 | apply sel_s)) ⟨rfl, rfl, rfl, rfl⟩ (by omega) (by omega) (by omega) (by omega)
set_option maxHeartbeats 4000000 in
theorem c_rd_int {g : GT} (hG : GLB g) (d rd ld gr e tp cap i k h w : Nat) (cd pl ty : Int32) (bs : List UInt8) (hd : 1 ≤ d) (hw : w ≤ 8) (hi : i + w < bs.length) (hb : bs.length ≤ 100000) : CtrV g mX4_readInteger 3 d 0 0 rd [.ref tp, .int (nI i)] [RDR rd ld gr e cd pl, LEA ld k h w ty, ROW g tp bs cap] (fun o dc ds ws' => o = some (.long (intV bs i w)) ∧ dc = 0 ∧ ds = 0 ∧ ws' = [RDR rd ld gr e cd pl, LEA ld k h w ty, ROW g tp bs cap]) noX := by
  refine ⟨rcv_pt, ?_⟩
  refine ctr_intro hG (by decide +kernel) (Nat.le_of_ble_eq_true rfl) ?_
  rintro X F rfl E B hI T
  replace E : JE X RX4 cX4_readInteger 8 d 0 0 := E
  show J X _ [RDR rd ld gr e cd pl, LEA ld k h w ty, ROW X.1 tp bs cap, F] 0 0 0 [some (.ref rd), some (.ref tp), some (.int (nI i)), none, none, none, none, none] []
  refine j_aload_n E 1 dX4_readInteger_0 1 rfl rfl rfl ?_
  refine j_iload_n E 2 dX4_readInteger_1 2 rfl rfl rfl ?_
  refine j_callV E (c_row_at hG (d-1) tp cap i bs (by omega)) 5 dX4_readInteger_2 _ _ _ iv_X4_181 rfl rfl rfl (by repeat (first | with_reducible exact pick_0 | with_reducible apply pick_s | exact sel_0 | apply sel_s)) (by omega) (by omega) (by omega) (Nat.le_of_ble_eq_true rfl) rfl ?_
  rintro _ _ _ _ ⟨rfl, rfl, rfl, rfl⟩
  dsimp only [List.cons_append, List.nil_append, Option.toList]
  refine j_istore_n E 6 dX4_readInteger_5 3 rfl (Nat.le_of_ble_eq_true rfl) rfl rfl ?_
  dsimp only [List.set]
  refine j_aload_n E 7 dX4_readInteger_6 0 rfl rfl rfl ?_
  refine j_getf E 10 dX4_readInteger_7 fl_X4_12 (by repeat (first | with_reducible exact pick_0 | with_reducible apply pick_s)) (by rfl) rfl ?_
  refine j_getfN E 13 dX4_readInteger_10 fl_X4_80 (by repeat (first | with_reducible exact pick_0 | with_reducible apply pick_s)) (by rfl) rfl ?_
  refine j_l2i E 14 dX4_readInteger_13 rfl ?_
  rw [lN_i, show (bs.getD i 0).toNat = bN bs i from rfl]
  have hl := bN_lt bs i
  refine j_istore E 16 dX4_readInteger_14 (Nat.le_of_ble_eq_true rfl) rfl rfl ?_
  dsimp only [List.set]
  refine j_iload E 18 dX4_readInteger_16 rfl rfl ?_
  refine j_if_ne E 25 21 dX4_readInteger_18 (by decide) rfl (fun h18 => ?_) (fun h18 => ?_)
  · have hw0 : ¬ w = 0 := fun q => h18 (congrArg nI q)
    refine j_aload_n E 26 dX4_readInteger_25 1 rfl rfl rfl ?_
    refine j_iload_n E 27 dX4_readInteger_26 2 rfl rfl rfl ?_
    refine j_iconst E (1) 28 dX4_readInteger_27 (by decide) rfl ?_
    refine j_iadd E 29 dX4_readInteger_28 rfl ?_
    refine j_eqi (nI_1 i) ?_
    refine j_iload E 31 dX4_readInteger_29 rfl rfl ?_
    refine j_callV E (c_row_be hG (d-1) tp cap (i + 1) w bs hw (by omega)) 34 dX4_readInteger_31 _ _ _ iv_X4_153 rfl rfl rfl (by repeat (first | with_reducible exact pick_0 | with_reducible apply pick_s | exact sel_0 | apply sel_s)) (by omega) (by omega) (by omega) (Nat.le_of_ble_eq_true rfl) rfl ?_
    rintro _ _ _ _ ⟨rfl, rfl, rfl, rfl⟩
    dsimp only [List.cons_append, List.nil_append, Option.toList]
    refine j_lstore E 36 dX4_readInteger_34 (Nat.le_of_ble_eq_true rfl) rfl rfl ?_
    dsimp only [List.set]
    refine j_bipush E (64) 38 dX4_readInteger_36 (by decide) rfl ?_
    refine j_bipush E (8) 40 dX4_readInteger_38 (by decide) rfl ?_
    refine j_iload E 42 dX4_readInteger_40 rfl rfl ?_
    refine j_imul E 43 dX4_readInteger_42 rfl ?_
    refine j_isub E 44 dX4_readInteger_43 rfl ?_
    refine j_eqi (y := nI (64 - 8 * w)) (by rw [show (8 : Int32) * nI w = nI (8 * w) from pk_mul 8 w]; exact pk_sub (a := 64) (by omega)) ?_
    refine j_istore E 46 dX4_readInteger_44 (Nat.le_of_ble_eq_true rfl) rfl rfl ?_
    dsimp only [List.set]
    refine j_iload_n E 47 dX4_readInteger_46 3 rfl rfl rfl ?_
    refine j_sipush E (208) 50 dX4_readInteger_47 (by decide) rfl ?_
    refine j_icmp_lt E 64 53 dX4_readInteger_50 (by decide) rfl (fun h50 => ?_) (fun h50 => ?_)
    · have q50 : (bN bs i) < 208 := (nI_ltI (a := (bN bs i)) (b := 208) (by omega) (by omega)).mp h50
      refine j_lload E 66 dX4_readInteger_64 rfl rfl ?_
      exact j_lret E B rfl 0 0 dX4_readInteger_66 (by repeat (first | with_reducible exact pick_0 | with_reducible apply pick_s | exact sel_0 | apply sel_s)) ⟨by rw [intV, if_neg hw0, if_neg (by omega)], rfl, rfl, rfl⟩ (by omega) (by omega) (by omega) (by omega)
    · have q50 : ¬ (bN bs i) < 208 := mt (nI_ltI (a := (bN bs i)) (b := 208) (by omega) (by omega)).mpr h50
      refine j_lload E 55 dX4_readInteger_53 rfl rfl ?_
      refine j_iload E 57 dX4_readInteger_55 rfl rfl ?_
      refine j_lshl E 58 dX4_readInteger_57 rfl ?_
      refine j_iload E 60 dX4_readInteger_58 rfl rfl ?_
      refine j_lshr E 61 dX4_readInteger_60 rfl ?_
      refine j_goto E 66 dX4_readInteger_61 (by decide) ?_
      exact j_lret E B rfl 0 0 dX4_readInteger_66 (by repeat (first | with_reducible exact pick_0 | with_reducible apply pick_s | exact sel_0 | apply sel_s)) ⟨by rw [intV, if_neg hw0, if_pos (by omega)], rfl, rfl, rfl⟩ (by omega) (by omega) (by omega) (by omega)
  · have hw0 : w = 0 := (nI_eq (by omega) (by omega)).mp h18
    refine j_iload_n E 22 dX4_readInteger_21 3 rfl rfl rfl ?_
    refine j_i2b E 23 dX4_readInteger_22 rfl ?_
    refine j_eqi (i2b_by8 (bs.getD i 0)) ?_
    refine j_i2l E 24 dX4_readInteger_23 rfl ?_
    exact j_lret E B rfl 0 0 dX4_readInteger_24 (by repeat (first | with_reducible exact pick_0 | with_reducible apply pick_s | exact sel_0 | apply sel_s)) ⟨by rw [intV, if_pos hw0], rfl, rfl, rfl⟩ (by omega) (by omega) (by omega) (by omega)
set_option maxHeartbeats 4000000 in
theorem c_rd_keep {g : GT} {z : Nat → Nat} (hA : GA g z) (d rd ld gr e vl np nb cap i k : Nat) (cd pl dt : Int32) (nm : Int64) (vs : List VE) (gs : List Nat) (hd : 11 ≤ d) (hv : vs.length ≤ 3000) (hn : nb < 2 ^ 30) : CtrV g mX4_keepPlain 3 d 2 20008 rd [.ref vl, .int (nI i), .int (nI k), .long nm, .int dt] [RDR rd ld gr e cd pl, VLS g z vl vs np nb cap] (leafQ g z rd ld gr e cd pl vl vs np nb cap 0 [] (rdKeep i e vs.length np nb gs k nm dt [])) noX := by
  refine ⟨rcv_pt, ?_⟩
  have hG := hA.1
  refine ctr_intro hG (by decide +kernel) (Nat.le_of_ble_eq_true rfl) ?_
  rintro X F rfl E B hI T
  replace E : JE X RX4 cX4_keepPlain 7 d 2 20008 := E
  show J X _ [RDR rd ld gr e cd pl, VLS X.1 z vl vs np nb cap, F] 0 0 0 [some (.ref rd), some (.ref vl), some (.int (nI i)), some (.int (nI k)), some (.long nm), none, some (.int dt)] []
  refine j_aload_n E 1 dX4_keepPlain_0 1 rfl rfl rfl ?_
  refine j_iconst E (0) 2 dX4_keepPlain_1 (by decide) rfl ?_
  rw [show (0 : Int32) = nI 0 from rfl]
  refine j_callV E (c_vls_takes hG (d-1) vl np nb cap 0 (by omega) vs (by omega) (by omega)) 5 dX4_keepPlain_2 _ _ _ iv_X4_103 rfl rfl rfl (by repeat (first | with_reducible exact pick_0 | with_reducible apply pick_s | exact sel_0 | apply sel_s)) (by omega) (by omega) (by omega) (Nat.le_of_ble_eq_true rfl) rfl ?_
  rintro _ _ _ _ ⟨rfl, rfl, rfl, rfl⟩
  dsimp only [List.cons_append, List.nil_append, Option.toList]
  by_cases q : vs.length < 3000 ∧ nb + 0 ≤ 65536
  · rw [if_pos q]
    rw [rdKeep, if_pos (show vs.length < 3000 ∧ nb + ([] : List UInt8).length ≤ 65536 from q)] at B
    refine j_if_eq E 23 8 dX4_keepPlain_5 (by decide) rfl (fun h5 => ?_) (fun h5 => ?_)
    · exact absurd h5 (by decide)
    · refine j_aload_n E 9 dX4_keepPlain_8 1 rfl rfl rfl ?_
      refine j_iload_n E 10 dX4_keepPlain_9 3 rfl rfl rfl ?_
      refine j_lload E 12 dX4_keepPlain_10 rfl rfl ?_
      refine j_iload E 14 dX4_keepPlain_12 rfl rfl ?_
      refine j_getsN E 17 dX4_keepPlain_14 hA.2.2.1.1 gs_X4_115 rfl ?_
      refine j_close (P := BYS X.1 z (z 0) []) (qs := []) (by repeat (first | with_reducible exact pick_0 | with_reducible apply pick_s | exact sel_0 | apply sel_s)) bys_nil ?_
      refine j_callV E (c_vls_keep hA (d-1) vl np nb cap k (z 0) (by omega) nm dt [] vs (by omega)) 20 dX4_keepPlain_17 _ _ _ iv_X4_119 rfl rfl rfl (by repeat (first | with_reducible exact pick_0 | with_reducible apply pick_s | exact sel_0 | apply sel_s)) (by omega) (by omega) (by omega) (Nat.le_of_ble_eq_true rfl) rfl ?_
      rintro _ xdc xds _ ⟨xa, xcap, rfl, rfl, e1, e2, e3, e4⟩
      dsimp only [List.cons_append, List.nil_append, Option.toList]
      refine j_goto E 30 dX4_keepPlain_20 (by decide) ?_
      exact j_iret E B rfl xdc xds dX4_keepPlain_30 (by repeat (first | with_reducible exact pick_0 | with_reducible apply pick_s | exact sel_0 | apply sel_s)) (leafQ_inr (xa := xa) (xcap := xcap) (by omega) (by omega) (by omega) (by omega)) (by omega) (by omega) (by omega) (by omega)
  · rw [if_neg q]
    rw [rdKeep, if_neg (show ¬ (vs.length < 3000 ∧ nb + ([] : List UInt8).length ≤ 65536) from q)] at B
    refine j_if_eq E 23 8 dX4_keepPlain_5 (by decide) rfl (fun h5 => ?_) (fun h5 => ?_)
    · refine j_aload_n E 24 dX4_keepPlain_23 0 rfl rfl rfl ?_
      refine j_bipush E (7) 26 dX4_keepPlain_24 (by decide) rfl ?_
      refine j_iload_n E 27 dX4_keepPlain_26 2 rfl rfl rfl ?_
      refine j_callV E (c_rd_refuse hG (d-1) rd ld gr e cd pl (nI 7) (nI i)) 30 dX4_keepPlain_27 _ _ _ iv_X4_54 rfl rfl rfl (by repeat (first | with_reducible exact pick_0 | with_reducible apply pick_s | exact sel_0 | apply sel_s)) (by omega) (by omega) (by omega) (Nat.le_of_ble_eq_true rfl) rfl ?_
      rintro _ _ _ _ ⟨rfl, rfl, rfl, rfl⟩
      dsimp only [List.cons_append, List.nil_append, Option.toList]
      exact j_iret E B rfl 0 0 dX4_keepPlain_30 (by repeat (first | with_reducible exact pick_0 | with_reducible apply pick_s | exact sel_0 | apply sel_s)) leafQ_inl (by omega) (by omega) (by omega) (by omega)
    · exact absurd rfl h5
theorem tb_small : ∀ r : Fin 32, tbK.getD r.val 0 ≤ 4 → tblL.getD r.val 0 = 0 ∧ tblF.getD r.val 0 ≤ 8 := by decide +kernel
theorem lead_small {bs : List UInt8} {i : Nat} (h : (lead bs i).1 ≤ 4) : (lead bs i).2.2.1 ≤ 8 := by
  have h0 := bN_lt bs i
  obtain ⟨k, hh, b, e⟩ : ∃ k hh b, lead0 bs i = (k, hh, b) := ⟨_, _, _, rfl⟩
  by_cases hk : k = 9
  · rw [lead_ext e hk] at h
    have h1 : 9 ≤ typK bs (i + hh) := by
      unfold typK tyK
      repeat' (first | omega | split)
    dsimp only at h
    omega
  · rw [lead_pl e hk] at h ⊢
    dsimp only at h ⊢
    unfold lead0 at e
    split at e
    · rw [Prod.mk.injEq, Prod.mk.injEq] at e
      omega
    split at e
    · rw [Prod.mk.injEq, Prod.mk.injEq] at e
      omega
    split at e
    · rw [Prod.mk.injEq, Prod.mk.injEq] at e
      omega
    split at e
    · rw [Prod.mk.injEq, Prod.mk.injEq] at e
      omega
    · have h1 := tb_small ⟨bN bs i - 192, by omega⟩
      rw [Prod.mk.injEq, Prod.mk.injEq] at e
      obtain ⟨e1, e2, e3⟩ := e
      have h2 := h1 (by rw [← e1] at h; exact h)
      dsimp only at h2
      rw [← e3]
      unfold upBody upLen
      rw [h2.1, if_neg (by omega), if_neg (by omega)]
      exact h2.2
theorem chBad_lt {bs : List UInt8} {t p : Nat} : ∀ {q i : Nat}, chBad bs t q i = some p → p < t
  | 0, i, h => by cases h
  | q + 1, i, h => by
    rw [chBad] at h
    split at h
    · split at h
      · cases h
        omega
      · exact chBad_lt h
    · cases h
theorem nI_m1 {p : Nat} (h : p < 2 ^ 31) : ¬ nI p = -1 := fun e => nI_pos h (by rw [e]; decide)
theorem vsl_back {g : GT} {z : Nat → Nat} {L : List VE} {j : Nat} {e : VE} (h : L[j]? = some e) : ∀ w, sepL [VAL g z e.1 j e.2.1 e.2.2, VSL g z 0 (L.take j), VSL g z (j + 1) (L.drop (j + 1))] w → VSL g z 0 L w := fun w hw => by
  obtain ⟨hj, he⟩ := List.getElem?_eq_some_iff.mp h
  have h1 := vsl_set (L := L) e hj w hw
  have h2 : L.set j e = L := by rw [← he]; exact List.set_getElem_self hj
  rw [h2] at h1
  exact h1
theorem lN_eqB {a b : Nat} (ha : a < 2 ^ 63) (hb : b < 2 ^ 63) : lN a = lN b ↔ a = b := by
  rw [fa_eq64, lN_tiB ha, lN_tiB hb]
  omega
set_option maxHeartbeats 4000000 in
theorem c_rd_row {g : GT} {z : Nat → Nat} (hA : GA g z) (d rd ld gr vl tp np nb cap cap2 i k h b : Nat) (cd pl ty : Int32) (bs : List UInt8) (vs : List VE) (gs : List Nat) (hd : 11 ≤ d) (hk : k ≤ 11) (hv : vs.length ≤ 3000) (hn : nb < 2 ^ 30) (he : i + (h + b) ≤ bs.length) (hb : bs.length ≤ 100000) : CtrV g mX4_readRow 3 d 3 (20008 + b) rd [.ref tp, .ref vl, .int (nI i)] [RDR rd ld gr (i + (h + b)) cd pl, LEA ld k h b ty, ROW g tp bs cap2, VLS g z vl vs np nb cap] (leafQ g z rd ld gr (i + (h + b)) cd pl vl vs np nb cap b [LEA ld k h b ty, ROW g tp bs cap2] (rdRow bs i vs.length np nb gs k h b ty)) noX := by
  refine ⟨rcv_pt, ?_⟩
  have hG := hA.1
  refine ctr_intro hG (by decide +kernel) (Nat.le_of_ble_eq_true rfl) ?_
  rintro X F rfl E B hI T
  replace E : JE X RX4 cX4_readRow 7 d 3 (20008 + b) := E
  show J X _ [RDR rd ld gr (i + (h + b)) cd pl, LEA ld k h b ty, ROW X.1 tp bs cap2, VLS X.1 z vl vs np nb cap, F] 0 0 0 [some (.ref rd), some (.ref tp), some (.ref vl), some (.int (nI i)), none, none, none] []
  refine j_iload_n E 1 dX4_readRow_0 3 rfl rfl rfl ?_
  refine j_aload_n E 2 dX4_readRow_1 0 rfl rfl rfl ?_
  refine j_getf E 5 dX4_readRow_2 fl_X4_12 (by repeat (first | with_reducible exact pick_0 | with_reducible apply pick_s)) (by rfl) rfl ?_
  refine j_getfN E 8 dX4_readRow_5 fl_X4_135 (by repeat (first | with_reducible exact pick_0 | with_reducible apply pick_s)) (by rfl) rfl ?_
  refine j_iadd E 9 dX4_readRow_8 rfl ?_
  refine j_eqi (nI_add i h) ?_
  refine j_istore E 11 dX4_readRow_9 (Nat.le_of_ble_eq_true rfl) rfl rfl ?_
  dsimp only [List.set]
  refine j_aload_n E 12 dX4_readRow_11 0 rfl rfl rfl ?_
  refine j_getf E 15 dX4_readRow_12 fl_X4_12 (by repeat (first | with_reducible exact pick_0 | with_reducible apply pick_s)) (by rfl) rfl ?_
  refine j_getfN E 18 dX4_readRow_15 fl_X4_80 (by repeat (first | with_reducible exact pick_0 | with_reducible apply pick_s)) (by rfl) rfl ?_
  refine j_l2i E 19 dX4_readRow_18 rfl ?_
  rw [lN_i]
  refine j_istore E 21 dX4_readRow_19 (Nat.le_of_ble_eq_true rfl) rfl rfl ?_
  dsimp only [List.set]
  have hcl : (cutB bs (i + h) b).length = b := cutB_len (by omega)
  obtain ⟨wr, hwr⟩ : ∃ wr, wr = (if k = 5 then chBad bs (i + (h + b)) (i + (h + b) - (i + h)) (i + h) else none) := ⟨_, rfl⟩
  rw [rdRow, ← hwr] at B
  have good : wr = none → J X 7 [RDR rd ld gr (i + (h + b)) cd pl, LEA ld k h b ty, ROW X.1 tp bs cap2, VLS X.1 z vl vs np nb cap, F] 0 0 62 [some (.ref rd), some (.ref tp), some (.ref vl), some (.int (nI i)), some (.int (nI (i + h))), some (.int (nI b)), some (.int (-1))] [] := by
    intro ew
    rw [ew] at B
    dsimp only at B
    refine j_aload_n E 63 dX4_readRow_62 2 rfl rfl rfl ?_
    refine j_iload E 65 dX4_readRow_63 rfl rfl ?_
    refine j_callV E (c_vls_takes hG (d-1) vl np nb cap b (by omega) vs (by omega) (by omega)) 68 dX4_readRow_65 _ _ _ iv_X4_103 rfl rfl rfl (by repeat (first | with_reducible exact pick_0 | with_reducible apply pick_s | exact sel_0 | apply sel_s)) (by omega) (by omega) (by omega) (Nat.le_of_ble_eq_true rfl) rfl ?_
    rintro _ _ _ _ ⟨rfl, rfl, rfl, rfl⟩
    dsimp only [List.cons_append, List.nil_append, Option.toList]
    by_cases q : vs.length < 3000 ∧ nb + b ≤ 65536
    · rw [if_pos q]
      rw [rdKeep, if_pos (show vs.length < 3000 ∧ nb + (cutB bs (i + h) b).length ≤ 65536 by rw [hcl]; exact q)] at B
      refine j_if_ne E 79 71 dX4_readRow_68 (by decide) rfl (fun h68 => ?_) (fun h68 => ?_)
      · refine j_aload_n E 80 dX4_readRow_79 2 rfl rfl rfl ?_
        refine j_aload_n E 81 dX4_readRow_80 0 rfl rfl rfl ?_
        refine j_getf E 84 dX4_readRow_81 fl_X4_12 (by repeat (first | with_reducible exact pick_0 | with_reducible apply pick_s)) (by rfl) rfl ?_
        refine j_getfN E 87 dX4_readRow_84 fl_X4_69 (by repeat (first | with_reducible exact pick_0 | with_reducible apply pick_s)) (by rfl) rfl ?_
        refine j_eqi (kI_nI hk) ?_
        refine j_lconst E 0 88 dX4_readRow_87 rfl rfl ?_
        refine j_aload_n E 89 dX4_readRow_88 0 rfl rfl rfl ?_
        refine j_getf E 92 dX4_readRow_89 fl_X4_12 (by repeat (first | with_reducible exact pick_0 | with_reducible apply pick_s)) (by rfl) rfl ?_
        refine j_getfN E 95 dX4_readRow_92 fl_X4_144 (by repeat (first | with_reducible exact pick_0 | with_reducible apply pick_s)) (by rfl) rfl ?_
        refine j_aload_n E 96 dX4_readRow_95 1 rfl rfl rfl ?_
        refine j_iload E 98 dX4_readRow_96 rfl rfl ?_
        refine j_iload E 100 dX4_readRow_98 rfl rfl ?_
        refine j_callV E (c_row_slice hA (d-1) (by omega) tp cap2 (i + h) b bs (by omega)) 103 dX4_readRow_100 _ _ _ iv_X4_147 rfl rfl rfl (by repeat (first | with_reducible exact pick_0 | with_reducible apply pick_s | exact sel_0 | apply sel_s)) (by omega) (by omega) (by omega) (Nat.le_of_ble_eq_true rfl) rfl ?_
        rintro _ ydc yds _ ⟨xq, rfl, rfl, e1, e2, e3⟩
        dsimp only [List.cons_append, List.nil_append, Option.toList]
        refine j_callV E (c_vls_keep hA (d-1) vl np nb cap k xq (by omega) 0 ty (cutB bs (i + h) b) vs (by omega)) 106 dX4_readRow_103 _ _ _ iv_X4_119 rfl rfl rfl (by repeat (first | with_reducible exact pick_0 | with_reducible apply pick_s | exact sel_0 | apply sel_s)) (by omega) (by omega) (by omega) (Nat.le_of_ble_eq_true rfl) rfl ?_
        rintro _ xdc xds _ ⟨xa, xcap, rfl, rfl, f1, f2, f3, f4⟩
        dsimp only [List.cons_append, List.nil_append, Option.toList]
        exact j_iret E B rfl (ydc + xdc) (yds + xds) dX4_readRow_106 (by repeat (first | with_reducible exact pick_0 | with_reducible apply pick_s | exact sel_0 | apply sel_s)) (leafQ_inr (xa := xa) (xcap := xcap) (by omega) (by omega) (by omega) (by omega)) (by omega) (by omega) (by omega) (by omega)
      · exact absurd h68 (by decide)
    · rw [if_neg q]
      rw [rdKeep, if_neg (show ¬ (vs.length < 3000 ∧ nb + (cutB bs (i + h) b).length ≤ 65536) by rw [hcl]; exact q)] at B
      refine j_if_ne E 79 71 dX4_readRow_68 (by decide) rfl (fun h68 => ?_) (fun h68 => ?_)
      · exact absurd rfl h68
      · refine j_aload_n E 72 dX4_readRow_71 0 rfl rfl rfl ?_
        refine j_bipush E (7) 74 dX4_readRow_72 (by decide) rfl ?_
        refine j_iload_n E 75 dX4_readRow_74 3 rfl rfl rfl ?_
        refine j_callV E (c_rd_refuse hG (d-1) rd ld gr (i + (h + b)) cd pl (nI 7) (nI i)) 78 dX4_readRow_75 _ _ _ iv_X4_54 rfl rfl rfl (by repeat (first | with_reducible exact pick_0 | with_reducible apply pick_s | exact sel_0 | apply sel_s)) (by omega) (by omega) (by omega) (Nat.le_of_ble_eq_true rfl) rfl ?_
        rintro _ _ _ _ ⟨rfl, rfl, rfl, rfl⟩
        dsimp only [List.cons_append, List.nil_append, Option.toList]
        exact j_iret E B rfl 0 0 dX4_readRow_78 (by repeat (first | with_reducible exact pick_0 | with_reducible apply pick_s | exact sel_0 | apply sel_s)) leafQ_inl (by omega) (by omega) (by omega) (by omega)
  have bad : ∀ p : Nat, wr = some p → p < 2 ^ 31 → J X 7 [RDR rd ld gr (i + (h + b)) cd pl, LEA ld k h b ty, ROW X.1 tp bs cap2, VLS X.1 z vl vs np nb cap, F] 0 0 48 [some (.ref rd), some (.ref tp), some (.ref vl), some (.int (nI i)), some (.int (nI (i + h))), some (.int (nI b)), some (.int (nI p))] [] := by
    intro p ew hp
    rw [ew] at B
    dsimp only at B
    refine j_iload E 50 dX4_readRow_48 rfl rfl ?_
    refine j_iconst E (-1) 51 dX4_readRow_50 (by decide) rfl ?_
    refine j_icmp_eq E 62 54 dX4_readRow_51 (by decide) rfl (fun h51 => ?_) (fun h51 => ?_)
    · exact absurd h51 (nI_m1 hp)
    · refine j_aload_n E 55 dX4_readRow_54 0 rfl rfl rfl ?_
      refine j_iconst E (3) 56 dX4_readRow_55 (by decide) rfl ?_
      refine j_iload E 58 dX4_readRow_56 rfl rfl ?_
      refine j_callV E (c_rd_refuse hG (d-1) rd ld gr (i + (h + b)) cd pl (nI 3) (nI p)) 61 dX4_readRow_58 _ _ _ iv_X4_54 rfl rfl rfl (by repeat (first | with_reducible exact pick_0 | with_reducible apply pick_s | exact sel_0 | apply sel_s)) (by omega) (by omega) (by omega) (Nat.le_of_ble_eq_true rfl) rfl ?_
      rintro _ _ _ _ ⟨rfl, rfl, rfl, rfl⟩
      dsimp only [List.cons_append, List.nil_append, Option.toList]
      exact j_iret E B rfl 0 0 dX4_readRow_61 (by repeat (first | with_reducible exact pick_0 | with_reducible apply pick_s | exact sel_0 | apply sel_s)) leafQ_inl (by omega) (by omega) (by omega) (by omega)
  have good1 : wr = none → J X 7 [RDR rd ld gr (i + (h + b)) cd pl, LEA ld k h b ty, ROW X.1 tp bs cap2, VLS X.1 z vl vs np nb cap, F] 0 0 48 [some (.ref rd), some (.ref tp), some (.ref vl), some (.int (nI i)), some (.int (nI (i + h))), some (.int (nI b)), some (.int (-1))] [] := by
    intro ew
    refine j_iload E 50 dX4_readRow_48 rfl rfl ?_
    refine j_iconst E (-1) 51 dX4_readRow_50 (by decide) rfl ?_
    refine j_icmp_eq E 62 54 dX4_readRow_51 (by decide) rfl (fun h51 => ?_) (fun h51 => ?_)
    · exact good ew
    · exact absurd rfl h51
  refine j_aload_n E 22 dX4_readRow_21 0 rfl rfl rfl ?_
  refine j_getf E 25 dX4_readRow_22 fl_X4_12 (by repeat (first | with_reducible exact pick_0 | with_reducible apply pick_s)) (by rfl) rfl ?_
  refine j_getfN E 28 dX4_readRow_25 fl_X4_69 (by repeat (first | with_reducible exact pick_0 | with_reducible apply pick_s)) (by rfl) rfl ?_
  refine j_iconst E (5) 29 dX4_readRow_28 (by decide) rfl ?_
  refine j_icmp_ne E 45 32 dX4_readRow_29 (by decide) rfl (fun h29 => ?_) (fun h29 => ?_)
  · have q29 : ¬ k = 5 := fun q => h29 ((kI_eq (by omega) (b := 5) (by decide)).mpr q)
    refine j_iconst E (-1) 46 dX4_readRow_45 (by decide) rfl ?_
    refine j_istore E 48 dX4_readRow_46 (Nat.le_of_ble_eq_true rfl) rfl rfl ?_
    dsimp only [List.set]
    exact good1 (by rw [hwr, if_neg q29])
  · have q29 : k = 5 := (kI_eq (by omega) (b := 5) (by decide)).mp h29
    refine j_aload_n E 33 dX4_readRow_32 1 rfl rfl rfl ?_
    refine j_iload E 35 dX4_readRow_33 rfl rfl ?_
    refine j_aload_n E 36 dX4_readRow_35 0 rfl rfl rfl ?_
    refine j_getf E 39 dX4_readRow_36 fl_X4_38 (by repeat (first | with_reducible exact pick_0 | with_reducible apply pick_s)) (by rfl) rfl ?_
    refine j_callS E (c_ch_wrong hG (d-1) tp cap2 (i + (h + b)) (by omega) bs he hb (i + h) (by omega)) 42 dX4_readRow_39 iv_X4_138 rfl rfl (by repeat (first | with_reducible exact pick_0 | with_reducible apply pick_s | exact sel_0 | apply sel_s)) (by omega) (by omega) (by omega) (Nat.le_of_ble_eq_true rfl) rfl ?_
    rintro _ _ _ _ ⟨rfl, rfl, rfl, rfl⟩
    dsimp only [List.cons_append, List.nil_append, Option.toList]
    have hwr2 : wr = chBad bs (i + (h + b)) (i + (h + b) - (i + h)) (i + h) := by rw [hwr, if_pos q29]
    rw [← hwr2]
    rcases hw3 : wr with _ | p
    · dsimp only
      refine j_goto E 46 dX4_readRow_42 (by decide) ?_
      refine j_istore E 48 dX4_readRow_46 (Nat.le_of_ble_eq_true rfl) rfl rfl ?_
      dsimp only [List.set]
      exact j_sel (by repeat (first | with_reducible exact pick_0 | with_reducible apply pick_s | exact sel_0 | apply sel_s)) (good1 hw3)
    · dsimp only
      refine j_goto E 46 dX4_readRow_42 (by decide) ?_
      refine j_istore E 48 dX4_readRow_46 (Nat.le_of_ble_eq_true rfl) rfl rfl ?_
      dsimp only [List.set]
      have hp : p < i + (h + b) := chBad_lt (by rw [← hwr2]; exact hw3)
      exact j_sel (by repeat (first | with_reducible exact pick_0 | with_reducible apply pick_s | exact sel_0 | apply sel_s)) (bad p hw3 (by omega))

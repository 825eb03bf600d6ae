/-! ByteRow: a growing row of bytes -/
/-- the row r holds the bytes bs; its array has cap places -/
def ROW (g : GT) (r : Nat) (bs : List UInt8) (cap : Nat) : Asn := fun w => ∃ x : Nat × (Nat → Int32), (Fit8 x.2 ∧ Lat bs x.2 ∧ bs.length ≤ cap ∧ 64 ≤ cap ∧ cap ≤ 131072) ∧ sepL [pt r (.inr (0, [.ref x.1, .int (nI bs.length)])), pt x.1 (aB g cap x.2)] w
theorem row_open {g : GT} {r : Nat} {bs : List UInt8} {cap : Nat} : ∀ w, ROW g r bs cap w → ∃ x : Nat × (Nat → Int32), (Fit8 x.2 ∧ Lat bs x.2 ∧ bs.length ≤ cap ∧ 64 ≤ cap ∧ cap ≤ 131072) ∧ sepL [pt r (.inr (0, [.ref x.1, .int (nI bs.length)])), pt x.1 (aB g cap x.2)] w := fun _ h => h
theorem row_rcv {g : GT} {r : Nat} {bs : List UInt8} {cap : Nat} {L : List Asn} : Rcv (ROW g r bs cap :: L) r 0 := rcv_0 fun w h => by
  obtain ⟨x, -, w1, w2, hp, h1, -⟩ := h
  have h2 : w1 = [(r, .inr (0, [.ref x.1, .int (nI bs.length)]))] := h1
  refine ⟨[.ref x.1, .int (nI bs.length)], hp.symm.subset (List.mem_append_left _ ?_)⟩
  rw [h2]
  exact List.mem_singleton.mpr rfl
theorem row_close {X : XT} {nL : Nat} {ws ws1 : List Asn} {k n pc : Nat} {lv : List (Option Value)} {st : List Value} {r b cap L : Nat} {f : Nat → Int32} (bs : List UInt8) (hs : Sel ws [pt r (.inr (0, [.ref b, .int (nI L)])), pt b (aB X.1 cap f)] ws1) (hL : bs.length = L) (h1 : Fit8 f) (h2 : Lat bs f) (h3 : bs.length ≤ cap) (h4 : 64 ≤ cap) (h5 : cap ≤ 131072) (kk : J X nL (ROW X.1 r bs cap :: ws1) k n pc lv st) : J X nL ws k n pc lv st :=
  j_close hs (fun w h => ⟨(b, f), ⟨h1, h2, h3, h4, h5⟩, by rw [hL]; exact h⟩) kk
/-- byte i of a number, from the lowest -/
def lowB (v : Int64) (i : Nat) : UInt8 := lo8 (v >>> ((nI (8 * i)).toInt64 &&& 63)).toInt32
/-- the lowest n bytes, the highest first -/
def beB (v : Int64) : Nat → List UInt8
  | 0 => []
  | n + 1 => lowB v n :: beB v n
theorem beB_len (v : Int64) : ∀ n, (beB v n).length = n
  | 0 => rfl
  | n + 1 => by rw [beB, List.length_cons, beB_len v n]
/-- the value of n bytes from a place on -/
def beN (bs : List UInt8) (i : Nat) : Nat → Nat
  | 0 => 0
  | n + 1 => beN bs i n * 256 + (bs.getD (i + n) 0).toNat
theorem beN_lt (bs : List UInt8) (i : Nat) : ∀ n, beN bs i n < 256 ^ n
  | 0 => by show 0 < 1; decide
  | n + 1 => by
    have h := beN_lt bs i n
    have h2 := (bs.getD (i + n) 0).toNat_lt
    rw [beN, Nat.pow_succ]
    omega
theorem getD_take {bs : List UInt8} {n j : Nat} (h : j < n) : (bs.take n).getD j 0 = bs.getD j 0 := by
  rw [List.getD_eq_getElem?_getD, List.getD_eq_getElem?_getD, List.getElem?_take_of_lt h]
set_option maxHeartbeats 4000000 in
theorem c_row_size {g : GT} (hG : GLB g) (d : Nat) (r cap : Nat) (bs : List UInt8) : CtrV g mX0_size 0 d 0 0 r [] [ROW g r bs cap] (fun o dc ds ws' => o = some (.int (nI bs.length)) ∧ dc = 0 ∧ ds = 0 ∧ ws' = [ROW g r bs cap]) noX := by
  refine ⟨row_rcv, ?_⟩
  refine ctr_intro hG (by decide +kernel) (Nat.le_of_ble_eq_true rfl) ?_
  rintro X F rfl E B hI T
  replace E : JE X RX0 cX0_size 1 d 0 0 := E
  show J X _ [ROW X.1 r bs cap, F] 0 0 0 [some (.ref r)] []
  refine j_open (by repeat (first | with_reducible exact pick_0 | with_reducible apply pick_s)) row_open ?_
  rintro ⟨b, f⟩ ⟨h1, h2, h3, h4, h5⟩
  dsimp only [List.cons_append, List.nil_append] at h1 h2 ⊢
  refine j_aload_n E 1 dX0_size_0 0 rfl rfl rfl ?_
  refine j_getf E 4 dX0_size_1 fl_X0_13 (by repeat (first | with_reducible exact pick_0 | with_reducible apply pick_s)) (by rfl) rfl ?_
  refine row_close bs (by repeat (first | with_reducible exact pick_0 | with_reducible apply pick_s | exact sel_0 | apply sel_s)) rfl h1 h2 h3 h4 h5 ?_
  exact j_iret E B rfl 0 0 dX0_size_4 (by repeat (first | with_reducible exact pick_0 | with_reducible apply pick_s | exact sel_0 | apply sel_s)) ⟨rfl, rfl, rfl, rfl⟩ (Nat.le_refl _) (Nat.le_refl _) (Nat.le_refl _) (Nat.le_refl _)
set_option maxHeartbeats 4000000 in
theorem c_row_at {g : GT} (hG : GLB g) (d : Nat) (r cap j : Nat) (bs : List UInt8) (hj : j < bs.length) : CtrV g mX0_at 0 d 0 0 r [.int (nI j)] [ROW g r bs cap] (fun o dc ds ws' => o = some (.int (nI (bs.getD j 0).toNat)) ∧ dc = 0 ∧ ds = 0 ∧ ws' = [ROW g r bs cap]) noX := by
  refine ⟨row_rcv, ?_⟩
  refine ctr_intro hG (by decide +kernel) (Nat.le_of_ble_eq_true rfl) ?_
  rintro X F rfl E B hI T
  replace E : JE X RX0 cX0_at 2 d 0 0 := E
  show J X _ [ROW X.1 r bs cap, F] 0 0 0 [some (.ref r), some (.int (nI j))] []
  refine j_open (by repeat (first | with_reducible exact pick_0 | with_reducible apply pick_s)) row_open ?_
  rintro ⟨b, f⟩ ⟨h1, h2, h3, h4, h5⟩
  dsimp only [List.cons_append, List.nil_append] at h1 h2 ⊢
  refine j_aload_n E 1 dX0_at_0 0 rfl rfl rfl ?_
  refine j_getf E 4 dX0_at_1 fl_X0_7 (by repeat (first | with_reducible exact pick_0 | with_reducible apply pick_s)) (by rfl) rfl ?_
  refine j_iload_n E 5 dX0_at_4 1 rfl rfl rfl ?_
  refine j_bald E 6 dX0_at_5 (by repeat (first | with_reducible exact pick_0 | with_reducible apply pick_s)) (vp_in_nI (by omega) (by omega)) rfl ?_
  refine j_sipush E (255) 9 dX0_at_6 (by decide) rfl ?_
  refine j_iand E 10 dX0_at_9 rfl ?_
  refine j_eqi (y := nI (bs.getD j 0).toNat) (by rw [nI_clamp (by omega), h2 j hj]; exact by8_and _) ?_
  refine row_close bs (by repeat (first | with_reducible exact pick_0 | with_reducible apply pick_s | exact sel_0 | apply sel_s)) rfl h1 h2 h3 h4 h5 ?_
  exact j_iret E B rfl 0 0 dX0_at_10 (by repeat (first | with_reducible exact pick_0 | with_reducible apply pick_s | exact sel_0 | apply sel_s)) ⟨rfl, rfl, rfl, rfl⟩ (Nat.le_refl _) (Nat.le_refl _) (Nat.le_refl _) (Nat.le_refl _)
set_option maxHeartbeats 4000000 in
theorem c_row_cut {g : GT} (hG : GLB g) (d : Nat) (r cap j : Nat) (bs : List UInt8) (hj : j ≤ bs.length) : CtrV g mX0_cut 0 d 0 0 r [.int (nI j)] [ROW g r bs cap] (fun o dc ds ws' => o = none ∧ dc = 0 ∧ ds = 0 ∧ ws' = [ROW g r (bs.take j) cap]) noX := by
  refine ⟨row_rcv, ?_⟩
  refine ctr_intro hG (by decide +kernel) (Nat.le_of_ble_eq_true rfl) ?_
  rintro X F rfl E B hI T
  replace E : JE X RX0 cX0_cut 2 d 0 0 := E
  show J X _ [ROW X.1 r bs cap, F] 0 0 0 [some (.ref r), some (.int (nI j))] []
  refine j_open (by repeat (first | with_reducible exact pick_0 | with_reducible apply pick_s)) row_open ?_
  rintro ⟨b, f⟩ ⟨h1, h2, h3, h4, h5⟩
  dsimp only [List.cons_append, List.nil_append] at h1 h2 ⊢
  refine j_aload_n E 1 dX0_cut_0 0 rfl rfl rfl ?_
  refine j_iload_n E 2 dX0_cut_1 1 rfl rfl rfl ?_
  refine j_putf E 5 dX0_cut_2 fl_X0_13 (by repeat (first | with_reducible exact pick_0 | with_reducible apply pick_s)) rfl rfl (Nat.le_of_ble_eq_true rfl) rfl ?_
  dsimp only [List.set]
  have hl : (bs.take j).length = j := by rw [List.length_take]; omega
  refine row_close (bs.take j) (by repeat (first | with_reducible exact pick_0 | with_reducible apply pick_s | exact sel_0 | apply sel_s)) hl h1 (h2.take j) (by omega) h4 h5 ?_
  exact j_vret E B rfl 0 0 dX0_cut_5 (by repeat (first | with_reducible exact pick_0 | with_reducible apply pick_s | exact sel_0 | apply sel_s)) ⟨rfl, rfl, rfl, rfl⟩ (Nat.le_refl _) (Nat.le_refl _) (Nat.le_refl _) (Nat.le_refl _)
set_option maxHeartbeats 4000000 in
theorem c_row_init {g : GT} (hG : GLB g) (d : Nat) (hd : 1 ≤ d) (r : Nat) : Ctr g mX0_init d 1 64 [.ref r] [pt r (.inr (0, [.null, .int 0]))] (fun o dc ds ws' => o = none ∧ dc = 1 ∧ ds = 64 ∧ ws' = [ROW g r [] 64]) noX := by
  refine ctr_intro hG (by decide +kernel) (Nat.le_of_ble_eq_true rfl) ?_
  rintro X F rfl E B hI T
  replace E : JE X RX0 cX0_init 1 d 1 64 := E
  show J X _ [pt r (.inr (0, [.null, .int 0])), F] 0 0 0 [some (.ref r)] []
  refine j_aload_n E 1 dX0_init_0 0 rfl rfl rfl ?_
  refine j_objI E 4 dX0_init_1 ob_X0 ob_inst ob_code (Nat.le_of_ble_eq_true rfl) hd rfl ?_
  refine j_aload_n E 5 dX0_init_4 0 rfl rfl rfl ?_
  refine j_bipush E (64) 7 dX0_init_5 (by decide) rfl ?_
  refine j_newB E 64 9 dX0_init_7 ac_B (by decide) (by decide) (by omega) (by omega) (by omega) rfl (fun q => ?_)
  refine j_putf E 12 dX0_init_9 fl_X0_7 (by repeat (first | with_reducible exact pick_0 | with_reducible apply pick_s)) rfl rfl (Nat.le_of_ble_eq_true rfl) rfl ?_
  dsimp only [List.set]
  rw [show Value.int 0 = .int (nI 0) from rfl]
  refine row_close (cap := 64) (L := 0) [] (by repeat (first | with_reducible exact pick_0 | with_reducible apply pick_s | exact sel_0 | apply sel_s)) rfl Fit8.z Lat.nil (by decide) (by decide) (by decide) ?_
  exact j_vret E B rfl 1 64 dX0_init_12 (by repeat (first | with_reducible exact pick_0 | with_reducible apply pick_s | exact sel_0 | apply sel_s)) ⟨rfl, rfl, rfl, rfl⟩ (by omega) (by omega) (by omega) (by omega)

theorem x_dec1 (x : Int32) : x + Int32.ofInt (-1) = x - 1 := by
  rw [Int32.sub_eq_add_neg]
  rfl
theorem beB_snoc (v : Int64) : ∀ n, beB v (n + 1) = lowB v n :: beB v n := fun _ => rfl
theorem lat_store {bs : List UInt8} {f : Nat → Int32} {x : Int32} (h : Lat bs f) : Lat (bs ++ [lo8 x]) (upd f bs.length (vp_nar .byte x.toInt8.toInt32)) := by
  have e : vp_nar .byte x.toInt8.toInt32 = by8 (lo8 x) := by
    rw [by8_nar]
    simp [lo8]
  rw [e]
  exact h.push _
theorem fit_store {f : Nat → Int32} {x : Int32} {k : Nat} (h : Fit8 f) : Fit8 (upd f k (vp_nar .byte x.toInt8.toInt32)) := by
  rw [by8_nar]
  exact h.up _ _
set_option maxHeartbeats 4000000 in
/-- append(v, n): the lowest n bytes -/
theorem c_row_append {g : GT} (hG : GLB g) (d : Nat) (hd : 5 ≤ d) (r cap n : Nat) (v : Int64) (bs : List UInt8) (hn : n ≤ 8) (hm : bs.length + n ≤ 65536) : CtrV g mX0_append 0 d 1 131072 r [.long v, .int (nI n)] [ROW g r bs cap] (fun o dc ds ws' => ∃ cap', o = none ∧ ws' = [ROW g r (bs ++ beB v n) cap'] ∧ cap ≤ cap' ∧ 64 * dc + cap ≤ cap' ∧ ds + 2 * cap ≤ 2 * cap' ∧ dc ≤ 1 ∧ ds ≤ 131072) noX := by
  refine ⟨row_rcv, ?_⟩
  refine ctr_intro hG (by decide +kernel) (Nat.le_of_ble_eq_true rfl) ?_
  rintro X F rfl E B hI T
  replace E : JE X RX0 cX0_append 5 d 1 131072 := E
  show J X _ [ROW X.1 r bs cap, F] 0 0 0 [some (.ref r), some (.long v), none, some (.int (nI n)), none] []
  have rest : ∀ (dc ds cap' b : Nat) (f : Nat → Int32), Fit8 f → Lat bs f → bs.length + n ≤ cap' → 64 ≤ cap' → cap' ≤ 131072 → cap ≤ cap' → 64 * dc + cap ≤ cap' → ds + 2 * cap ≤ 2 * cap' → dc ≤ 1 → ds ≤ 131072 → J X 5 [pt r (.inr (0, [.ref b, .int (nI bs.length)])), pt b (aB X.1 cap' f), F] (0 + dc) (0 + ds) 32 [some (.ref r), some (.long v), none, some (.int (nI n)), none] [] := by
    intro dc ds cap' b f h1 h2 g1 h4 h5 g2 g3 g4 g5 g6
    refine j_iload_n E 33 dX0_append_32 3 rfl rfl rfl ?_
    refine j_iconst E (1) 34 dX0_append_33 (by decide) rfl ?_
    refine j_isub E 35 dX0_append_34 rfl ?_
    refine j_istore E 37 dX0_append_35 (Nat.le_of_ble_eq_true rfl) rfl rfl ?_
    dsimp only [List.set]
    have loop : ∀ (i : Nat) (cs : List UInt8) (f : Nat → Int32), i ≤ n → cs ++ beB v i = bs ++ beB v n → Fit8 f → Lat cs f → J X 5 [pt r (.inr (0, [.ref b, .int (nI cs.length)])), pt b (aB X.1 cap' f), F] (0 + dc) (0 + ds) 37 [some (.ref r), some (.long v), none, some (.int (nI n)), some (.int (nI i - 1))] [] := by
      intro i
      induction i with
      | zero =>
        intro cs f _ hcs hf hl
        have hlen := congrArg List.length hcs
        rw [List.length_append, List.length_append, beB_len, beB_len] at hlen
        refine j_iload E 39 dX0_append_37 rfl rfl ?_
        refine j_if_lt E 76 42 dX0_append_39 (by decide) rfl (fun h39 => ?_) (fun h39 => ?_)
        · refine row_close cs (by repeat (first | with_reducible exact pick_0 | with_reducible apply pick_s | exact sel_0 | apply sel_s)) rfl hf hl (by omega) h4 h5 ?_
          have e : cs = bs ++ beB v n := by rw [← hcs, beB, List.append_nil]
          rw [e]
          exact j_vret E B rfl dc ds dX0_append_76 (by repeat (first | with_reducible exact pick_0 | with_reducible apply pick_s | exact sel_0 | apply sel_s)) ⟨cap', rfl, rfl, g2, g3, g4, g5, g6⟩ (by omega) (by omega) (by omega) (by omega)
        · exact absurd (by decide) h39
      | succ i ih =>
        intro cs f hi hcs hf hl
        have hlen := congrArg List.length hcs
        rw [List.length_append, List.length_append, beB_len, beB_len] at hlen
        rw [nI_pred]
        refine j_iload E 39 dX0_append_37 rfl rfl ?_
        refine j_if_lt E 76 42 dX0_append_39 (by decide) rfl (fun h39 => ?_) (fun h39 => ?_)
        · exact absurd h39 (nI_pos (by omega))
        · refine j_aload_n E 43 dX0_append_42 0 rfl rfl rfl ?_
          refine j_getf E 46 dX0_append_43 fl_X0_7 (by repeat (first | with_reducible exact pick_0 | with_reducible apply pick_s)) (by rfl) rfl ?_
          refine j_aload_n E 47 dX0_append_46 0 rfl rfl rfl ?_
          refine j_getf E 50 dX0_append_47 fl_X0_13 (by repeat (first | with_reducible exact pick_0 | with_reducible apply pick_s)) (by rfl) rfl ?_
          refine j_lload_n E 51 dX0_append_50 1 rfl rfl rfl ?_
          refine j_bipush E (8) 53 dX0_append_51 (by decide) rfl ?_
          refine j_iload E 55 dX0_append_53 rfl rfl ?_
          refine j_imul E 56 dX0_append_55 rfl ?_
          refine j_eqi (y := nI (8 * i)) (pk_mul 8 i) ?_
          refine j_lshr E 57 dX0_append_56 rfl ?_
          refine j_l2i E 58 dX0_append_57 rfl ?_
          refine j_i2b E 59 dX0_append_58 rfl ?_
          refine j_bast E 60 dX0_append_59 (by repeat (first | with_reducible exact pick_0 | with_reducible apply pick_s)) (vp_in_nI (by omega) (by omega)) rfl ?_
          refine j_aload_n E 61 dX0_append_60 0 rfl rfl rfl ?_
          refine j_dup E 62 dX0_append_61 rfl rfl ?_
          refine j_getf E 65 dX0_append_62 fl_X0_13 (by repeat (first | with_reducible exact pick_0 | with_reducible apply pick_s)) (by rfl) rfl ?_
          refine j_iconst E (1) 66 dX0_append_65 (by decide) rfl ?_
          refine j_iadd E 67 dX0_append_66 rfl ?_
          refine j_eqi (nI_1 cs.length) ?_
          refine j_putf E 70 dX0_append_67 fl_X0_13 (by repeat (first | with_reducible exact pick_0 | with_reducible apply pick_s)) rfl rfl (Nat.le_of_ble_eq_true rfl) rfl ?_
          dsimp only [List.set]
          refine j_iinc E _ 73 dX0_append_70 rfl rfl (Nat.le_of_ble_eq_true rfl) rfl rfl ?_
          dsimp only [List.set]
          refine j_goto E 37 dX0_append_73 (by decide) ?_
          rw [nI_clamp (by omega), x_dec1]
          have el : (cs ++ [lowB v i]).length = cs.length + 1 := by rw [List.length_append, List.length_singleton]
          have := ih (cs ++ [lowB v i]) _ (by omega) (by rw [List.append_assoc]; exact hcs) (fit_store (x := (v >>> ((nI (8 * i)).toInt64 &&& 63)).toInt32) (k := cs.length) hf) (lat_store hl)
          rw [el] at this
          refine j_sel (by repeat (first | with_reducible exact pick_0 | with_reducible apply pick_s | exact sel_0 | apply sel_s)) this
    exact loop n bs f (Nat.le_refl _) rfl h1 h2
  refine j_open (by repeat (first | with_reducible exact pick_0 | with_reducible apply pick_s)) row_open ?_
  rintro ⟨b, f⟩ ⟨h1, h2, h3, h4, h5⟩
  dsimp only [List.cons_append, List.nil_append] at h1 h2 ⊢
  refine j_aload_n E 1 dX0_append_0 0 rfl rfl rfl ?_
  refine j_getf E 4 dX0_append_1 fl_X0_13 (by repeat (first | with_reducible exact pick_0 | with_reducible apply pick_s)) (by rfl) rfl ?_
  refine j_iload_n E 5 dX0_append_4 3 rfl rfl rfl ?_
  refine j_iadd E 6 dX0_append_5 rfl ?_
  refine j_eqi (nI_add bs.length n) ?_
  refine j_aload_n E 7 dX0_append_6 0 rfl rfl rfl ?_
  refine j_getf E 10 dX0_append_7 fl_X0_7 (by repeat (first | with_reducible exact pick_0 | with_reducible apply pick_s)) (by rfl) rfl ?_
  refine j_alenB E 11 dX0_append_10 (by repeat (first | with_reducible exact pick_0 | with_reducible apply pick_s)) rfl ?_
  refine j_icmp_le E 32 14 dX0_append_11 (by decide) rfl (fun h11 => ?_) (fun h11 => ?_)
  · have h9 : bs.length + n ≤ cap := (nI_leI (by omega) (by omega)).mp h11
    exact rest 0 0 cap b f h1 h2 h9 h4 h5 (Nat.le_refl _) (by omega) (by omega) (by omega) (by omega)
  · have h9 : cap < bs.length + n := Nat.lt_of_not_le fun h => h11 (nI_le h (by omega))
    refine j_aload_n E 15 dX0_append_14 0 rfl rfl rfl ?_
    refine j_aload_n E 16 dX0_append_15 0 rfl rfl rfl ?_
    refine j_getf E 19 dX0_append_16 fl_X0_7 (by repeat (first | with_reducible exact pick_0 | with_reducible apply pick_s)) (by rfl) rfl ?_
    refine j_iconst E (2) 20 dX0_append_19 (by decide) rfl ?_
    refine j_aload_n E 21 dX0_append_20 0 rfl rfl rfl ?_
    refine j_getf E 24 dX0_append_21 fl_X0_7 (by repeat (first | with_reducible exact pick_0 | with_reducible apply pick_s)) (by rfl) rfl ?_
    refine j_alenB E 25 dX0_append_24 (by repeat (first | with_reducible exact pick_0 | with_reducible apply pick_s)) rfl ?_
    refine j_imul E 26 dX0_append_25 rfl ?_
    refine j_eqi (y := nI (2 * cap)) (pk_mul 2 cap) ?_
    refine j_callS E (c_copyOfB hG (d-1) (by omega) b cap (2 * cap) f h1 (by omega) (by omega)) 29 dX0_append_26 iv_X0_17 rfl rfl (by repeat (first | with_reducible exact pick_0 | with_reducible apply pick_s | exact sel_0 | apply sel_s)) (by omega) (by omega) (by omega) (Nat.le_of_ble_eq_true rfl) rfl ?_
    rintro _ dc ds _ ⟨e1, e2, q, f', rfl, rfl, g1, g2⟩
    dsimp only [List.cons_append, List.nil_append, Option.toList]
    refine j_putf E 32 dX0_append_29 fl_X0_7 (by repeat (first | with_reducible exact pick_0 | with_reducible apply pick_s)) rfl rfl (Nat.le_of_ble_eq_true rfl) rfl ?_
    dsimp only [List.set]
    refine j_sel (by repeat (first | with_reducible exact pick_0 | with_reducible apply pick_s | exact sel_0 | apply sel_s)) (rest dc ds (2 * cap) q f' g1 (h2.congr fun j hj => g2 j (by omega)) (by omega) (by omega) (by omega) (by omega) (by omega) (by omega) e1 (by omega))

/-! laws of numbers that the kit gives for pasting (BITS: the family of g_) -/
theorem x_lbv (n : Nat) : (lN n).toBitVec = BitVec.ofNat 64 n := rfl
theorem x_be {bs : List UInt8} {f : Nat → Int32} (h : Lat bs f) (i v : Nat) (hi : i < bs.length) (hv : v < 2 ^ 56) : (lN v <<< ((8 : Int32).toInt64 &&& 63)) ||| (f i &&& 255).toInt64 = lN (v * 256 + (bs.getD i 0).toNat) := by
  have h1 : f i &&& 255 = nI (bs.getD i 0).toNat := by rw [h i hi]; exact by8_and _
  have h2 := (bs.getD i 0).toNat_lt
  rw [h1, nI_l (by omega)]
  have e1 : lN v <<< ((8 : Int32).toInt64 &&& 63) = lN (v * 256) := g_shl (k := 8) (by decide) (by decide) (by decide) (by omega)
  rw [e1]
  exact g_or (k := 8) (by decide) (by omega) (by omega)
set_option maxHeartbeats 4000000 in
/-- bigEndian(i, n) -/
theorem c_row_be {g : GT} (hG : GLB g) (d : Nat) (r cap i n : Nat) (bs : List UInt8) (hn : n ≤ 8) (hi : i + n ≤ bs.length) : CtrV g mX0_bigEndian 0 d 0 0 r [.int (nI i), .int (nI n)] [ROW g r bs cap] (fun o dc ds ws' => o = some (.long (lN (beN bs i n))) ∧ dc = 0 ∧ ds = 0 ∧ ws' = [ROW g r bs cap]) noX := by
  refine ⟨row_rcv, ?_⟩
  refine ctr_intro hG (by decide +kernel) (Nat.le_of_ble_eq_true rfl) ?_
  rintro X F rfl E B hI T
  replace E : JE X RX0 cX0_bigEndian 6 d 0 0 := E
  show J X _ [ROW X.1 r bs cap, F] 0 0 0 [some (.ref r), some (.int (nI i)), some (.int (nI n)), none, none, none] []
  refine j_open (by repeat (first | with_reducible exact pick_0 | with_reducible apply pick_s)) row_open ?_
  rintro ⟨b, f⟩ ⟨h1, h2, h3, h4, h5⟩
  dsimp only [List.cons_append, List.nil_append] at h1 h2 ⊢
  refine j_lconst E 0 1 dX0_bigEndian_0 rfl rfl ?_
  refine j_lstore_n E 2 dX0_bigEndian_1 3 rfl (Nat.le_of_ble_eq_true rfl) rfl rfl ?_
  dsimp only [List.set]
  refine j_iconst E (0) 3 dX0_bigEndian_2 (by decide) rfl ?_
  refine j_istore E 5 dX0_bigEndian_3 (Nat.le_of_ble_eq_true rfl) rfl rfl ?_
  dsimp only [List.set]
  have loop : ∀ (q j : Nat), q + j = n → J X 6 [pt r (.inr (0, [.ref b, .int (nI bs.length)])), pt b (aB X.1 cap f), F] 0 0 5 [some (.ref r), some (.int (nI i)), some (.int (nI n)), some (.long (lN (beN bs i j))), none, some (.int (nI j))] [] := by
    intro q
    induction q with
    | zero =>
      intro j hj
      refine j_iload E 7 dX0_bigEndian_5 rfl rfl ?_
      refine j_iload_n E 8 dX0_bigEndian_7 2 rfl rfl rfl ?_
      refine j_icmp_ge E 37 11 dX0_bigEndian_8 (by decide) rfl (fun h8 => ?_) (fun h8 => ?_)
      · refine j_lload_n E 38 dX0_bigEndian_37 3 rfl rfl rfl ?_
        have e : j = n := by omega
        subst e
        refine row_close bs (by repeat (first | with_reducible exact pick_0 | with_reducible apply pick_s | exact sel_0 | apply sel_s)) rfl h1 h2 h3 h4 h5 ?_
        exact j_lret E B rfl 0 0 dX0_bigEndian_38 (by repeat (first | with_reducible exact pick_0 | with_reducible apply pick_s | exact sel_0 | apply sel_s)) ⟨rfl, rfl, rfl, rfl⟩ (by omega) (by omega) (by omega) (by omega)
      · exact absurd (nI_le (by omega) (by omega)) h8
    | succ q ih =>
      intro j hj
      refine j_iload E 7 dX0_bigEndian_5 rfl rfl ?_
      refine j_iload_n E 8 dX0_bigEndian_7 2 rfl rfl rfl ?_
      refine j_icmp_ge E 37 11 dX0_bigEndian_8 (by decide) rfl (fun h8 => ?_) (fun h8 => ?_)
      · exact absurd h8 (nI_ge (by omega) (by omega))
      · refine j_lload_n E 12 dX0_bigEndian_11 3 rfl rfl rfl ?_
        refine j_bipush E (8) 14 dX0_bigEndian_12 (by decide) rfl ?_
        refine j_lshl E 15 dX0_bigEndian_14 rfl ?_
        refine j_aload_n E 16 dX0_bigEndian_15 0 rfl rfl rfl ?_
        refine j_getf E 19 dX0_bigEndian_16 fl_X0_7 (by repeat (first | with_reducible exact pick_0 | with_reducible apply pick_s)) (by rfl) rfl ?_
        refine j_iload_n E 20 dX0_bigEndian_19 1 rfl rfl rfl ?_
        refine j_iload E 22 dX0_bigEndian_20 rfl rfl ?_
        refine j_iadd E 23 dX0_bigEndian_22 rfl ?_
        refine j_eqi (nI_add i j) ?_
        refine j_bald E 24 dX0_bigEndian_23 (by repeat (first | with_reducible exact pick_0 | with_reducible apply pick_s)) (vp_in_nI (by omega) (by omega)) rfl ?_
        refine j_sipush E (255) 27 dX0_bigEndian_24 (by decide) rfl ?_
        refine j_iand E 28 dX0_bigEndian_27 rfl ?_
        refine j_i2l E 29 dX0_bigEndian_28 rfl ?_
        refine j_lor E 30 dX0_bigEndian_29 rfl ?_
        have hv : beN bs i j < 2 ^ 56 := Nat.lt_of_lt_of_le (beN_lt bs i j) (by
          have : j ≤ 7 := by omega
          exact Nat.le_trans (Nat.pow_le_pow_right (by decide) this) (by decide))
        refine j_eql (y := lN (beN bs i (j + 1))) (by rw [nI_clamp (by omega)]; exact x_be h2 (i + j) _ (by omega) hv) ?_
        refine j_lstore_n E 31 dX0_bigEndian_30 3 rfl (Nat.le_of_ble_eq_true rfl) rfl rfl ?_
        dsimp only [List.set]
        refine j_iinc E _ 34 dX0_bigEndian_31 rfl rfl (Nat.le_of_ble_eq_true rfl) rfl rfl ?_
        dsimp only [List.set]
        refine j_goto E 5 dX0_bigEndian_34 (by decide) ?_
        have := ih (j + 1) (by omega)
        rw [← nI_1] at this
        exact this
  exact loop n 0 (Nat.add_zero n)

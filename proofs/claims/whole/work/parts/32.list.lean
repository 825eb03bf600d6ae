/-! java.util.ArrayList, of values -/
/-- the array of a list: cap places, none of them: the empty one of the start -/
def ARR (g : GT) (z : Nat → Nat) (es cap : Nat) (f : Nat → Option Nat) : Asn := fun w => (cap = 0 ∧ es = z 5 ∧ w = []) ∨ (0 < cap ∧ pt es (aO g cap f) w)
theorem arr_pos {g : GT} {z : Nat → Nat} {es cap : Nat} {f : Nat → Option Nat} (h : 0 < cap) : ∀ w, ARR g z es cap f w → ∃ x : Unit, True ∧ sepL [pt es (aO g cap f)] w := by
  rintro w (⟨h1, -⟩ | ⟨-, h1⟩)
  · omega
  · exact ⟨(), trivial, w, [], by rw [List.append_nil], h1, rfl⟩
theorem arr_of {g : GT} {z : Nat → Nat} {es cap : Nat} {f : Nat → Option Nat} (h : 0 < cap) : ∀ w, sepL [pt es (aO g cap f)] w → ARR g z es cap f w := by
  rintro w ⟨w1, w2, hp, h1, h2⟩
  have h3 : w2 = [] := h2
  subst h3
  rw [List.append_nil] at hp
  have h4 : w1 = [(es, aO g cap f)] := h1
  subst h4
  exact Or.inr ⟨h, List.perm_singleton.mp hp⟩
def LSTp (xs : List Nat) (cap : Nat) (f : Nat → Option Nat) : Prop := xs.length ≤ cap ∧ cap ≤ 20000 ∧ (cap = 0 ∨ 10 ≤ cap) ∧ (∀ j, j < xs.length → f j = some (xs.getD j 0)) ∧ ∀ j, xs.length ≤ j → f j = none
def LSTo (g : GT) (z : Nat → Nat) (a cap len : Nat) (x : Int32 × Nat × (Nat → Option Nat)) : List Asn := [pt a (.inr (8, [.int x.1, .ref x.2.1, .int (nI len)])), ARR g z x.2.1 cap x.2.2]
/-- the list a holds xs, in an array of cap places -/
def LST (g : GT) (z : Nat → Nat) (a : Nat) (xs : List Nat) (cap : Nat) : Asn := fun w => ∃ x : Int32 × Nat × (Nat → Option Nat), LSTp xs cap x.2.2 ∧ sepL (LSTo g z a cap xs.length x) w
theorem lst_open {g : GT} {z : Nat → Nat} {a cap : Nat} {xs : List Nat} : ∀ w, LST g z a xs cap w → ∃ x : Int32 × Nat × (Nat → Option Nat), LSTp xs cap x.2.2 ∧ sepL (LSTo g z a cap xs.length x) w := fun _ h => h
theorem lst_has {g : GT} {z : Nat → Nat} {a cap : Nat} {xs : List Nat} : Has (LST g z a xs cap) a 8 := fun w h => by
  obtain ⟨x, -, w1, w2, hp, h1, -⟩ := h
  have h2 : w1 = [(a, .inr (8, [.int x.1, .ref x.2.1, .int (nI xs.length)]))] := h1
  exact ⟨_, hp.symm.subset (List.mem_append_left _ (by rw [h2]; exact List.mem_singleton.mpr rfl))⟩
theorem lst_rcv {g : GT} {z : Nat → Nat} {a cap : Nat} {xs : List Nat} {L : List Asn} : Rcv (LST g z a xs cap :: L) a 8 := rcv_0 lst_has
theorem lst_close {X : XT} {nL : Nat} {z : Nat → Nat} {ws ws1 : List Asn} {k n pc : Nat} {lv : List (Option Value)} {st : List Value} {a cap L es : Nat} {mo : Int32} {f : Nat → Option Nat} (xs : List Nat) (hs : Sel ws [pt a (.inr (8, [.int mo, .ref es, .int (nI L)])), ARR X.1 z es cap f] ws1) (h : LSTp xs cap f) (hL : xs.length = L) (kk : J X nL (LST X.1 z a xs cap :: ws1) k n pc lv st) : J X nL ws k n pc lv st :=
  j_close hs (fun w hw => ⟨(mo, es, f), h, by rw [hL]; exact hw⟩) kk
set_option maxHeartbeats 4000000 in
theorem c_acoll {g : GT} (hG : GLB g) (d : Nat) (hd : 1 ≤ d) (a : Nat) (fs : List Value) : Ctr g mJxa1e45_init_da8c8 d 0 0 [.ref a] [pt a (.inr (8, fs))] (fun o dc ds ws' => o = none ∧ dc = 0 ∧ ds = 0 ∧ ws' = [pt a (.inr (8, fs))]) noX := by
  refine ctr_intro hG (by decide +kernel) (Nat.le_of_ble_eq_true rfl) ?_
  rintro X F rfl E B hI T
  replace E : JE X RJxa1e45 cJxa1e45_init_da8c8 1 d 0 0 := E
  show J X _ [pt a (.inr (8, fs)), F] 0 0 0 [some (.ref a)] []
  refine j_aload_n E 1 dJxa1e45_init_da8c8_0 0 rfl rfl rfl ?_
  refine j_objI E 4 dJxa1e45_init_da8c8_1 ob_Jxa1e45 ob_inst ob_code (Nat.le_of_ble_eq_true rfl) hd rfl ?_
  exact j_vret E B rfl 0 0 dJxa1e45_init_da8c8_4 (by repeat (first | with_reducible exact pick_0 | with_reducible apply pick_s | exact sel_0 | apply sel_s)) ⟨rfl, rfl, rfl, rfl⟩ (by omega) (by omega) (by omega) (by omega)
set_option maxHeartbeats 4000000 in
theorem c_alist {g : GT} (hG : GLB g) (d : Nat) (hd : 2 ≤ d) (a : Nat) (es len : Value) : Ctr g mJxc12de_init_da8c8 d 0 0 [.ref a] [pt a (.inr (8, [.int 0, es, len]))] (fun o dc ds ws' => o = none ∧ dc = 0 ∧ ds = 0 ∧ ws' = [pt a (.inr (8, [.int 0, es, len]))]) noX := by
  refine ctr_intro hG (by decide +kernel) (Nat.le_of_ble_eq_true rfl) ?_
  rintro X F rfl E B hI T
  replace E : JE X RJxc12de cJxc12de_init_da8c8 1 d 0 0 := E
  show J X _ [pt a (.inr (8, [.int 0, es, len])), F] 0 0 0 [some (.ref a)] []
  refine j_aload_n E 1 dJxc12de_init_da8c8_0 0 rfl rfl rfl ?_
  refine j_callI E (c_acoll hG (d-1) (by omega) a [.int 0, es, len]) 4 dJxc12de_init_da8c8_1 iv_Jxc12de_1 rfl rfl (by repeat (first | with_reducible exact pick_0 | with_reducible apply pick_s | exact sel_0 | apply sel_s)) (by omega) (by omega) (by omega) (Nat.le_of_ble_eq_true rfl) rfl ?_
  rintro _ _ _ _ ⟨rfl, rfl, rfl, rfl⟩
  dsimp only [List.cons_append, List.nil_append, Option.toList]
  refine j_aload_n E 5 dJxc12de_init_da8c8_4 0 rfl rfl rfl ?_
  refine j_iconst E (0) 6 dJxc12de_init_da8c8_5 (by decide) rfl ?_
  refine j_putf E 9 dJxc12de_init_da8c8_6 fl_Jxc12de_7 (by repeat (first | with_reducible exact pick_0 | with_reducible apply pick_s)) rfl rfl (Nat.le_of_ble_eq_true rfl) rfl ?_
  dsimp only [List.set]
  exact j_vret E B rfl 0 0 dJxc12de_init_da8c8_9 (by repeat (first | with_reducible exact pick_0 | with_reducible apply pick_s | exact sel_0 | apply sel_s)) ⟨rfl, rfl, rfl, rfl⟩ (by omega) (by omega) (by omega) (by omega)
set_option maxHeartbeats 4000000 in
theorem c_lst_init {g : GT} {z : Nat → Nat} (hA : GA g z) (d : Nat) (hd : 3 ≤ d) (a : Nat) : Ctr g mJx4a65c_init_da8c8 d 0 0 [.ref a] [pt a (.inr (8, [.int 0, .null, .int 0]))] (fun o dc ds ws' => o = none ∧ dc = 0 ∧ ds = 0 ∧ ws' = [LST g z a [] 0]) noX := by
  have hG := hA.1
  refine ctr_intro hG (by decide +kernel) (Nat.le_of_ble_eq_true rfl) ?_
  rintro X F rfl E B hI T
  replace E : JE X RJx4a65c cJx4a65c_init_da8c8 1 d 0 0 := E
  show J X _ [pt a (.inr (8, [.int 0, .null, .int 0])), F] 0 0 0 [some (.ref a)] []
  refine j_aload_n E 1 dJx4a65c_init_da8c8_0 0 rfl rfl rfl ?_
  refine j_callI E (c_alist hG (d-1) (by omega) a .null (.int 0)) 4 dJx4a65c_init_da8c8_1 iv_Jx4a65c_1 rfl rfl (by repeat (first | with_reducible exact pick_0 | with_reducible apply pick_s | exact sel_0 | apply sel_s)) (by omega) (by omega) (by omega) (Nat.le_of_ble_eq_true rfl) rfl ?_
  rintro _ _ _ _ ⟨rfl, rfl, rfl, rfl⟩
  dsimp only [List.cons_append, List.nil_append, Option.toList]
  refine j_aload_n E 5 dJx4a65c_init_da8c8_4 0 rfl rfl rfl ?_
  refine j_gets E 8 dJx4a65c_init_da8c8_5 hA.2.2.2.2.2.2.2.1.1 gs_Jx4a65c_39 rfl ?_
  refine j_putf E 11 dJx4a65c_init_da8c8_8 fl_Jx4a65c_9 (by repeat (first | with_reducible exact pick_0 | with_reducible apply pick_s)) rfl rfl (Nat.le_of_ble_eq_true rfl) rfl ?_
  dsimp only [List.set]
  rw [show Value.int 0 = .int (nI 0) from rfl]
  refine j_close (P := LST X.1 z a [] 0) (qs := [pt a (.inr (8, [.int (nI 0), .ref (z 5), .int (nI 0)]))]) (by repeat (first | with_reducible exact pick_0 | with_reducible apply pick_s | exact sel_0 | apply sel_s)) (fun w h => ?_) ?_
  · obtain ⟨w1, w2, hp, h1, h2⟩ := h
    refine ⟨(nI 0, z 5, fun _ => none), ⟨Nat.le_refl _, by decide, Or.inl rfl, fun j hj => absurd hj (Nat.not_lt_zero _), fun _ _ => rfl⟩, w1, w2, hp, h1, ?_⟩
    have h3 : w2 = [] := h2
    subst h3
    exact ⟨[], [], by exact List.Perm.refl _, Or.inl ⟨rfl, rfl, rfl⟩, rfl⟩
  · exact j_vret E B rfl 0 0 dJx4a65c_init_da8c8_11 (by repeat (first | with_reducible exact pick_0 | with_reducible apply pick_s | exact sel_0 | apply sel_s)) ⟨rfl, rfl, rfl, rfl⟩ (by omega) (by omega) (by omega) (by omega)
set_option maxHeartbeats 4000000 in
theorem c_lst_size {g : GT} (hG : GLB g) (z : Nat → Nat) (d a cap : Nat) (xs : List Nat) : CtrV g mJx4a65c_size_8abf5 8 d 0 0 a [] [LST g z a xs cap] (fun o dc ds ws' => o = some (.int (nI xs.length)) ∧ dc = 0 ∧ ds = 0 ∧ ws' = [LST g z a xs cap]) noX := by
  refine ⟨lst_rcv, ?_⟩
  refine ctr_intro hG (by decide +kernel) (Nat.le_of_ble_eq_true rfl) ?_
  rintro X F rfl E B hI T
  replace E : JE X RJx4a65c cJx4a65c_size_8abf5 1 d 0 0 := E
  show J X _ [LST X.1 z a xs cap, F] 0 0 0 [some (.ref a)] []
  refine j_open (by repeat (first | with_reducible exact pick_0 | with_reducible apply pick_s)) lst_open ?_
  rintro ⟨mo, es, xf⟩ hx
  dsimp only [LSTo, List.cons_append, List.nil_append] at hx ⊢
  refine j_aload_n E 1 dJx4a65c_size_8abf5_0 0 rfl rfl rfl ?_
  refine j_getf E 4 dJx4a65c_size_8abf5_1 fl_Jx4a65c_48 (by repeat (first | with_reducible exact pick_0 | with_reducible apply pick_s)) (by rfl) rfl ?_
  refine lst_close xs (by repeat (first | with_reducible exact pick_0 | with_reducible apply pick_s | exact sel_0 | apply sel_s)) hx rfl ?_
  exact j_iret E B rfl 0 0 dJx4a65c_size_8abf5_4 (by repeat (first | with_reducible exact pick_0 | with_reducible apply pick_s | exact sel_0 | apply sel_s)) ⟨rfl, rfl, rfl, rfl⟩ (by omega) (by omega) (by omega) (by omega)
set_option maxHeartbeats 4000000 in
theorem c_pre_index {g : GT} (hG : GLB g) (d i n : Nat) (hi : i < n) (hn : n < 2 ^ 31) : Ctr g mJ3_checkIndex_8e157 d 0 0 [.int (nI i), .int (nI n), .null] [] (fun o dc ds ws' => o = some (.int (nI i)) ∧ dc = 0 ∧ ds = 0 ∧ ws' = []) noX := by
  refine ctr_intro hG (by decide +kernel) (Nat.le_of_ble_eq_true rfl) ?_
  rintro X F rfl E B hI T
  replace E : JE X RJ3 cJ3_checkIndex_8e157 3 d 0 0 := E
  show J X _ [F] 0 0 0 [some (.int (nI i)), some (.int (nI n)), some .null] []
  refine j_iload_n E 1 dJ3_checkIndex_8e157_0 0 rfl rfl rfl ?_
  refine j_if_lt E 9 4 dJ3_checkIndex_8e157_1 (by decide) rfl (fun h1 => ?_) (fun h1 => ?_)
  · exact absurd h1 (nI_pos (by omega))
  · refine j_iload_n E 5 dJ3_checkIndex_8e157_4 0 rfl rfl rfl ?_
    refine j_iload_n E 6 dJ3_checkIndex_8e157_5 1 rfl rfl rfl ?_
    refine j_icmp_lt E 16 9 dJ3_checkIndex_8e157_6 (by decide) rfl (fun h6 => ?_) (fun h6 => ?_)
    · refine j_iload_n E 17 dJ3_checkIndex_8e157_16 0 rfl rfl rfl ?_
      exact j_iret E B rfl 0 0 dJ3_checkIndex_8e157_17 (by repeat (first | with_reducible exact pick_0 | with_reducible apply pick_s | exact sel_0 | apply sel_s)) ⟨rfl, rfl, rfl, rfl⟩ (by omega) (by omega) (by omega) (by omega)
    · exact absurd (nI_lt hi hn) h6
set_option maxHeartbeats 4000000 in
theorem c_obj_index {g : GT} (hG : GLB g) (d i n : Nat) (hd : 1 ≤ d) (hi : i < n) (hn : n < 2 ^ 31) : Ctr g mJ15_checkIndex_7cf53 d 0 0 [.int (nI i), .int (nI n)] [] (fun o dc ds ws' => o = some (.int (nI i)) ∧ dc = 0 ∧ ds = 0 ∧ ws' = []) noX := by
  refine ctr_intro hG (by decide +kernel) (Nat.le_of_ble_eq_true rfl) ?_
  rintro X F rfl E B hI T
  replace E : JE X RJ15 cJ15_checkIndex_7cf53 2 d 0 0 := E
  show J X _ [F] 0 0 0 [some (.int (nI i)), some (.int (nI n))] []
  refine j_iload_n E 1 dJ15_checkIndex_7cf53_0 0 rfl rfl rfl ?_
  refine j_iload_n E 2 dJ15_checkIndex_7cf53_1 1 rfl rfl rfl ?_
  refine j_null E 3 dJ15_checkIndex_7cf53_2 rfl ?_
  refine j_callS E (c_pre_index hG (d-1) i n hi hn) 6 dJ15_checkIndex_7cf53_3 iv_J15_105 rfl rfl (by repeat (first | with_reducible exact pick_0 | with_reducible apply pick_s | exact sel_0 | apply sel_s)) (by omega) (by omega) (by omega) (Nat.le_of_ble_eq_true rfl) rfl ?_
  rintro _ _ _ _ ⟨rfl, rfl, rfl, rfl⟩
  dsimp only [List.cons_append, List.nil_append, Option.toList]
  exact j_iret E B rfl 0 0 dJ15_checkIndex_7cf53_6 (by repeat (first | with_reducible exact pick_0 | with_reducible apply pick_s | exact sel_0 | apply sel_s)) ⟨rfl, rfl, rfl, rfl⟩ (by omega) (by omega) (by omega) (by omega)
set_option maxHeartbeats 4000000 in
theorem c_lst_ed {g : GT} (hG : GLB g) (z : Nat → Nat) (d a cap j : Nat) (xs : List Nat) (hj : j < xs.length) : CtrV g mJx4a65c_elementData_915e3 8 d 0 0 a [.int (nI j)] [LST g z a xs cap] (fun o dc ds ws' => o = some (.ref (xs.getD j 0)) ∧ dc = 0 ∧ ds = 0 ∧ ws' = [LST g z a xs cap]) noX := by
  refine ⟨lst_rcv, ?_⟩
  refine ctr_intro hG (by decide +kernel) (Nat.le_of_ble_eq_true rfl) ?_
  rintro X F rfl E B hI T
  replace E : JE X RJx4a65c cJx4a65c_elementData_915e3 2 d 0 0 := E
  show J X _ [LST X.1 z a xs cap, F] 0 0 0 [some (.ref a), some (.int (nI j))] []
  refine j_open (by repeat (first | with_reducible exact pick_0 | with_reducible apply pick_s)) lst_open ?_
  rintro ⟨mo, es, xf⟩ hx
  dsimp only [LSTo, List.cons_append, List.nil_append] at hx ⊢
  have hc : 0 < cap := by have := hx.1; omega
  have hcb : cap ≤ 20000 := hx.2.1
  refine j_open (by repeat (first | with_reducible exact pick_0 | with_reducible apply pick_s)) (arr_pos hc) ?_
  rintro _ -
  dsimp only [List.cons_append, List.nil_append]
  refine j_aload_n E 1 dJx4a65c_elementData_915e3_0 0 rfl rfl rfl ?_
  refine j_getf E 4 dJx4a65c_elementData_915e3_1 fl_Jx4a65c_9 (by repeat (first | with_reducible exact pick_0 | with_reducible apply pick_s)) (by rfl) rfl ?_
  refine j_iload_n E 5 dJx4a65c_elementData_915e3_4 1 rfl rfl rfl ?_
  refine j_aald E 6 dJx4a65c_elementData_915e3_5 (by repeat (first | with_reducible exact pick_0 | with_reducible apply pick_s)) (vp_in_nI (by have := hx.1; omega) (by omega)) rfl ?_
  refine j_eqv (y := .ref (xs.getD j 0)) (by rw [nI_clamp (by have := hx.1; omega), hx.2.2.2.1 j hj]; rfl) ?_
  refine j_close (by repeat (first | with_reducible exact pick_0 | with_reducible apply pick_s | exact sel_0 | apply sel_s)) (arr_of (z := z) hc) ?_
  refine lst_close xs (by repeat (first | with_reducible exact pick_0 | with_reducible apply pick_s | exact sel_0 | apply sel_s)) hx rfl ?_
  exact j_aret E B rfl (Or.inl ⟨_, rfl⟩) (Or.inr ⟨_, rfl⟩) 0 0 dJx4a65c_elementData_915e3_6 (by repeat (first | with_reducible exact pick_0 | with_reducible apply pick_s | exact sel_0 | apply sel_s)) ⟨rfl, rfl, rfl, rfl⟩ (by omega) (by omega) (by omega) (by omega)
set_option maxHeartbeats 4000000 in
/-- get(j) -/
theorem c_lst_get {g : GT} (hG : GLB g) (z : Nat → Nat) (d a cap j : Nat) (xs : List Nat) (hd : 2 ≤ d) (hj : j < xs.length) (hx9 : xs.length < 2 ^ 31) : CtrV g mJx4a65c_get_915e3 8 d 0 0 a [.int (nI j)] [LST g z a xs cap] (fun o dc ds ws' => o = some (.ref (xs.getD j 0)) ∧ dc = 0 ∧ ds = 0 ∧ ws' = [LST g z a xs cap]) noX := by
  refine ⟨lst_rcv, ?_⟩
  refine ctr_intro hG (by decide +kernel) (Nat.le_of_ble_eq_true rfl) ?_
  rintro X F rfl E B hI T
  replace E : JE X RJx4a65c cJx4a65c_get_915e3 2 d 0 0 := E
  show J X _ [LST X.1 z a xs cap, F] 0 0 0 [some (.ref a), some (.int (nI j))] []
  refine j_open (by repeat (first | with_reducible exact pick_0 | with_reducible apply pick_s)) lst_open ?_
  rintro ⟨mo, es, xf⟩ hx
  dsimp only [LSTo, List.cons_append, List.nil_append] at hx ⊢
  refine j_iload_n E 1 dJx4a65c_get_915e3_0 1 rfl rfl rfl ?_
  refine j_aload_n E 2 dJx4a65c_get_915e3_1 0 rfl rfl rfl ?_
  refine j_getf E 5 dJx4a65c_get_915e3_2 fl_Jx4a65c_48 (by repeat (first | with_reducible exact pick_0 | with_reducible apply pick_s)) (by rfl) rfl ?_
  refine j_callS E (c_obj_index hG (d-1) j xs.length (by omega) hj hx9) 8 dJx4a65c_get_915e3_5 iv_Jx4a65c_118 rfl rfl (by repeat (first | with_reducible exact pick_0 | with_reducible apply pick_s | exact sel_0 | apply sel_s)) (by omega) (by omega) (by omega) (Nat.le_of_ble_eq_true rfl) rfl ?_
  rintro _ _ _ _ ⟨rfl, rfl, rfl, rfl⟩
  dsimp only [List.cons_append, List.nil_append, Option.toList]
  refine j_pop E 9 dJx4a65c_get_915e3_8 rfl rfl ?_
  refine lst_close xs (by repeat (first | with_reducible exact pick_0 | with_reducible apply pick_s | exact sel_0 | apply sel_s)) hx rfl ?_
  refine j_aload_n E 10 dJx4a65c_get_915e3_9 0 rfl rfl rfl ?_
  refine j_iload_n E 11 dJx4a65c_get_915e3_10 1 rfl rfl rfl ?_
  refine j_callV E (c_lst_ed hG z (d-1) a cap j xs hj) 14 dJx4a65c_get_915e3_11 _ _ _ iv_Jx4a65c_123 rfl rfl rfl (by repeat (first | with_reducible exact pick_0 | with_reducible apply pick_s | exact sel_0 | apply sel_s)) (by omega) (by omega) (by omega) (Nat.le_of_ble_eq_true rfl) rfl ?_
  rintro _ _ _ _ ⟨rfl, rfl, rfl, rfl⟩
  dsimp only [List.cons_append, List.nil_append, Option.toList]
  exact j_aret E B rfl (Or.inl ⟨_, rfl⟩) (Or.inr ⟨_, rfl⟩) 0 0 dJx4a65c_get_915e3_14 (by repeat (first | with_reducible exact pick_0 | with_reducible apply pick_s | exact sel_0 | apply sel_s)) ⟨rfl, rfl, rfl, rfl⟩ (by omega) (by omega) (by omega) (by omega)

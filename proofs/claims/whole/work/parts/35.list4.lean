/-! ArrayList: remove of the last, clear -/
theorem lstp_pop {ys : List Nat} {cap v : Nat} {f : Nat → Option Nat} (h : LSTp (ys ++ [v]) cap f) : LSTp ys cap (va_up f ys.length none) := by
  obtain ⟨h1, h2, h3, h4, h5⟩ := h
  rw [List.length_append, List.length_singleton] at h1 h4 h5
  refine ⟨by omega, h2, h3, fun j hj => ?_, fun j hj => ?_⟩
  · rw [va_up_ne _ _ (by omega), h4 j (by omega)]
    simp [List.getD_eq_getElem?_getD, List.getElem?_append_left hj]
  · by_cases e : j = ys.length
    · subst e
      rw [va_up_self]
    · rw [va_up_ne _ _ e]
      exact h5 j (by omega)
theorem lstp_last {ys : List Nat} {cap v : Nat} {f : Nat → Option Nat} (h : LSTp (ys ++ [v]) cap f) : f ys.length = some v := by
  have e := h.2.2.2.1 ys.length (by rw [List.length_append]; exact Nat.lt_succ_self _)
  rw [e]
  simp [List.getD_eq_getElem?_getD]
set_option maxHeartbeats 4000000 in
theorem c_lst_fast {g : GT} {z : Nat → Nat} (hA : GA g z) (d : Nat) (a es cap L : Nat) (mo : Int32) (f : Nat → Option Nat) (hL : L < cap) (hcb : cap ≤ 20000) : CtrV g mJx4a65c_fastRemove_b59b0 8 d 0 0 a [.ref es, .int (nI L)] [pt a (.inr (8, [.int mo, .ref es, .int (nI (L + 1))])), pt es (aO g cap f)] (fun o dc ds ws' => o = none ∧ dc = 0 ∧ ds = 0 ∧ ws' = [pt a (.inr (8, [.int (mo + 1), .ref es, .int (nI L)])), pt es (aO g cap (va_up f L none))]) noX := by
  refine ⟨rcv_pt, ?_⟩
  have hG := hA.1
  refine ctr_intro hG (by decide +kernel) (Nat.le_of_ble_eq_true rfl) ?_
  rintro X F rfl E B hI T
  replace E : JE X RJx4a65c cJx4a65c_fastRemove_b59b0 4 d 0 0 := E
  show J X _ [pt a (.inr (8, [.int mo, .ref es, .int (nI (L + 1))])), pt es (aO X.1 cap f), F] 0 0 0 [some (.ref a), some (.ref es), some (.int (nI L)), none] []
  refine j_aload_n E 1 dJx4a65c_fastRemove_b59b0_0 0 rfl rfl rfl ?_
  refine j_dup E 2 dJx4a65c_fastRemove_b59b0_1 rfl rfl ?_
  refine j_getf E 5 dJx4a65c_fastRemove_b59b0_2 fl_Jx4a65c_63 (by repeat (first | with_reducible exact pick_0 | with_reducible apply pick_s)) (by rfl) rfl ?_
  refine j_iconst E (1) 6 dJx4a65c_fastRemove_b59b0_5 (by decide) rfl ?_
  refine j_iadd E 7 dJx4a65c_fastRemove_b59b0_6 rfl ?_
  refine j_putf E 10 dJx4a65c_fastRemove_b59b0_7 fl_Jx4a65c_63 (by repeat (first | with_reducible exact pick_0 | with_reducible apply pick_s)) rfl rfl (Nat.le_of_ble_eq_true rfl) rfl ?_
  dsimp only [List.set]
  refine j_aload_n E 11 dJx4a65c_fastRemove_b59b0_10 0 rfl rfl rfl ?_
  refine j_getf E 14 dJx4a65c_fastRemove_b59b0_11 fl_Jx4a65c_48 (by repeat (first | with_reducible exact pick_0 | with_reducible apply pick_s)) (by rfl) rfl ?_
  refine j_iconst E (1) 15 dJx4a65c_fastRemove_b59b0_14 (by decide) rfl ?_
  refine j_isub E 16 dJx4a65c_fastRemove_b59b0_15 rfl ?_
  refine j_eqi (nI_pred L) ?_
  refine j_dup E 17 dJx4a65c_fastRemove_b59b0_16 rfl rfl ?_
  refine j_istore_n E 18 dJx4a65c_fastRemove_b59b0_17 3 rfl (Nat.le_of_ble_eq_true rfl) rfl rfl ?_
  dsimp only [List.set]
  refine j_iload_n E 19 dJx4a65c_fastRemove_b59b0_18 2 rfl rfl rfl ?_
  refine j_icmp_le E 34 22 dJx4a65c_fastRemove_b59b0_19 (by decide) rfl (fun h19 => ?_) (fun h19 => ?_)
  · refine j_aload_n E 35 dJx4a65c_fastRemove_b59b0_34 1 rfl rfl rfl ?_
    refine j_aload_n E 36 dJx4a65c_fastRemove_b59b0_35 0 rfl rfl rfl ?_
    refine j_iload_n E 37 dJx4a65c_fastRemove_b59b0_36 3 rfl rfl rfl ?_
    refine j_dup_x1 E 38 dJx4a65c_fastRemove_b59b0_37 rfl rfl rfl ?_
    refine j_putf E 41 dJx4a65c_fastRemove_b59b0_38 fl_Jx4a65c_48 (by repeat (first | with_reducible exact pick_0 | with_reducible apply pick_s)) rfl rfl (Nat.le_of_ble_eq_true rfl) rfl ?_
    dsimp only [List.set]
    refine j_null E 42 dJx4a65c_fastRemove_b59b0_41 rfl ?_
    refine j_aastN E 43 dJx4a65c_fastRemove_b59b0_42 (by repeat (first | with_reducible exact pick_0 | with_reducible apply pick_s)) (vp_in_nI hL (by omega)) rfl ?_
    rw [nI_clamp (by omega)]
    exact j_vret E B rfl 0 0 dJx4a65c_fastRemove_b59b0_43 (by repeat (first | with_reducible exact pick_0 | with_reducible apply pick_s | exact sel_0 | apply sel_s)) ⟨rfl, rfl, rfl, rfl⟩ (by omega) (by omega) (by omega) (by omega)
  · exact absurd (nI_le (Nat.le_refl _) (by omega)) h19
set_option maxHeartbeats 4000000 in
/-- remove of the last -/
theorem c_lst_pop {g : GT} {z : Nat → Nat} (hA : GA g z) (d : Nat) (hd : 3 ≤ d) (a cap L v : Nat) (ys : List Nat) (hL : L = ys.length) : CtrV g mJx4a65c_remove_915e3 8 d 0 0 a [.int (nI L)] [LST g z a (ys ++ [v]) cap] (fun o dc ds ws' => o = some (.ref v) ∧ dc = 0 ∧ ds = 0 ∧ ws' = [LST g z a ys cap]) noX := by
  refine ⟨lst_rcv, ?_⟩
  have hG := hA.1
  refine ctr_intro hG (by decide +kernel) (Nat.le_of_ble_eq_true rfl) ?_
  rintro X F rfl E B hI T
  replace E : JE X RJx4a65c cJx4a65c_remove_915e3 4 d 0 0 := E
  show J X _ [LST X.1 z a (ys ++ [v]) cap, F] 0 0 0 [some (.ref a), some (.int (nI L)), none, none] []
  refine j_open (by repeat (first | with_reducible exact pick_0 | with_reducible apply pick_s)) lst_open ?_
  rintro ⟨mo, es, xf⟩ hx
  have hyl : (ys ++ [v]).length = L + 1 := by rw [List.length_append, hL]; rfl
  rw [hyl]
  dsimp only [LSTo, List.cons_append, List.nil_append] at hx ⊢
  have hlc : L < cap := by have := hx.1; omega
  have hcb : cap ≤ 20000 := hx.2.1
  refine j_open (by repeat (first | with_reducible exact pick_0 | with_reducible apply pick_s)) (arr_pos (by omega)) ?_
  rintro _ -
  dsimp only [List.cons_append, List.nil_append]
  refine j_iload_n E 1 dJx4a65c_remove_915e3_0 1 rfl rfl rfl ?_
  refine j_aload_n E 2 dJx4a65c_remove_915e3_1 0 rfl rfl rfl ?_
  refine j_getf E 5 dJx4a65c_remove_915e3_2 fl_Jx4a65c_48 (by repeat (first | with_reducible exact pick_0 | with_reducible apply pick_s)) (by rfl) rfl ?_
  refine j_callS E (c_obj_index hG (d-1) L (L + 1) (by omega) (by omega) (by omega)) 8 dJx4a65c_remove_915e3_5 iv_Jx4a65c_118 rfl rfl (by repeat (first | with_reducible exact pick_0 | with_reducible apply pick_s | exact sel_0 | apply sel_s)) (by omega) (by omega) (by omega) (Nat.le_of_ble_eq_true rfl) rfl ?_
  rintro _ _ _ _ ⟨rfl, rfl, rfl, rfl⟩
  dsimp only [List.cons_append, List.nil_append, Option.toList]
  refine j_pop E 9 dJx4a65c_remove_915e3_8 rfl rfl ?_
  refine j_aload_n E 10 dJx4a65c_remove_915e3_9 0 rfl rfl rfl ?_
  refine j_getf E 13 dJx4a65c_remove_915e3_10 fl_Jx4a65c_9 (by repeat (first | with_reducible exact pick_0 | with_reducible apply pick_s)) (by rfl) rfl ?_
  refine j_astore_n E 14 dJx4a65c_remove_915e3_13 2 rfl (Nat.le_of_ble_eq_true rfl) rfl rfl ?_
  dsimp only [List.set]
  refine j_aload_n E 15 dJx4a65c_remove_915e3_14 2 rfl rfl rfl ?_
  refine j_iload_n E 16 dJx4a65c_remove_915e3_15 1 rfl rfl rfl ?_
  refine j_aald E 17 dJx4a65c_remove_915e3_16 (by repeat (first | with_reducible exact pick_0 | with_reducible apply pick_s)) (vp_in_nI (by omega) (by omega)) rfl ?_
  refine j_eqv (y := .ref v) (by rw [nI_clamp (by omega), hL, lstp_last hx]; rfl) ?_
  refine j_astore_n E 18 dJx4a65c_remove_915e3_17 3 rfl (Nat.le_of_ble_eq_true rfl) rfl rfl ?_
  dsimp only [List.set]
  refine j_aload_n E 19 dJx4a65c_remove_915e3_18 0 rfl rfl rfl ?_
  refine j_aload_n E 20 dJx4a65c_remove_915e3_19 2 rfl rfl rfl ?_
  refine j_iload_n E 21 dJx4a65c_remove_915e3_20 1 rfl rfl rfl ?_
  refine j_callV E (c_lst_fast hA (d-1) a es cap L mo xf hlc hcb) 24 dJx4a65c_remove_915e3_21 _ _ _ iv_Jx4a65c_144 rfl rfl rfl (by repeat (first | with_reducible exact pick_0 | with_reducible apply pick_s | exact sel_0 | apply sel_s)) (by omega) (by omega) (by omega) (Nat.le_of_ble_eq_true rfl) rfl ?_
  rintro _ _ _ _ ⟨rfl, rfl, rfl, rfl⟩
  dsimp only [List.cons_append, List.nil_append, Option.toList]
  refine j_aload_n E 25 dJx4a65c_remove_915e3_24 3 rfl rfl rfl ?_
  refine j_close (by repeat (first | with_reducible exact pick_0 | with_reducible apply pick_s | exact sel_0 | apply sel_s)) (arr_of (z := z) (by omega)) ?_
  refine lst_close ys (by repeat (first | with_reducible exact pick_0 | with_reducible apply pick_s | exact sel_0 | apply sel_s)) (by rw [hL]; exact lstp_pop hx) hL.symm ?_
  exact j_aret E B rfl (by first | exact Or.inl ⟨_, rfl⟩ | exact Or.inr ⟨_, rfl⟩) (by first | exact Or.inr ⟨_, rfl⟩ | exact Or.inl rfl) 0 0 dJx4a65c_remove_915e3_25 (by repeat (first | with_reducible exact pick_0 | with_reducible apply pick_s | exact sel_0 | apply sel_s)) ⟨rfl, rfl, rfl, rfl⟩ (by omega) (by omega) (by omega) (by omega)
set_option maxHeartbeats 4000000 in
/-- clear() -/
theorem c_lst_clear {g : GT} {z : Nat → Nat} (hA : GA g z) (d a cap : Nat) (xs : List Nat) : CtrV g mJx4a65c_clear_da8c8 8 d 0 0 a [] [LST g z a xs cap] (fun o dc ds ws' => o = none ∧ dc = 0 ∧ ds = 0 ∧ ws' = [LST g z a [] cap]) noX := by
  refine ⟨lst_rcv, ?_⟩
  have hG := hA.1
  refine ctr_intro hG (by decide +kernel) (Nat.le_of_ble_eq_true rfl) ?_
  rintro X F rfl E B hI T
  replace E : JE X RJx4a65c cJx4a65c_clear_da8c8 4 d 0 0 := E
  show J X _ [LST X.1 z a xs cap, F] 0 0 0 [some (.ref a), none, none, none] []
  refine j_open (by repeat (first | with_reducible exact pick_0 | with_reducible apply pick_s)) lst_open ?_
  rintro ⟨mo, es, xf⟩ hx
  dsimp only [LSTo, List.cons_append, List.nil_append] at hx ⊢
  have hlc : xs.length ≤ cap := hx.1
  have hcb : cap ≤ 20000 := hx.2.1
  refine j_aload_n E 1 dJx4a65c_clear_da8c8_0 0 rfl rfl rfl ?_
  refine j_dup E 2 dJx4a65c_clear_da8c8_1 rfl rfl ?_
  refine j_getf E 5 dJx4a65c_clear_da8c8_2 fl_Jx4a65c_63 (by repeat (first | with_reducible exact pick_0 | with_reducible apply pick_s)) (by rfl) rfl ?_
  refine j_iconst E (1) 6 dJx4a65c_clear_da8c8_5 (by decide) rfl ?_
  refine j_iadd E 7 dJx4a65c_clear_da8c8_6 rfl ?_
  refine j_putf E 10 dJx4a65c_clear_da8c8_7 fl_Jx4a65c_63 (by repeat (first | with_reducible exact pick_0 | with_reducible apply pick_s)) rfl rfl (Nat.le_of_ble_eq_true rfl) rfl ?_
  dsimp only [List.set]
  refine j_aload_n E 11 dJx4a65c_clear_da8c8_10 0 rfl rfl rfl ?_
  refine j_getf E 14 dJx4a65c_clear_da8c8_11 fl_Jx4a65c_9 (by repeat (first | with_reducible exact pick_0 | with_reducible apply pick_s)) (by rfl) rfl ?_
  refine j_astore_n E 15 dJx4a65c_clear_da8c8_14 1 rfl (Nat.le_of_ble_eq_true rfl) rfl rfl ?_
  dsimp only [List.set]
  refine j_aload_n E 16 dJx4a65c_clear_da8c8_15 0 rfl rfl rfl ?_
  refine j_getf E 19 dJx4a65c_clear_da8c8_16 fl_Jx4a65c_48 (by repeat (first | with_reducible exact pick_0 | with_reducible apply pick_s)) (by rfl) rfl ?_
  refine j_istore_n E 20 dJx4a65c_clear_da8c8_19 2 rfl (Nat.le_of_ble_eq_true rfl) rfl rfl ?_
  dsimp only [List.set]
  refine j_aload_n E 21 dJx4a65c_clear_da8c8_20 0 rfl rfl rfl ?_
  refine j_iconst E (0) 22 dJx4a65c_clear_da8c8_21 (by decide) rfl ?_
  refine j_dup_x1 E 23 dJx4a65c_clear_da8c8_22 rfl rfl rfl ?_
  refine j_putf E 26 dJx4a65c_clear_da8c8_23 fl_Jx4a65c_48 (by repeat (first | with_reducible exact pick_0 | with_reducible apply pick_s)) rfl rfl (Nat.le_of_ble_eq_true rfl) rfl ?_
  dsimp only [List.set]
  refine j_istore_n E 27 dJx4a65c_clear_da8c8_26 3 rfl (Nat.le_of_ble_eq_true rfl) rfl rfl ?_
  dsimp only [List.set]
  rw [show (0 : Int32) = nI 0 from rfl]
  have loop : ∀ (q i : Nat) (f : Nat → Option Nat), i + q = xs.length → (∀ j, j < i → f j = none) → (∀ j, xs.length ≤ j → f j = none) → J X 4 [pt a (.inr (8, [.int (mo + 1), .ref es, .int (nI 0)])), ARR X.1 z es cap f, F] 0 0 27 [some (.ref a), some (.ref es), some (.int (nI xs.length)), some (.int (nI i))] [] := by
    intro q
    induction q with
    | zero =>
      intro i f hi hf hf2
      refine j_iload_n E 28 dJx4a65c_clear_da8c8_27 3 rfl rfl rfl ?_
      refine j_iload_n E 29 dJx4a65c_clear_da8c8_28 2 rfl rfl rfl ?_
      refine j_icmp_ge E 42 32 dJx4a65c_clear_da8c8_29 (by decide) rfl (fun h29 => ?_) (fun h29 => ?_)
      · refine lst_close (z := z) (es := es) (f := f) (cap := cap) (L := 0) (mo := mo + 1) [] (by repeat (first | with_reducible exact pick_0 | with_reducible apply pick_s | exact sel_0 | apply sel_s)) ⟨by exact Nat.zero_le _, hcb, hx.2.2.1, fun j hj => absurd hj (Nat.not_lt_zero _), fun j _ => ?_⟩ rfl ?_
        · rcases Nat.lt_or_ge j i with e | e
          · exact hf j e
          · exact hf2 j (by omega)
        · exact j_vret E B rfl 0 0 dJx4a65c_clear_da8c8_42 (by repeat (first | with_reducible exact pick_0 | with_reducible apply pick_s | exact sel_0 | apply sel_s)) ⟨rfl, rfl, rfl, rfl⟩ (by omega) (by omega) (by omega) (by omega)
      · exact absurd (nI_le (by omega) (by omega)) h29
    | succ q ih =>
      intro i f hi hf hf2
      refine j_iload_n E 28 dJx4a65c_clear_da8c8_27 3 rfl rfl rfl ?_
      refine j_iload_n E 29 dJx4a65c_clear_da8c8_28 2 rfl rfl rfl ?_
      refine j_icmp_ge E 42 32 dJx4a65c_clear_da8c8_29 (by decide) rfl (fun h29 => ?_) (fun h29 => ?_)
      · exact absurd h29 (nI_ge (by omega) (by omega))
      · refine j_open (by repeat (first | with_reducible exact pick_0 | with_reducible apply pick_s)) (arr_pos (by omega)) ?_
        rintro _ -
        dsimp only [List.cons_append, List.nil_append]
        refine j_aload_n E 33 dJx4a65c_clear_da8c8_32 1 rfl rfl rfl ?_
        refine j_iload_n E 34 dJx4a65c_clear_da8c8_33 3 rfl rfl rfl ?_
        refine j_null E 35 dJx4a65c_clear_da8c8_34 rfl ?_
        refine j_aastN E 36 dJx4a65c_clear_da8c8_35 (by repeat (first | with_reducible exact pick_0 | with_reducible apply pick_s)) (vp_in_nI (show i < cap by omega) (by omega)) rfl ?_
        rw [nI_clamp (by omega)]
        refine j_close (by repeat (first | with_reducible exact pick_0 | with_reducible apply pick_s | exact sel_0 | apply sel_s)) (arr_of (z := z) (by omega)) ?_
        refine j_iinc E _ 39 dJx4a65c_clear_da8c8_36 rfl rfl (Nat.le_of_ble_eq_true rfl) rfl rfl ?_
        dsimp only [List.set]
        refine j_goto E 27 dJx4a65c_clear_da8c8_39 (by decide) ?_
        have := ih (i + 1) (va_up f i none) (by omega) (fun j hj => ?_) (fun j hj => ?_)
        · rw [← nI_1] at this
          exact j_sel (by repeat (first | with_reducible exact pick_0 | with_reducible apply pick_s | exact sel_0 | apply sel_s)) this
        · by_cases e : j = i
          · rw [e, va_up_self]
          · rw [va_up_ne _ _ e]
            exact hf j (by omega)
        · rw [va_up_ne _ _ (by omega)]
          exact hf2 j hj
  exact j_sel (by repeat (first | with_reducible exact pick_0 | with_reducible apply pick_s | exact sel_0 | apply sel_s)) (loop xs.length 0 xf (Nat.zero_add _) (fun j hj => absurd hj (Nat.not_lt_zero _)) hx.2.2.2.2)

/-! Arrays.copyOf of bytes, ints; copyOfRange -/
set_option maxHeartbeats 4000000 in
theorem c_copyOfB {g : GT} (hG : GLB g) (d : Nat) (hd : 3 ≤ d) (a N M : Nat) (f : Nat → Int32) (hf : Fit8 f) (hNM : N < M) (hM : M ≤ 400000) : Ctr g mJ7_copyOf_9075b d 1 M [.ref a, .int (nI M)] [pt a (aB g N f)] (fun r dc ds ws' => dc ≤ 1 ∧ ds ≤ M ∧ ∃ q f', r = some (.ref q) ∧ ws' = [pt q (aB g M f'), pt a (aB g N f)] ∧ Fit8 f' ∧ ∀ j, j < N → f' j = f j) noX := by
  refine ctr_intro hG (by decide +kernel) (Nat.le_of_ble_eq_true rfl) ?_
  rintro X F rfl E B hI T
  show J X _ [pt a (aB X.1 N f), F] 0 0 0 [some (.ref a), some (.int (nI M)), none] []
  refine j_iload_n E 1 dJ7_copyOf_9075b_0 1 rfl rfl rfl ?_
  refine j_aload_n E 2 dJ7_copyOf_9075b_1 0 rfl rfl rfl ?_
  refine j_alenB E 3 dJ7_copyOf_9075b_2 (by repeat (first | with_reducible exact pick_0 | with_reducible apply pick_s)) rfl ?_
  refine j_icmp_ne E 14 6 dJ7_copyOf_9075b_3 (by decide) rfl (fun h3 => ?_) (fun h3 => ?_)
  · refine j_iload_n E 15 dJ7_copyOf_9075b_14 1 rfl rfl rfl ?_
    refine j_newB E M 17 dJ7_copyOf_9075b_15 ac_B (nI_pos (by omega)) (nI_clamp (by omega)) (by omega) (by omega) (by omega) rfl (fun q => ?_)
    refine j_astore_n E 18 dJ7_copyOf_9075b_17 2 rfl (Nat.le_of_ble_eq_true rfl) rfl rfl ?_
    dsimp only [List.set]
    refine j_aload_n E 19 dJ7_copyOf_9075b_18 0 rfl rfl rfl ?_
    refine j_iconst E (0) 20 dJ7_copyOf_9075b_19 (by decide) rfl ?_
    refine j_aload_n E 21 dJ7_copyOf_9075b_20 2 rfl rfl rfl ?_
    refine j_iconst E (0) 22 dJ7_copyOf_9075b_21 (by decide) rfl ?_
    refine j_aload_n E 23 dJ7_copyOf_9075b_22 0 rfl rfl rfl ?_
    refine j_alenB E 24 dJ7_copyOf_9075b_23 (by repeat (first | with_reducible exact pick_0 | with_reducible apply pick_s)) rfl ?_
    refine j_iload_n E 25 dJ7_copyOf_9075b_24 1 rfl rfl rfl ?_
    refine j_mmin E 28 dJ7_copyOf_9075b_25 mn_J7 (by omega) (Nat.le_of_ble_eq_true rfl) (by omega) (by omega) rfl ?_
    refine j_eqi (y := nI N) (if_neg (nI_nlt (by omega) (by omega))) ?_
    refine j_copyB E 31 dJ7_copyOf_9075b_28 cp_J7 (by repeat (first | with_reducible exact pick_0 | with_reducible apply pick_s)) (by repeat (first | with_reducible exact pick_0 | with_reducible apply pick_s)) (by decide) (by decide) (nI_pos (by omega)) (by rw [nI_clamp (by omega)]; exact Nat.le_of_eq (Nat.zero_add _)) (by rw [nI_clamp (by omega)]; exact Nat.le_trans (Nat.le_of_eq (Nat.zero_add _)) (by omega)) (fun i _ => hf _) (by omega) (Nat.le_of_ble_eq_true rfl) rfl ?_
    refine j_aload_n E 32 dJ7_copyOf_9075b_31 2 rfl rfl rfl ?_
    exact j_aret E B rfl (Or.inr ⟨_, rfl⟩) (Or.inr ⟨_, rfl⟩) 1 M dJ7_copyOf_9075b_32 (by repeat (first | with_reducible exact pick_0 | with_reducible apply pick_s | exact sel_0 | apply sel_s)) ⟨Nat.le_refl _, Nat.le_refl _, q, _, rfl, rfl, hf.cpy Fit8.z _ _ _, fun j hj => by rw [nI_clamp (by omega)]; exact sb_cpy0 hj⟩ (by omega) (by omega) (by omega) (by omega)
  · exact absurd ((nI_eq (by omega) (by omega)).mp h3) (by omega)
set_option maxHeartbeats 4000000 in
theorem c_copyOfI {g : GT} (hG : GLB g) (d : Nat) (hd : 3 ≤ d) (a N M : Nat) (f : Nat → Int32) (hNM : N < M) (hM : M ≤ 400000) : Ctr g mJ7_copyOf_59c91 d 1 M [.ref a, .int (nI M)] [pt a (aI g N f)] (fun r dc ds ws' => dc ≤ 1 ∧ ds ≤ M ∧ ∃ q f', r = some (.ref q) ∧ ws' = [pt q (aI g M f'), pt a (aI g N f)] ∧ ∀ j, j < N → f' j = f j) noX := by
  refine ctr_intro hG (by decide +kernel) (Nat.le_of_ble_eq_true rfl) ?_
  rintro X F rfl E B hI T
  show J X _ [pt a (aI X.1 N f), F] 0 0 0 [some (.ref a), some (.int (nI M)), none] []
  refine j_iload_n E 1 dJ7_copyOf_59c91_0 1 rfl rfl rfl ?_
  refine j_aload_n E 2 dJ7_copyOf_59c91_1 0 rfl rfl rfl ?_
  refine j_alenI E 3 dJ7_copyOf_59c91_2 (by repeat (first | with_reducible exact pick_0 | with_reducible apply pick_s)) rfl ?_
  refine j_icmp_ne E 14 6 dJ7_copyOf_59c91_3 (by decide) rfl (fun h3 => ?_) (fun h3 => ?_)
  · refine j_iload_n E 15 dJ7_copyOf_59c91_14 1 rfl rfl rfl ?_
    refine j_newI E M 17 dJ7_copyOf_59c91_15 ac_I (nI_pos (by omega)) (nI_clamp (by omega)) (by omega) (by omega) (by omega) rfl (fun q => ?_)
    refine j_astore_n E 18 dJ7_copyOf_59c91_17 2 rfl (Nat.le_of_ble_eq_true rfl) rfl rfl ?_
    dsimp only [List.set]
    refine j_aload_n E 19 dJ7_copyOf_59c91_18 0 rfl rfl rfl ?_
    refine j_iconst E (0) 20 dJ7_copyOf_59c91_19 (by decide) rfl ?_
    refine j_aload_n E 21 dJ7_copyOf_59c91_20 2 rfl rfl rfl ?_
    refine j_iconst E (0) 22 dJ7_copyOf_59c91_21 (by decide) rfl ?_
    refine j_aload_n E 23 dJ7_copyOf_59c91_22 0 rfl rfl rfl ?_
    refine j_alenI E 24 dJ7_copyOf_59c91_23 (by repeat (first | with_reducible exact pick_0 | with_reducible apply pick_s)) rfl ?_
    refine j_iload_n E 25 dJ7_copyOf_59c91_24 1 rfl rfl rfl ?_
    refine j_mmin E 28 dJ7_copyOf_59c91_25 mn_J7 (by omega) (Nat.le_of_ble_eq_true rfl) (by omega) (by omega) rfl ?_
    refine j_eqi (y := nI N) (if_neg (nI_nlt (by omega) (by omega))) ?_
    refine j_copyI E 31 dJ7_copyOf_59c91_28 cp_J7 (by repeat (first | with_reducible exact pick_0 | with_reducible apply pick_s)) (by repeat (first | with_reducible exact pick_0 | with_reducible apply pick_s)) (by decide) (by decide) (nI_pos (by omega)) (by rw [nI_clamp (by omega)]; exact Nat.le_of_eq (Nat.zero_add _)) (by rw [nI_clamp (by omega)]; exact Nat.le_trans (Nat.le_of_eq (Nat.zero_add _)) (by omega)) (by omega) (Nat.le_of_ble_eq_true rfl) rfl ?_
    refine j_aload_n E 32 dJ7_copyOf_59c91_31 2 rfl rfl rfl ?_
    exact j_aret E B rfl (Or.inr ⟨_, rfl⟩) (Or.inr ⟨_, rfl⟩) 1 M dJ7_copyOf_59c91_32 (by repeat (first | with_reducible exact pick_0 | with_reducible apply pick_s | exact sel_0 | apply sel_s)) ⟨Nat.le_refl _, Nat.le_refl _, q, _, rfl, rfl, fun j hj => by rw [nI_clamp (by omega)]; exact sb_cpy0 hj⟩ (by omega) (by omega) (by omega) (by omega)
  · exact absurd ((nI_eq (by omega) (by omega)).mp h3) (by omega)

theorem n_max {a b : Nat} (ha : a < 2 ^ 31) (hb : b < 2 ^ 31) : ∃ c, (if nI a < nI b then nI b else nI a) = nI c ∧ a ≤ c ∧ b ≤ c ∧ (c = a ∨ c = b) := by
  by_cases h : a < b
  · exact ⟨b, if_pos (nI_lt h hb), by omega, by omega, by omega⟩
  · exact ⟨a, if_neg (nI_nlt (by omega) ha), by omega, by omega, by omega⟩

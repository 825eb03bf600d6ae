/-! ArrayList: growing, add, remove, clear -/
theorem lar_zero {g : GT} {z : Nat → Nat} {es : Nat} {f : Nat → Option Nat} : ∀ w, ARR g z es 0 f w → ∃ _x : Unit, es = z 5 ∧ sepL [] w := by
  rintro w (⟨-, hq1, hq2⟩ | ⟨hq1, -⟩)
  · exact ⟨(), hq1, hq2⟩
  · omega
theorem cpy_0 {α : Type} {f g : Nat → α} {n j : Nat} (h : j < n) : va_cpy f g 0 0 n j = f j := (pk_cpy_in (Nat.zero_le _) (by omega)).trans (by rw [Nat.zero_add, Nat.sub_zero])
theorem n_max2 {a b : Nat} (ha : a < 2 ^ 31) (hb : b < 2 ^ 31) : (if nI a < nI b then nI b else nI a) = nI (if a < b then b else a) := by
  by_cases h : a < b
  · rw [if_pos h, if_pos (nI_lt h hb)]
  · rw [if_neg h, if_neg (nI_nlt (by omega) ha)]
set_option maxHeartbeats 4000000 in
theorem c_newLen {g : GT} (hG : GLB g) (d old mi pr : Nat) (hd : 2 ≤ d) (h1 : 0 < old + mi) (h2 : old < 1000000) (h3 : mi < 1000000) (h4 : pr < 1000000) : Ctr g mJ8_newLength_cabcc d 0 0 [.int (nI old), .int (nI mi), .int (nI pr)] [] (fun o dc ds ws' => o = some (.int (nI (old + (if mi < pr then pr else mi)))) ∧ dc = 0 ∧ ds = 0 ∧ ws' = []) noX := by
  refine ctr_intro hG (by decide +kernel) (Nat.le_of_ble_eq_true rfl) ?_
  rintro X F rfl E B hI T
  replace E : JE X RJ8 cJ8_newLength_cabcc 4 d 0 0 := E
  show J X _ [F] 0 0 0 [some (.int (nI old)), some (.int (nI mi)), some (.int (nI pr)), none] []
  refine j_iload_n E 1 dJ8_newLength_cabcc_0 0 rfl rfl rfl ?_
  refine j_iload_n E 2 dJ8_newLength_cabcc_1 1 rfl rfl rfl ?_
  refine j_iload_n E 3 dJ8_newLength_cabcc_2 2 rfl rfl rfl ?_
  refine j_mmax E 6 dJ8_newLength_cabcc_3 mx_J8 (by omega) (Nat.le_of_ble_eq_true rfl) (by omega) (by omega) rfl ?_
  refine j_eqi (n_max2 (by omega) (by omega)) ?_
  obtain ⟨xm, hxm⟩ : ∃ xm, xm = (if mi < pr then pr else mi) := ⟨_, rfl⟩
  have hxm1 : mi ≤ xm ∧ xm < 1000000 := by rw [hxm]; split <;> omega
  rw [← hxm]
  refine j_iadd E 7 dJ8_newLength_cabcc_6 rfl ?_
  refine j_eqi (nI_add old xm) ?_
  refine j_istore_n E 8 dJ8_newLength_cabcc_7 3 rfl (Nat.le_of_ble_eq_true rfl) rfl rfl ?_
  dsimp only [List.set]
  refine j_iconst E (0) 9 dJ8_newLength_cabcc_8 (by decide) rfl ?_
  refine j_iload_n E 10 dJ8_newLength_cabcc_9 3 rfl rfl rfl ?_
  refine j_icmp_ge E 21 13 dJ8_newLength_cabcc_10 (by decide) rfl (fun h10 => ?_) (fun h10 => ?_)
  · exact absurd (show nI (old + xm) ≤ nI 0 from h10) (nI_ge (by omega) (by omega))
  · refine j_iload_n E 14 dJ8_newLength_cabcc_13 3 rfl rfl rfl ?_
    refine j_ldcI E _ 16 dJ8_newLength_cabcc_14 kc_J8_200 rfl ?_
    refine j_icmp_gt E 21 19 dJ8_newLength_cabcc_16 (by decide) rfl (fun h16 => ?_) (fun h16 => ?_)
    · exact absurd (show nI 2147483639 < nI (old + xm) from h16) (nI_nlt (by omega) (by omega))
    · refine j_iload_n E 20 dJ8_newLength_cabcc_19 3 rfl rfl rfl ?_
      exact j_iret E B rfl 0 0 dJ8_newLength_cabcc_20 (by repeat (first | with_reducible exact pick_0 | with_reducible apply pick_s | exact sel_0 | apply sel_s)) ⟨by rw [hxm], rfl, rfl, rfl⟩ (by omega) (by omega) (by omega) (by omega)
set_option maxHeartbeats 4000000 in
theorem c_copyO3 {g : GT} {z : Nat → Nat} (hA : GA g z) (d : Nat) (hd : 3 ≤ d) (a N M : Nat) (f : Nat → Option Nat) (P : Asn) (hP : ∀ i, i < N → ∀ y, f i = some y → Has P y 4) (hNM : N ≤ M) (hM : M ≤ 20000) : Ctr g mJ7_copyOf_6403c d 1 M [.ref a, .int (nI M), .ref (z 6)] [pt a (aO g N f), P] (fun o dc ds ws' => ∃ xq xf, o = some (.ref xq) ∧ dc ≤ 1 ∧ ds ≤ M ∧ ws' = [pt xq (aO g M xf), pt a (aO g N f), P] ∧ (∀ j, j < N → xf j = f j) ∧ ∀ j, N ≤ j → xf j = none) noX := by
  have hG := hA.1
  refine ctr_intro hG (by decide +kernel) (Nat.le_of_ble_eq_true rfl) ?_
  rintro X F rfl E B hI T
  replace E : JE X RJ7 cJ7_copyOf_6403c 4 d 1 M := E
  show J X _ [pt a (aO X.1 N f), P, F] 0 0 0 [some (.ref a), some (.int (nI M)), some (.ref (z 6)), none] []
  refine j_aload_n E 1 dJ7_copyOf_6403c_0 2 rfl rfl rfl ?_
  refine j_ldcM E 3 dJ7_copyOf_6403c_1 ck_OO hA.2.2.2.2.2.2.2.2 rfl ?_
  refine j_acmp_ne (rx := some (z 6)) (ry := some (z 6)) E 13 6 dJ7_copyOf_6403c_3 (by decide) rfl (fun h3 => absurd rfl h3) (fun h3 => ?_)
  refine j_iload_n E 7 dJ7_copyOf_6403c_6 1 rfl rfl rfl ?_
  refine j_newO E M 10 dJ7_copyOf_6403c_7 ck_O ao_O (nI_pos (by omega)) (nI_clamp (by omega)) (by omega) (by omega) (by omega) rfl (fun xq => ?_)
  refine j_goto E 24 dJ7_copyOf_6403c_10 (by decide) ?_
  refine j_astore_n E 25 dJ7_copyOf_6403c_24 3 rfl (Nat.le_of_ble_eq_true rfl) rfl rfl ?_
  dsimp only [List.set]
  refine j_aload_n E 26 dJ7_copyOf_6403c_25 0 rfl rfl rfl ?_
  refine j_iconst E (0) 27 dJ7_copyOf_6403c_26 (by decide) rfl ?_
  refine j_aload_n E 28 dJ7_copyOf_6403c_27 3 rfl rfl rfl ?_
  refine j_iconst E (0) 29 dJ7_copyOf_6403c_28 (by decide) rfl ?_
  refine j_aload_n E 30 dJ7_copyOf_6403c_29 0 rfl rfl rfl ?_
  refine j_alenO E 31 dJ7_copyOf_6403c_30 (by repeat (first | with_reducible exact pick_0 | with_reducible apply pick_s)) rfl ?_
  refine j_iload_n E 32 dJ7_copyOf_6403c_31 1 rfl rfl rfl ?_
  refine j_mmin E 35 dJ7_copyOf_6403c_32 mn_J7 (by omega) (Nat.le_of_ble_eq_true rfl) (by omega) (by omega) rfl ?_
  refine j_eqi (y := nI N) (if_neg (nI_nlt (by omega) (by omega))) ?_
  refine j_copyO E 38 dJ7_copyOf_6403c_35 cp_J7 (by repeat (first | with_reducible exact pick_0 | with_reducible apply pick_s)) (by repeat (first | with_reducible exact pick_0 | with_reducible apply pick_s)) (by decide) (by decide) (nI_pos (by omega)) (by rw [nI_clamp (by omega)]; exact Nat.le_of_eq (Nat.zero_add _)) (by rw [nI_clamp (by omega)]; exact Nat.le_trans (Nat.le_of_eq (Nat.zero_add _)) (by omega)) (fun i hi y hy => has_rcv (P := P) (by repeat (first | with_reducible exact pick_0 | with_reducible apply pick_s)) (hP i (by rw [nI_clamp (by omega)] at hi; exact hi) y (by rw [← hy]; congr 1; exact (Nat.zero_add _).symm))) (by omega) (Nat.le_of_ble_eq_true rfl) rfl ?_
  refine j_aload_n E 39 dJ7_copyOf_6403c_38 3 rfl rfl rfl ?_
  exact j_aret E B rfl (Or.inr ⟨_, rfl⟩) (Or.inr ⟨_, rfl⟩) 1 M dJ7_copyOf_6403c_39 (by repeat (first | with_reducible exact pick_0 | with_reducible apply pick_s | exact sel_0 | apply sel_s)) ⟨xq, _, rfl, Nat.le_refl _, Nat.le_refl _, rfl, fun j hj => by rw [nI_clamp (by omega)]; exact cpy_0 hj, fun j hj => by rw [nI_clamp (by omega)]; exact pk_cpy_out (Or.inr (by show 0 + N ≤ j; omega))⟩ (by omega) (by omega) (by omega) (by omega)
set_option maxHeartbeats 4000000 in
theorem c_copyO2 {g : GT} {z : Nat → Nat} (hA : GA g z) (d : Nat) (hd : 4 ≤ d) (a N M : Nat) (f : Nat → Option Nat) (P : Asn) (hP : ∀ i, i < N → ∀ y, f i = some y → Has P y 4) (hNM : N ≤ M) (hM : M ≤ 20000) : Ctr g mJ7_copyOf_1904c d 1 M [.ref a, .int (nI M)] [pt a (aO g N f), P] (fun o dc ds ws' => ∃ xq xf, o = some (.ref xq) ∧ dc ≤ 1 ∧ ds ≤ M ∧ ws' = [pt xq (aO g M xf), pt a (aO g N f), P] ∧ (∀ j, j < N → xf j = f j) ∧ ∀ j, N ≤ j → xf j = none) noX := by
  have hG := hA.1
  refine ctr_intro hG (by decide +kernel) (Nat.le_of_ble_eq_true rfl) ?_
  rintro X F rfl E B hI T
  replace E : JE X RJ7 cJ7_copyOf_1904c 2 d 1 M := E
  show J X _ [pt a (aO X.1 N f), P, F] 0 0 0 [some (.ref a), some (.int (nI M))] []
  refine j_aload_n E 1 dJ7_copyOf_1904c_0 0 rfl rfl rfl ?_
  refine j_iload_n E 2 dJ7_copyOf_1904c_1 1 rfl rfl rfl ?_
  refine j_aload_n E 3 dJ7_copyOf_1904c_2 0 rfl rfl rfl ?_
  refine j_getC E 6 dJ7_copyOf_1904c_3 hA.2.2.2.2.2.2.2.2 (by repeat (first | with_reducible exact pick_0 | with_reducible apply pick_s)) (by omega) (Nat.le_of_ble_eq_true rfl) rfl ?_
  refine j_callS E (c_copyO3 hA (d-1) (by omega) a N M f P hP hNM hM) 9 dJ7_copyOf_1904c_6 iv_J7_300 rfl rfl (by repeat (first | with_reducible exact pick_0 | with_reducible apply pick_s | exact sel_0 | apply sel_s)) (by omega) (by omega) (by omega) (Nat.le_of_ble_eq_true rfl) rfl ?_
  rintro _ xdc xds _ ⟨xq, xf, rfl, e1, e2, rfl, e3, e4⟩
  dsimp only [List.cons_append, List.nil_append, Option.toList]
  exact j_aret E B rfl (Or.inr ⟨_, rfl⟩) (Or.inr ⟨_, rfl⟩) 1 M dJ7_copyOf_1904c_9 (by repeat (first | with_reducible exact pick_0 | with_reducible apply pick_s | exact sel_0 | apply sel_s)) ⟨xq, xf, rfl, Nat.le_refl _, Nat.le_refl _, rfl, e3, e4⟩ (by omega) (by omega) (by omega) (by omega)

set_option maxHeartbeats 4000000 in
/-- grow(len + 1) of a full list -/
theorem c_lst_grow1 {g : GT} {z : Nat → Nat} (hA : GA g z) (d : Nat) (hd : 6 ≤ d) (a es len : Nat) (mo : Int32) (f : Nat → Option Nat) (P : Asn) (hP : ∀ i, i < len → ∀ y, f i = some y → Has P y 4) (hl : len = 0 ∨ 10 ≤ len) (hl2 : len ≤ 13000) : CtrV g mJx4a65c_grow_92f84 8 d 1 20000 a [.int (nI (len + 1))] [pt a (.inr (8, [.int mo, .ref es, .int (nI len)])), ARR g z es len f, P] (fun o dc ds ws' => ∃ xe xf xc, o = some (.ref xe) ∧ ws' = [pt a (.inr (8, [.int mo, .ref xe, .int (nI len)])), pt xe (aO g xc xf), P] ∧ len < xc ∧ xc ≤ 20000 ∧ 10 ≤ xc ∧ (∀ j, j < len → xf j = f j) ∧ (∀ j, len ≤ j → xf j = none) ∧ dc ≤ 1 ∧ ds ≤ 20000 ∧ 5 * dc + len ≤ xc ∧ ds + 4 * len ≤ 4 * xc) noX := by
  refine ⟨rcv_pt, ?_⟩
  have hG := hA.1
  refine ctr_intro hG (by decide +kernel) (Nat.le_of_ble_eq_true rfl) ?_
  rintro X F rfl E B hI T
  replace E : JE X RJx4a65c cJx4a65c_grow_92f84 4 d 1 20000 := E
  show J X _ [pt a (.inr (8, [.int mo, .ref es, .int (nI len)])), ARR X.1 z es len f, P, F] 0 0 0 [some (.ref a), some (.int (nI (len + 1))), none, none] []
  rcases Nat.eq_zero_or_pos len with h0 | h0
  · subst h0
    refine j_open (by repeat (first | with_reducible exact pick_0 | with_reducible apply pick_s)) lar_zero ?_
    rintro _ hes
    dsimp only [List.cons_append, List.nil_append]
    subst hes
    refine j_aload_n E 1 dJx4a65c_grow_92f84_0 0 rfl rfl rfl ?_
    refine j_getf E 4 dJx4a65c_grow_92f84_1 fl_Jx4a65c_9 (by repeat (first | with_reducible exact pick_0 | with_reducible apply pick_s)) (by rfl) rfl ?_
    refine j_tlen E (nI 0) 5 dJx4a65c_grow_92f84_4 hA.2.2.2.2.2.2.2.1.2 rfl rfl ?_
    refine j_istore_n E 6 dJx4a65c_grow_92f84_5 2 rfl (Nat.le_of_ble_eq_true rfl) rfl rfl ?_
    dsimp only [List.set]
    refine j_iload_n E 7 dJx4a65c_grow_92f84_6 2 rfl rfl rfl ?_
    refine j_if_gt E 20 10 dJx4a65c_grow_92f84_7 (by decide) rfl (fun h7 => ?_) (fun h7 => ?_)
    · exact absurd h7 (by decide)
    · refine j_aload_n E 11 dJx4a65c_grow_92f84_10 0 rfl rfl rfl ?_
      refine j_getf E 14 dJx4a65c_grow_92f84_11 fl_Jx4a65c_9 (by repeat (first | with_reducible exact pick_0 | with_reducible apply pick_s)) (by rfl) rfl ?_
      refine j_gets E 17 dJx4a65c_grow_92f84_14 hA.2.2.2.2.2.2.2.1.1 gs_Jx4a65c_39 rfl ?_
      refine j_acmp_eq (rx := some (z 5)) (ry := some (z 5)) E 45 20 dJx4a65c_grow_92f84_17 (by decide) rfl (fun h17 => ?_) (fun h17 => absurd rfl h17)
      refine j_aload_n E 46 dJx4a65c_grow_92f84_45 0 rfl rfl rfl ?_
      refine j_bipush E (10) 48 dJx4a65c_grow_92f84_46 (by decide) rfl ?_
      refine j_iload_n E 49 dJx4a65c_grow_92f84_48 1 rfl rfl rfl ?_
      refine j_mmax E 52 dJx4a65c_grow_92f84_49 mx_JL (by omega) (Nat.le_of_ble_eq_true rfl) (by omega) (by omega) rfl ?_
      refine j_eqi (y := nI 10) (by decide) ?_
      refine j_newO E 10 55 dJx4a65c_grow_92f84_52 ck_LO ao_O (by decide) (by decide) (by omega) (by omega) (by omega) rfl (fun xq => ?_)
      refine j_dup_x1 E 56 dJx4a65c_grow_92f84_55 rfl rfl rfl ?_
      refine j_putf E 59 dJx4a65c_grow_92f84_56 fl_Jx4a65c_9 (by repeat (first | with_reducible exact pick_0 | with_reducible apply pick_s)) rfl rfl (Nat.le_of_ble_eq_true rfl) rfl ?_
      dsimp only [List.set]
      exact j_aret E B rfl (Or.inr ⟨_, rfl⟩) (Or.inr ⟨_, rfl⟩) 1 10 dJx4a65c_grow_92f84_59 (by repeat (first | with_reducible exact pick_0 | with_reducible apply pick_s | exact sel_0 | apply sel_s)) ⟨xq, _, 10, rfl, rfl, by omega, by omega, by omega, fun j hj => absurd hj (Nat.not_lt_zero _), fun _ _ => rfl, by omega, by omega, by omega, by omega⟩ (by omega) (by omega) (by omega) (by omega)
  · refine j_open (by repeat (first | with_reducible exact pick_0 | with_reducible apply pick_s)) (arr_pos h0) ?_
    rintro _ -
    dsimp only [List.cons_append, List.nil_append]
    refine j_aload_n E 1 dJx4a65c_grow_92f84_0 0 rfl rfl rfl ?_
    refine j_getf E 4 dJx4a65c_grow_92f84_1 fl_Jx4a65c_9 (by repeat (first | with_reducible exact pick_0 | with_reducible apply pick_s)) (by rfl) rfl ?_
    refine j_alenO E 5 dJx4a65c_grow_92f84_4 (by repeat (first | with_reducible exact pick_0 | with_reducible apply pick_s)) rfl ?_
    refine j_istore_n E 6 dJx4a65c_grow_92f84_5 2 rfl (Nat.le_of_ble_eq_true rfl) rfl rfl ?_
    dsimp only [List.set]
    refine j_iload_n E 7 dJx4a65c_grow_92f84_6 2 rfl rfl rfl ?_
    refine j_if_gt E 20 10 dJx4a65c_grow_92f84_7 (by decide) rfl (fun h7 => ?_) (fun h7 => ?_)
    · refine j_iload_n E 21 dJx4a65c_grow_92f84_20 2 rfl rfl rfl ?_
      refine j_iload_n E 22 dJx4a65c_grow_92f84_21 1 rfl rfl rfl ?_
      refine j_iload_n E 23 dJx4a65c_grow_92f84_22 2 rfl rfl rfl ?_
      refine j_isub E 24 dJx4a65c_grow_92f84_23 rfl ?_
      refine j_eqi (y := nI 1) (by rw [pk_sub (by omega)]; congr 1; omega) ?_
      refine j_iload_n E 25 dJx4a65c_grow_92f84_24 2 rfl rfl rfl ?_
      refine j_iconst E (1) 26 dJx4a65c_grow_92f84_25 (by decide) rfl ?_
      refine j_ishr E 27 dJx4a65c_grow_92f84_26 rfl ?_
      refine j_eqi (y := nI (len / 2)) (by have k := pk_shrN (n := len) (by omega) ((1 : Int32) &&& 31) 1 (by decide); rw [Nat.pow_one] at k; exact k) ?_
      refine j_callS E (c_newLen hG (d-1) len 1 (len / 2) (by omega) (by omega) (by omega) (by omega) (by omega)) 30 dJx4a65c_grow_92f84_27 iv_Jx4a65c_73 rfl rfl (by repeat (first | with_reducible exact pick_0 | with_reducible apply pick_s | exact sel_0 | apply sel_s)) (by omega) (by omega) (by omega) (Nat.le_of_ble_eq_true rfl) rfl ?_
      rintro _ _ _ _ ⟨rfl, rfl, rfl, rfl⟩
      dsimp only [List.cons_append, List.nil_append, Option.toList]
      obtain ⟨xc, hxc⟩ : ∃ xc, xc = len + (if 1 < len / 2 then len / 2 else 1) := ⟨_, rfl⟩
      have hxc1 : len < xc ∧ 2 * xc + 1 ≥ 3 * len ∧ xc ≤ 20000 := by rw [hxc]; split <;> omega
      rw [← hxc]
      refine j_istore_n E 31 dJx4a65c_grow_92f84_30 3 rfl (Nat.le_of_ble_eq_true rfl) rfl rfl ?_
      dsimp only [List.set]
      refine j_aload_n E 32 dJx4a65c_grow_92f84_31 0 rfl rfl rfl ?_
      refine j_aload_n E 33 dJx4a65c_grow_92f84_32 0 rfl rfl rfl ?_
      refine j_getf E 36 dJx4a65c_grow_92f84_33 fl_Jx4a65c_9 (by repeat (first | with_reducible exact pick_0 | with_reducible apply pick_s)) (by rfl) rfl ?_
      refine j_iload_n E 37 dJx4a65c_grow_92f84_36 3 rfl rfl rfl ?_
      refine j_callS E (c_copyO2 hA (d-1) (by omega) es len xc f P hP (by omega) (by omega)) 40 dJx4a65c_grow_92f84_37 iv_Jx4a65c_66 rfl rfl (by repeat (first | with_reducible exact pick_0 | with_reducible apply pick_s | exact sel_0 | apply sel_s)) (by omega) (by omega) (by omega) (Nat.le_of_ble_eq_true rfl) rfl ?_
      rintro _ xdc xds _ ⟨xq, xf, rfl, e1, e2, rfl, e3, e4⟩
      dsimp only [List.cons_append, List.nil_append, Option.toList]
      refine j_dup_x1 E 41 dJx4a65c_grow_92f84_40 rfl rfl rfl ?_
      refine j_putf E 44 dJx4a65c_grow_92f84_41 fl_Jx4a65c_9 (by repeat (first | with_reducible exact pick_0 | with_reducible apply pick_s)) rfl rfl (Nat.le_of_ble_eq_true rfl) rfl ?_
      dsimp only [List.set]
      exact j_aret E B rfl (Or.inr ⟨_, rfl⟩) (Or.inr ⟨_, rfl⟩) 1 xc dJx4a65c_grow_92f84_44 (by repeat (first | with_reducible exact pick_0 | with_reducible apply pick_s | exact sel_0 | apply sel_s)) ⟨xq, xf, xc, rfl, rfl, by omega, by omega, by omega, e3, e4, by omega, by omega, by omega, by omega⟩ (by omega) (by omega) (by omega) (by omega)
    · exact absurd (show nI 0 < nI len from nI_lt h0 (by omega)) h7
set_option maxHeartbeats 4000000 in
/-- grow() of a full list -/
theorem c_lst_grow0 {g : GT} {z : Nat → Nat} (hA : GA g z) (d : Nat) (hd : 7 ≤ d) (a es len : Nat) (mo : Int32) (f : Nat → Option Nat) (P : Asn) (hP : ∀ i, i < len → ∀ y, f i = some y → Has P y 4) (hl : len = 0 ∨ 10 ≤ len) (hl2 : len ≤ 13000) : CtrV g mJx4a65c_grow_d5877 8 d 1 20000 a [] [pt a (.inr (8, [.int mo, .ref es, .int (nI len)])), ARR g z es len f, P] (fun o dc ds ws' => ∃ xe xf xc, o = some (.ref xe) ∧ ws' = [pt a (.inr (8, [.int mo, .ref xe, .int (nI len)])), pt xe (aO g xc xf), P] ∧ len < xc ∧ xc ≤ 20000 ∧ 10 ≤ xc ∧ (∀ j, j < len → xf j = f j) ∧ (∀ j, len ≤ j → xf j = none) ∧ dc ≤ 1 ∧ ds ≤ 20000 ∧ 5 * dc + len ≤ xc ∧ ds + 4 * len ≤ 4 * xc) noX := by
  refine ⟨rcv_pt, ?_⟩
  have hG := hA.1
  refine ctr_intro hG (by decide +kernel) (Nat.le_of_ble_eq_true rfl) ?_
  rintro X F rfl E B hI T
  replace E : JE X RJx4a65c cJx4a65c_grow_d5877 1 d 1 20000 := E
  show J X _ [pt a (.inr (8, [.int mo, .ref es, .int (nI len)])), ARR X.1 z es len f, P, F] 0 0 0 [some (.ref a)] []
  refine j_aload_n E 1 dJx4a65c_grow_d5877_0 0 rfl rfl rfl ?_
  refine j_aload_n E 2 dJx4a65c_grow_d5877_1 0 rfl rfl rfl ?_
  refine j_getf E 5 dJx4a65c_grow_d5877_2 fl_Jx4a65c_48 (by repeat (first | with_reducible exact pick_0 | with_reducible apply pick_s)) (by rfl) rfl ?_
  refine j_iconst E (1) 6 dJx4a65c_grow_d5877_5 (by decide) rfl ?_
  refine j_iadd E 7 dJx4a65c_grow_d5877_6 rfl ?_
  refine j_eqi (nI_1 len) ?_
  refine j_callV E (c_lst_grow1 hA (d-1) (by omega) a es len mo f P hP hl hl2) 10 dJx4a65c_grow_d5877_7 _ _ _ iv_Jx4a65c_69 rfl rfl rfl (by repeat (first | with_reducible exact pick_0 | with_reducible apply pick_s | exact sel_0 | apply sel_s)) (by omega) (by omega) (by omega) (Nat.le_of_ble_eq_true rfl) rfl ?_
  rintro _ xdc xds _ ⟨xe, xf, xc, rfl, rfl, e1, e2, e3, e4, e5, e6, e7, e8, e9⟩
  dsimp only [List.cons_append, List.nil_append, Option.toList]
  exact j_aret E B rfl (Or.inr ⟨_, rfl⟩) (Or.inr ⟨_, rfl⟩) xdc xds dJx4a65c_grow_d5877_10 (by repeat (first | with_reducible exact pick_0 | with_reducible apply pick_s | exact sel_0 | apply sel_s)) ⟨xe, xf, xc, rfl, rfl, e1, e2, e3, e4, e5, e6, e7, e8, e9⟩ (by omega) (by omega) (by omega) (by omega)

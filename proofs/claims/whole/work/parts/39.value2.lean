/-! Value: append -/
set_option maxHeartbeats 4000000 in
/-- copyOf of the empty int array of the start -/
theorem c_copyOfI0 {g : GT} {z : Nat → Nat} (hA : GA g z) (d : Nat) (hd : 3 ≤ d) (M : Nat) (h0 : 0 < M) (hM : M ≤ 400000) : Ctr g mJ7_copyOf_59c91 d 1 M [.ref (z 1), .int (nI M)] [] (fun o dc ds ws' => dc ≤ 1 ∧ ds ≤ M ∧ ∃ xq xf, o = some (.ref xq) ∧ ws' = [pt xq (aI g M xf)]) noX := by
  have hG := hA.1
  refine ctr_intro hG (by decide +kernel) (Nat.le_of_ble_eq_true rfl) ?_
  rintro X F rfl E B hI T
  replace E : JE X RJ7 cJ7_copyOf_59c91 3 d 1 M := E
  show J X _ [F] 0 0 0 [some (.ref (z 1)), some (.int (nI M)), none] []
  refine j_iload_n E 1 dJ7_copyOf_59c91_0 1 rfl rfl rfl ?_
  refine j_aload_n E 2 dJ7_copyOf_59c91_1 0 rfl rfl rfl ?_
  refine j_tlen E (nI 0) 3 dJ7_copyOf_59c91_2 hA.2.2.2.1.2 rfl rfl ?_
  refine j_icmp_ne E 14 6 dJ7_copyOf_59c91_3 (by decide) rfl (fun h3 => ?_) (fun h3 => ?_)
  · refine j_iload_n E 15 dJ7_copyOf_59c91_14 1 rfl rfl rfl ?_
    refine j_newI E M 17 dJ7_copyOf_59c91_15 ac_I (nI_pos (by omega)) (nI_clamp (by omega)) (by omega) (by omega) (by omega) rfl (fun xq => ?_)
    refine j_astore_n E 18 dJ7_copyOf_59c91_17 2 rfl (Nat.le_of_ble_eq_true rfl) rfl rfl ?_
    dsimp only [List.set]
    refine j_aload_n E 19 dJ7_copyOf_59c91_18 0 rfl rfl rfl ?_
    refine j_iconst E (0) 20 dJ7_copyOf_59c91_19 (by decide) rfl ?_
    refine j_aload_n E 21 dJ7_copyOf_59c91_20 2 rfl rfl rfl ?_
    refine j_iconst E (0) 22 dJ7_copyOf_59c91_21 (by decide) rfl ?_
    refine j_aload_n E 23 dJ7_copyOf_59c91_22 0 rfl rfl rfl ?_
    refine j_tlen E (nI 0) 24 dJ7_copyOf_59c91_23 hA.2.2.2.1.2 rfl rfl ?_
    refine j_iload_n E 25 dJ7_copyOf_59c91_24 1 rfl rfl rfl ?_
    refine j_mmin E 28 dJ7_copyOf_59c91_25 mn_J7 (by omega) (Nat.le_of_ble_eq_true rfl) (by omega) (by omega) rfl ?_
    refine j_eqi (y := nI 0) (if_neg (nI_nlt (by omega) (by omega))) ?_
    refine j_copyTI E 31 dJ7_copyOf_59c91_28 cp_J7 (f := fun _ => 0) hA.2.2.2.1.2 (by repeat (first | with_reducible exact pick_0 | with_reducible apply pick_s)) (by decide) (by decide) (by decide) (by decide) (by show 0 + 0 ≤ M; omega) (by omega) (Nat.le_of_ble_eq_true rfl) rfl ?_
    refine j_aload_n E 32 dJ7_copyOf_59c91_31 2 rfl rfl rfl ?_
    exact j_aret E B rfl (by first | exact Or.inl ⟨_, rfl⟩ | exact Or.inr ⟨_, rfl⟩) (by first | exact Or.inr ⟨_, rfl⟩ | exact Or.inl rfl) 1 M dJ7_copyOf_59c91_32 (by repeat (first | with_reducible exact pick_0 | with_reducible apply pick_s | exact sel_0 | apply sel_s)) ⟨Nat.le_refl _, Nat.le_refl _, xq, _, rfl, rfl⟩ (by omega) (by omega) (by omega) (by omega)
  · exact absurd ((nI_eq (by omega) (by omega)).mp h3) (by omega)
/-- a part more -/
def vadd (v : VT) (y : Nat) : VT := (v.1, v.2.1, v.2.2.1, v.2.2.2.1, v.2.2.2.2 ++ [y])
theorem valp_push {v : VT} {cap y bq pq xq : Nat} {xf xh : Nat → Int32} (h : VALp v cap (bq, pq, xf)) {xc : Nat} (h1 : v.2.2.2.2.length < xc) (h2 : xc ≤ 20000) (h4 : 4 ≤ xc) (h3 : ∀ j, j < v.2.2.2.2.length → xh j = xf j) : VALp (vadd v y) xc (bq, xq, upd xh v.2.2.2.2.length (nI y)) := by
  refine ⟨by show (v.2.2.2.2 ++ [y]).length ≤ xc; rw [List.length_append]; exact h1, h2, Or.inr h4, fun j hj => ?_⟩
  have hj1 : j < (v.2.2.2.2 ++ [y]).length := hj
  rw [List.length_append, List.length_singleton] at hj1
  show upd xh v.2.2.2.2.length (nI y) j = nI ((v.2.2.2.2 ++ [y]).getD j 0)
  by_cases e : j = v.2.2.2.2.length
  · subst e
    simp [upd, List.getD_eq_getElem?_getD]
  · have e1 : j < v.2.2.2.2.length := by omega
    have e2 := h.2.2.2 j e1
    have e3 := h3 j e1
    dsimp only at e2
    simp [upd, e, e3, e2, List.getD_eq_getElem?_getD, List.getElem?_append_left e1]
set_option maxHeartbeats 4000000 in
theorem c_val_append {g : GT} {z : Nat → Nat} (hA : GA g z) (d a i cap y : Nat) (hd : 4 ≤ d) (v : VT) (t : Int32) (hl : v.2.2.2.2.length ≤ 9000) : CtrV g mX5_append 4 d 1 20000 a [.int (nI y)] [VALc g z a i v t cap] (fun o dc ds ws' => ∃ xcap, o = none ∧ ws' = [VALc g z a i (vadd v y) t xcap] ∧ dc ≤ 1 ∧ ds ≤ 20000 ∧ 4 * dc + cap ≤ xcap ∧ ds + 2 * cap ≤ 2 * xcap ∧ xcap = (if v.2.2.2.2.length = cap then (if 4 < 2 * v.2.2.2.2.length then 2 * v.2.2.2.2.length else 4) else cap)) noX := by
  refine ⟨valc_rcv, ?_⟩
  have hG := hA.1
  refine ctr_intro hG (by decide +kernel) (Nat.le_of_ble_eq_true rfl) ?_
  rintro X F rfl E B hI T
  replace E : JE X RX5 cX5_append 2 d 1 20000 := E
  show J X _ [VALc X.1 z a i v t cap, F] 0 0 0 [some (.ref a), some (.int (nI y))] []
  refine j_open (by repeat (first | with_reducible exact pick_0 | with_reducible apply pick_s)) valc_open ?_
  rintro ⟨bq, pq, xf⟩ hx
  dsimp only [VALo, List.cons_append, List.nil_append] at hx ⊢
  obtain ⟨L, hL⟩ : ∃ L, L = v.2.2.2.2.length := ⟨_, rfl⟩
  rw [← hL] at hl ⊢
  have hc1 : L ≤ cap := by rw [hL]; exact hx.1
  have hc2 : cap ≤ 20000 := hx.2.1
  have hc3 : cap = 0 ∨ 4 ≤ cap := hx.2.2.1
  have rest : ∀ (xq xc xk xn : Nat) (xh : Nat → Int32), L < xc → xc ≤ 20000 → 4 ≤ xc → (∀ j, j < L → xh j = xf j) → xk ≤ 1 → xn ≤ 20000 → 4 * xk + cap ≤ xc → xn + 2 * cap ≤ 2 * xc → xc = (if L = cap then (if 4 < 2 * L then 2 * L else 4) else cap) → J X 2 [pt xq (aI X.1 xc xh), pt a (.inr (4, [.int (nI v.1), .int (nI i), .long v.2.1, .int v.2.2.1, .ref bq, .ref xq, .int (nI L), .int t])), BYS X.1 z bq v.2.2.2.1, F] xk xn 33 [some (.ref a), some (.int (nI y))] [] := by
    intro xq xc xk xn xh e1 e2 e0 e3 e4 e5 e6 e7 e8
    refine j_aload_n E 34 dX5_append_33 0 rfl rfl rfl ?_
    refine j_getf E 37 dX5_append_34 fl_X5_13 (by repeat (first | with_reducible exact pick_0 | with_reducible apply pick_s)) (by rfl) rfl ?_
    refine j_aload_n E 38 dX5_append_37 0 rfl rfl rfl ?_
    refine j_getf E 41 dX5_append_38 fl_X5_43 (by repeat (first | with_reducible exact pick_0 | with_reducible apply pick_s)) (by rfl) rfl ?_
    refine j_iload_n E 42 dX5_append_41 1 rfl rfl rfl ?_
    refine j_iast E 43 dX5_append_42 (by repeat (first | with_reducible exact pick_0 | with_reducible apply pick_s)) (vp_in_nI e1 (by omega)) rfl ?_
    refine j_aload_n E 44 dX5_append_43 0 rfl rfl rfl ?_
    refine j_dup E 45 dX5_append_44 rfl rfl ?_
    refine j_getf E 48 dX5_append_45 fl_X5_43 (by repeat (first | with_reducible exact pick_0 | with_reducible apply pick_s)) (by rfl) rfl ?_
    refine j_iconst E (1) 49 dX5_append_48 (by decide) rfl ?_
    refine j_iadd E 50 dX5_append_49 rfl ?_
    rw [nI_clamp (by omega)]
    refine j_eqi (nI_1 L) ?_
    refine j_putf E 53 dX5_append_50 fl_X5_43 (by repeat (first | with_reducible exact pick_0 | with_reducible apply pick_s)) rfl rfl (Nat.le_of_ble_eq_true rfl) rfl ?_
    dsimp only [List.set]
    refine j_close (by repeat (first | with_reducible exact pick_0 | with_reducible apply pick_s | exact sel_0 | apply sel_s)) (prt_of (z := z) (by omega)) ?_
    have hl1 : (v.2.2.2.2 ++ [y]).length = L + 1 := by rw [List.length_append, hL]; rfl
    refine j_close (P := VALc X.1 z a i (vadd v y) t xc) (qs := [pt a (.inr (4, [.int (nI v.1), .int (nI i), .long v.2.1, .int v.2.2.1, .ref bq, .ref xq, .int (nI (L + 1)), .int t])), BYS X.1 z bq v.2.2.2.1, PRT X.1 z xq xc (upd xh L (nI y))]) (by repeat (first | with_reducible exact pick_0 | with_reducible apply pick_s | exact sel_0 | apply sel_s)) (fun w hw => ⟨(bq, xq, upd xh L (nI y)), by rw [hL]; rw [hL] at e1 e3; exact valp_push hx e1 e2 e0 e3, by rw [← hl1] at hw; exact hw⟩) ?_
    exact j_vret E B rfl xk xn dX5_append_53 (by repeat (first | with_reducible exact pick_0 | with_reducible apply pick_s | exact sel_0 | apply sel_s)) ⟨xc, rfl, rfl, e4, e5, e6, e7, by rw [← hL]; exact e8⟩ (by omega) (by omega) (by omega) (by omega)
  refine j_aload_n E 1 dX5_append_0 0 rfl rfl rfl ?_
  refine j_getf E 4 dX5_append_1 fl_X5_43 (by repeat (first | with_reducible exact pick_0 | with_reducible apply pick_s)) (by rfl) rfl ?_
  refine j_aload_n E 5 dX5_append_4 0 rfl rfl rfl ?_
  refine j_getf E 8 dX5_append_5 fl_X5_13 (by repeat (first | with_reducible exact pick_0 | with_reducible apply pick_s)) (by rfl) rfl ?_
  refine j_lenPrt hA E 9 dX5_append_8 (by repeat (first | with_reducible exact pick_0 | with_reducible apply pick_s)) rfl ?_
  refine j_icmp_ne E 33 12 dX5_append_9 (by decide) rfl (fun h9 => ?_) (fun h9 => ?_)
  · have hlt : L < cap := by
      rcases Nat.lt_or_ge L cap with e | e
      · exact e
      · exact absurd (congrArg nI (show L = cap by omega)) h9
    refine j_open (by repeat (first | with_reducible exact pick_0 | with_reducible apply pick_s)) (prt_open (by omega)) ?_
    rintro _ -
    dsimp only [List.cons_append, List.nil_append]
    exact j_sel (by repeat (first | with_reducible exact pick_0 | with_reducible apply pick_s | exact sel_0 | apply sel_s)) (rest pq cap 0 0 xf hlt hc2 (by omega) (fun _ _ => rfl) (by omega) (by omega) (by omega) (by omega) (by rw [if_neg (by omega)]))
  · have hle : L = cap := (nI_eq (by omega) (by omega)).mp h9
    subst hle
    refine j_aload_n E 13 dX5_append_12 0 rfl rfl rfl ?_
    refine j_aload_n E 14 dX5_append_13 0 rfl rfl rfl ?_
    refine j_getf E 17 dX5_append_14 fl_X5_13 (by repeat (first | with_reducible exact pick_0 | with_reducible apply pick_s)) (by rfl) rfl ?_
    refine j_iconst E (4) 18 dX5_append_17 (by decide) rfl ?_
    refine j_iconst E (2) 19 dX5_append_18 (by decide) rfl ?_
    refine j_aload_n E 20 dX5_append_19 0 rfl rfl rfl ?_
    refine j_getf E 23 dX5_append_20 fl_X5_43 (by repeat (first | with_reducible exact pick_0 | with_reducible apply pick_s)) (by rfl) rfl ?_
    refine j_imul E 24 dX5_append_23 rfl ?_
    refine j_eqi (y := nI (2 * L)) (pk_mul 2 L) ?_
    refine j_mmax E 27 dX5_append_24 mx_X5 (by omega) (Nat.le_of_ble_eq_true rfl) (by omega) (by omega) rfl ?_
    refine j_eqi (n_max2 (a := 4) (b := 2 * L) (by omega) (by omega)) ?_
    obtain ⟨xc, hxc⟩ : ∃ xc, xc = (if 4 < 2 * L then 2 * L else 4) := ⟨_, rfl⟩
    have hxc1 : L < xc ∧ 4 ≤ xc ∧ xc ≤ 18000 ∧ 2 * L ≤ xc ∧ xc ≤ 2 * L + 4 := by rw [hxc]; split <;> omega
    have hxc2 : L = 0 ∨ (4 ≤ L ∧ 2 * L ≤ xc) ∨ 0 < L := by omega
    rw [← hxc]
    refine j_know (pick_know (P := PRT X.1 z pq L xf) (by repeat (first | with_reducible exact pick_0 | with_reducible apply pick_s)) prt_know) ?_
    rintro (⟨e1, e2⟩ | e1)
    · subst e1
      subst e2
      refine j_callS E (c_copyOfI0 hA (d-1) (by omega) xc (by omega) (by omega)) 30 dX5_append_27 iv_X5_52 rfl rfl (by repeat (first | with_reducible exact pick_0 | with_reducible apply pick_s | exact sel_0 | apply sel_s)) (by omega) (by omega) (by omega) (Nat.le_of_ble_eq_true rfl) rfl ?_
      rintro _ xdc xds _ ⟨f1, f2, xq, xh, rfl, rfl⟩
      dsimp only [List.cons_append, List.nil_append, Option.toList]
      refine j_putf E 33 dX5_append_30 fl_X5_13 (by repeat (first | with_reducible exact pick_0 | with_reducible apply pick_s)) rfl rfl (Nat.le_of_ble_eq_true rfl) rfl ?_
      dsimp only [List.set]
      exact j_sel (by repeat (first | with_reducible exact pick_0 | with_reducible apply pick_s | exact sel_0 | apply sel_s)) (rest xq xc (0 + xdc) (0 + xds) xh (by omega) (by omega) (by omega) (fun j hj => absurd hj (Nat.not_lt_zero _)) (by omega) (by omega) (by omega) (by omega) (by rw [if_pos rfl]; exact hxc))
    · refine j_open (P := PRT X.1 z pq L xf) (by repeat (first | with_reducible exact pick_0 | with_reducible apply pick_s)) (prt_open (by omega)) ?_
      rintro _ -
      dsimp only [List.cons_append, List.nil_append]
      refine j_callS E (c_copyOfI hG (d-1) (by omega) pq L xc xf (by omega) (by omega)) 30 dX5_append_27 iv_X5_52 rfl rfl (by repeat (first | with_reducible exact pick_0 | with_reducible apply pick_s | exact sel_0 | apply sel_s)) (by omega) (by omega) (by omega) (Nat.le_of_ble_eq_true rfl) rfl ?_
      rintro _ xdc xds _ ⟨f1, f2, xq, xh, rfl, rfl, f3⟩
      dsimp only [List.cons_append, List.nil_append, Option.toList]
      refine j_putf E 33 dX5_append_30 fl_X5_13 (by repeat (first | with_reducible exact pick_0 | with_reducible apply pick_s)) rfl rfl (Nat.le_of_ble_eq_true rfl) rfl ?_
      dsimp only [List.set]
      exact j_sel (by repeat (first | with_reducible exact pick_0 | with_reducible apply pick_s | exact sel_0 | apply sel_s)) (rest xq xc (0 + xdc) (0 + xds) xh (by omega) (by omega) (by omega) f3 (by omega) (by omega) (by omega) (by omega) (by rw [if_pos rfl]; exact hxc))
theorem pcap_step {n c : Nat} (h : c = pcap n) : (if n = c then (if 4 < 2 * n then 2 * n else 4) else c) = pcap (n + 1) := by rw [h, pcap]

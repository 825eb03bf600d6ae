/-! ArrayList: add, remove, clear -/
theorem lstp_push {xs : List Nat} {cap v : Nat} {f : Nat → Option Nat} (h : LSTp xs cap f) (hc : xs.length < cap) : LSTp (xs ++ [v]) cap (va_up f xs.length (some v)) := by
  obtain ⟨h1, h2, h3, h4, h5⟩ := h
  refine ⟨by rw [List.length_append]; exact hc, h2, h3, fun j hj => ?_, fun j hj => ?_⟩
  · rw [List.length_append, List.length_singleton] at hj
    by_cases e : j = xs.length
    · subst e
      rw [va_up_self]
      simp [List.getD_eq_getElem?_getD]
    · have e1 : j < xs.length := by omega
      rw [va_up_ne _ _ e, h4 j e1]
      simp [List.getD_eq_getElem?_getD, List.getElem?_append_left e1]
  · rw [List.length_append, List.length_singleton] at hj
    rw [va_up_ne _ _ (by omega)]
    exact h5 j (by omega)
theorem lstp_grow {xs : List Nat} {cap xc : Nat} {f xf : Nat → Option Nat} (h : LSTp xs cap f) (h1 : xs.length < xc) (h2 : xc ≤ 20000) (h3 : 10 ≤ xc) (h4 : ∀ j, j < xs.length → xf j = f j) (h5 : ∀ j, xs.length ≤ j → xf j = none) : LSTp xs xc xf :=
  ⟨by omega, h2, Or.inr h3, fun j hj => (h4 j hj).trans (h.2.2.2.1 j hj), h5⟩
theorem lstp_has {xs : List Nat} {cap : Nat} {f : Nat → Option Nat} {P : Asn} (h : LSTp xs cap f) (hP : ∀ x ∈ xs, Has P x 4) : ∀ i, i < xs.length → ∀ y, f i = some y → Has P y 4 := by
  intro i hi y hy
  rw [h.2.2.2.1 i hi] at hy
  refine hP y ?_
  have e : xs.getD i 0 = y := Option.some.inj hy
  rw [← e, List.getD_eq_getElem?_getD, List.getElem?_eq_getElem hi]
  exact List.getElem_mem hi
theorem arr_know {g : GT} {z : Nat → Nat} {es cap : Nat} {f : Nat → Option Nat} : ∀ w, ARR g z es cap f w → (cap = 0 ∧ es = z 5) ∨ 0 < cap := by
  rintro w (⟨hq1, hq2, -⟩ | ⟨hq1, -⟩)
  · exact Or.inl ⟨hq1, hq2⟩
  · exact Or.inr hq1
theorem pick_know {P : Asn} {ws ws1 : List Asn} {φ : Prop} (hp : Pick ws P ws1) (h : ∀ w, P w → φ) : ∀ w, sepL ws w → φ := fun w hw => by
  obtain ⟨w1, w2, -, h1, -⟩ := hp w hw
  exact h w1 h1
theorem arr_len0 {g : GT} {z : Nat → Nat} {es : Nat} {f f' : Nat → Option Nat} : ∀ w, ARR g z es 0 f w → ARR g z es 0 f' w := by
  rintro w (⟨hq1, hq2, hq3⟩ | ⟨hq1, -⟩)
  · exact Or.inl ⟨hq1, hq2, hq3⟩
  · omega
section
variable {X : XT} {own : String} {cc : ByteArray} {nL d mc ms k n pc : Nat} {lv : List (Option Value)} {st : List Value} {ws ws1 : List Asn}
theorem j_lenA {z : Nat → Nat} (hA : GA X.1 z) (E : JE X own cc nL d mc ms) {es cap : Nat} {f : Nat → Option Nat} (pc' : Nat) (hd : decode cc pc = .ok (.arraylength, 1)) (hp : Pick ws (ARR X.1 z es cap f) ws1) (hpc : pc + 1 = pc') (kk : J X nL (ARR X.1 z es cap f :: ws1) k n pc' lv (.int (nI cap) :: st)) : J X nL ws k n pc lv (.ref es :: st) := by
  refine j_know (pick_know hp arr_know) ?_
  rintro (⟨e1, e2⟩ | e1)
  · subst e1
    subst e2
    refine j_tlen E (nI 0) pc' hd hA.2.2.2.2.2.2.2.1.2 rfl hpc ?_
    exact j_close (sel_s hp sel_0) (fun w ⟨w1, w2, hq1, hq2, hq3⟩ => by
      have hq4 : w2 = [] := hq3
      subst hq4
      rw [List.append_nil] at hq1
      rcases hq2 with ⟨hq5, hq6, hq7⟩ | ⟨hq5, -⟩
      · subst hq7
        exact Or.inl ⟨hq5, hq6, List.perm_nil.mp hq1⟩
      · omega) kk
  · refine j_open hp (arr_pos e1) ?_
    rintro _ -
    refine j_alenO E pc' hd (by exact pick_0) hpc ?_
    exact j_close (sel_s pick_0 sel_0) (arr_of e1) kk
end
set_option maxHeartbeats 4000000 in
/-- add, into the array that is there -/
theorem c_lst_add3 {g : GT} {z : Nat → Nat} (hA : GA g z) (d : Nat) (hd : 8 ≤ d) (a es v cap L : Nat) (mo : Int32) (xs : List Nat) (f : Nat → Option Nat) (P : Asn) (hL : L = xs.length) (hp9 : LSTp xs cap f) (hP : ∀ x ∈ xs, Has P x 4) (hv : Has P v 4) (hl2 : L ≤ 13000) : CtrV g mJx4a65c_add_72be8 8 d 1 20000 a [.ref v, .ref es, .int (nI L)] [pt a (.inr (8, [.int mo, .ref es, .int (nI L)])), ARR g z es cap f, P] (fun o dc ds ws' => ∃ xcap, o = none ∧ ws' = [LST g z a (xs ++ [v]) xcap, P] ∧ dc ≤ 1 ∧ ds ≤ 20000 ∧ 5 * dc + cap ≤ xcap ∧ ds + 4 * cap ≤ 4 * xcap) noX := by
  refine ⟨rcv_pt, ?_⟩
  have hG := hA.1
  refine ctr_intro hG (by decide +kernel) (Nat.le_of_ble_eq_true rfl) ?_
  rintro X F rfl E B hI T
  replace E : JE X RJx4a65c cJx4a65c_add_72be8 4 d 1 20000 := E
  show J X _ [pt a (.inr (8, [.int mo, .ref es, .int (nI L)])), ARR X.1 z es cap f, P, F] 0 0 0 [some (.ref a), some (.ref v), some (.ref es), some (.int (nI L))] []
  have hlc : L ≤ cap := by have := hp9.1; omega
  have hcb : cap ≤ 20000 := hp9.2.1
  refine j_iload_n E 1 dJx4a65c_add_72be8_0 3 rfl rfl rfl ?_
  refine j_aload_n E 2 dJx4a65c_add_72be8_1 2 rfl rfl rfl ?_
  refine j_lenA hA E 3 dJx4a65c_add_72be8_2 (by repeat (first | with_reducible exact pick_0 | with_reducible apply pick_s)) rfl ?_
  refine j_icmp_ne E 11 6 dJx4a65c_add_72be8_3 (by decide) rfl (fun h3 => ?_) (fun h3 => ?_)
  · have hlt : L < cap := by
      rcases Nat.lt_or_ge L cap with e | e
      · exact e
      · exact absurd (congrArg nI (show L = cap by omega)) h3
    refine j_open (by repeat (first | with_reducible exact pick_0 | with_reducible apply pick_s)) (arr_pos (by omega)) ?_
    rintro _ -
    dsimp only [List.cons_append, List.nil_append]
    refine j_aload_n E 12 dJx4a65c_add_72be8_11 2 rfl rfl rfl ?_
    refine j_iload_n E 13 dJx4a65c_add_72be8_12 3 rfl rfl rfl ?_
    refine j_aload_n E 14 dJx4a65c_add_72be8_13 1 rfl rfl rfl ?_
    refine j_aastV E 15 dJx4a65c_add_72be8_14 (by repeat (first | with_reducible exact pick_0 | with_reducible apply pick_s)) (has_rcv (by repeat (first | with_reducible exact pick_0 | with_reducible apply pick_s)) hv) (vp_in_nI hlt (by omega)) rfl ?_
    rw [nI_clamp (by omega)]
    refine j_aload_n E 16 dJx4a65c_add_72be8_15 0 rfl rfl rfl ?_
    refine j_iload_n E 17 dJx4a65c_add_72be8_16 3 rfl rfl rfl ?_
    refine j_iconst E (1) 18 dJx4a65c_add_72be8_17 (by decide) rfl ?_
    refine j_iadd E 19 dJx4a65c_add_72be8_18 rfl ?_
    refine j_eqi (nI_1 L) ?_
    refine j_putf E 22 dJx4a65c_add_72be8_19 fl_Jx4a65c_48 (by repeat (first | with_reducible exact pick_0 | with_reducible apply pick_s)) rfl rfl (Nat.le_of_ble_eq_true rfl) rfl ?_
    dsimp only [List.set]
    refine j_close (by repeat (first | with_reducible exact pick_0 | with_reducible apply pick_s | exact sel_0 | apply sel_s)) (arr_of (z := z) (by omega)) ?_
    refine lst_close (xs ++ [v]) (by repeat (first | with_reducible exact pick_0 | with_reducible apply pick_s | exact sel_0 | apply sel_s)) (by rw [hL]; exact lstp_push hp9 (by omega)) (by rw [List.length_append, hL]; rfl) ?_
    exact j_vret E B rfl 0 0 dJx4a65c_add_72be8_22 (by repeat (first | with_reducible exact pick_0 | with_reducible apply pick_s | exact sel_0 | apply sel_s)) ⟨cap, rfl, rfl, by omega, by omega, by omega, by omega⟩ (by omega) (by omega) (by omega) (by omega)
  · have hle : L = cap := (nI_eq (by omega) (by omega)).mp h3
    subst hle
    refine j_aload_n E 7 dJx4a65c_add_72be8_6 0 rfl rfl rfl ?_
    refine j_callV E (c_lst_grow0 hA (d-1) (by omega) a es L mo f P (by rw [hL]; exact lstp_has hp9 hP) hp9.2.2.1 hl2) 10 dJx4a65c_add_72be8_7 _ _ _ iv_Jx4a65c_129 rfl rfl rfl (by repeat (first | with_reducible exact pick_0 | with_reducible apply pick_s | exact sel_0 | apply sel_s)) (by omega) (by omega) (by omega) (Nat.le_of_ble_eq_true rfl) rfl ?_
    rintro _ xdc xds _ ⟨xe, xf, xc, rfl, rfl, e1, e2, e3, e4, e5, e6, e7, e8, e9⟩
    dsimp only [List.cons_append, List.nil_append, Option.toList]
    refine j_astore_n E 11 dJx4a65c_add_72be8_10 2 rfl (Nat.le_of_ble_eq_true rfl) rfl rfl ?_
    dsimp only [List.set]
    refine j_aload_n E 12 dJx4a65c_add_72be8_11 2 rfl rfl rfl ?_
    refine j_iload_n E 13 dJx4a65c_add_72be8_12 3 rfl rfl rfl ?_
    refine j_aload_n E 14 dJx4a65c_add_72be8_13 1 rfl rfl rfl ?_
    refine j_aastV E 15 dJx4a65c_add_72be8_14 (by repeat (first | with_reducible exact pick_0 | with_reducible apply pick_s)) (has_rcv (by repeat (first | with_reducible exact pick_0 | with_reducible apply pick_s)) hv) (vp_in_nI e1 (by omega)) rfl ?_
    rw [nI_clamp (by omega)]
    refine j_aload_n E 16 dJx4a65c_add_72be8_15 0 rfl rfl rfl ?_
    refine j_iload_n E 17 dJx4a65c_add_72be8_16 3 rfl rfl rfl ?_
    refine j_iconst E (1) 18 dJx4a65c_add_72be8_17 (by decide) rfl ?_
    refine j_iadd E 19 dJx4a65c_add_72be8_18 rfl ?_
    refine j_eqi (nI_1 L) ?_
    refine j_putf E 22 dJx4a65c_add_72be8_19 fl_Jx4a65c_48 (by repeat (first | with_reducible exact pick_0 | with_reducible apply pick_s)) rfl rfl (Nat.le_of_ble_eq_true rfl) rfl ?_
    dsimp only [List.set]
    refine j_close (by repeat (first | with_reducible exact pick_0 | with_reducible apply pick_s | exact sel_0 | apply sel_s)) (arr_of (z := z) (by omega)) ?_
    refine lst_close (xs ++ [v]) (by repeat (first | with_reducible exact pick_0 | with_reducible apply pick_s | exact sel_0 | apply sel_s)) (by rw [hL]; rw [hL] at e1 e4 e5; exact lstp_push (lstp_grow hp9 e1 e2 e3 e4 e5) (by omega)) (by rw [List.length_append, hL]; rfl) ?_
    exact j_vret E B rfl xdc xds dJx4a65c_add_72be8_22 (by repeat (first | with_reducible exact pick_0 | with_reducible apply pick_s | exact sel_0 | apply sel_s)) ⟨xc, rfl, rfl, by omega, by omega, by omega, by omega⟩ (by omega) (by omega) (by omega) (by omega)
set_option maxHeartbeats 4000000 in
/-- add(v) -/
theorem c_lst_add {g : GT} {z : Nat → Nat} (hA : GA g z) (d : Nat) (hd : 9 ≤ d) (a v cap : Nat) (xs : List Nat) (P : Asn) (hP : ∀ x ∈ xs, Has P x 4) (hv : Has P v 4) (hl2 : xs.length ≤ 13000) : CtrV g mJx4a65c_add_9ea2d 8 d 1 20000 a [.ref v] [LST g z a xs cap, P] (fun o dc ds ws' => ∃ xcap, o = some (.int 1) ∧ ws' = [LST g z a (xs ++ [v]) xcap, P] ∧ dc ≤ 1 ∧ ds ≤ 20000 ∧ 5 * dc + cap ≤ xcap ∧ ds + 4 * cap ≤ 4 * xcap) noX := by
  refine ⟨lst_rcv, ?_⟩
  have hG := hA.1
  refine ctr_intro hG (by decide +kernel) (Nat.le_of_ble_eq_true rfl) ?_
  rintro X F rfl E B hI T
  replace E : JE X RJx4a65c cJx4a65c_add_9ea2d 2 d 1 20000 := E
  show J X _ [LST X.1 z a xs cap, P, F] 0 0 0 [some (.ref a), some (.ref v)] []
  refine j_open (by repeat (first | with_reducible exact pick_0 | with_reducible apply pick_s)) lst_open ?_
  rintro ⟨mo, es, xf⟩ hx
  dsimp only [LSTo, List.cons_append, List.nil_append] at hx ⊢
  refine j_aload_n E 1 dJx4a65c_add_9ea2d_0 0 rfl rfl rfl ?_
  refine j_dup E 2 dJx4a65c_add_9ea2d_1 rfl rfl ?_
  refine j_getf E 5 dJx4a65c_add_9ea2d_2 fl_Jx4a65c_63 (by repeat (first | with_reducible exact pick_0 | with_reducible apply pick_s)) (by rfl) rfl ?_
  refine j_iconst E (1) 6 dJx4a65c_add_9ea2d_5 (by decide) rfl ?_
  refine j_iadd E 7 dJx4a65c_add_9ea2d_6 rfl ?_
  refine j_putf E 10 dJx4a65c_add_9ea2d_7 fl_Jx4a65c_63 (by repeat (first | with_reducible exact pick_0 | with_reducible apply pick_s)) rfl rfl (Nat.le_of_ble_eq_true rfl) rfl ?_
  dsimp only [List.set]
  refine j_aload_n E 11 dJx4a65c_add_9ea2d_10 0 rfl rfl rfl ?_
  refine j_aload_n E 12 dJx4a65c_add_9ea2d_11 1 rfl rfl rfl ?_
  refine j_aload_n E 13 dJx4a65c_add_9ea2d_12 0 rfl rfl rfl ?_
  refine j_getf E 16 dJx4a65c_add_9ea2d_13 fl_Jx4a65c_9 (by repeat (first | with_reducible exact pick_0 | with_reducible apply pick_s)) (by rfl) rfl ?_
  refine j_aload_n E 17 dJx4a65c_add_9ea2d_16 0 rfl rfl rfl ?_
  refine j_getf E 20 dJx4a65c_add_9ea2d_17 fl_Jx4a65c_48 (by repeat (first | with_reducible exact pick_0 | with_reducible apply pick_s)) (by rfl) rfl ?_
  refine j_callV E (c_lst_add3 hA (d-1) (by omega) a es v cap xs.length (mo + 1) xs xf P rfl hx hP hv hl2) 23 dJx4a65c_add_9ea2d_20 _ _ _ iv_Jx4a65c_131 rfl rfl rfl (by repeat (first | with_reducible exact pick_0 | with_reducible apply pick_s | exact sel_0 | apply sel_s)) (by omega) (by omega) (by omega) (Nat.le_of_ble_eq_true rfl) rfl ?_
  rintro _ xdc xds _ ⟨xcap, rfl, rfl, e1, e2, e3, e4⟩
  dsimp only [List.cons_append, List.nil_append, Option.toList]
  refine j_iconst E (1) 24 dJx4a65c_add_9ea2d_23 (by decide) rfl ?_
  exact j_zret E B rfl (by first | exact Or.inl rfl | exact Or.inr rfl) xdc xds dJx4a65c_add_9ea2d_24 (by repeat (first | with_reducible exact pick_0 | with_reducible apply pick_s | exact sel_0 | apply sel_s)) ⟨xcap, rfl, rfl, e1, e2, e3, e4⟩ (by omega) (by omega) (by omega) (by omega)

/-! ByteRow: the rest -/
theorem qb_link : W9 (.methodLink RJ7 310 ⟨"[B", "clone", "()Ljava/lang/Object;"⟩) := ⟨List.mem_append_right _ (List.mem_of_getElem? (i := 563) (by decide +kernel)), by decide +kernel⟩
theorem qb_same : Cond.sameMethod "[B" "java/lang/Object" "clone" "()Ljava/lang/Object;" ∈ lw_tbl := List.mem_append_right _ (List.mem_of_getElem? (i := 564) (by decide +kernel))
theorem qb_nat : W9 (.native ⟨"java/lang/Object", "clone", "()Ljava/lang/Object;"⟩) := ⟨List.mem_append_right _ (List.mem_of_getElem? (i := 425) (by decide +kernel)), by decide +kernel⟩
theorem qb_inst : W9 (.instanceMethod ⟨"java/lang/Object", "clone", "()Ljava/lang/Object;"⟩) := ⟨List.mem_append_right _ (List.mem_of_getElem? (i := 426) (by decide +kernel)), by decide +kernel⟩
theorem qb_sel : W9 (.selects "[B" ⟨"[B", "clone", "()Ljava/lang/Object;"⟩ ⟨"java/lang/Object", "clone", "()Ljava/lang/Object;"⟩) := ⟨List.mem_append_right _ (List.mem_of_getElem? (i := 565) (by decide +kernel)), by decide +kernel⟩
theorem qb_cast : Cond.castable "[B" "java/lang/Cloneable" ∈ lw_tbl := List.mem_append_right _ (List.mem_of_getElem? (i := 566) (by decide +kernel))
theorem qb_cls : W9 (.classLink RJ7 311 "[B") := ⟨List.mem_append_right _ (List.mem_of_getElem? (i := 567) (by decide +kernel)), by decide +kernel⟩
section
variable {X : XT} {own : String} {cc : ByteArray} {nL d mc ms k n pc a : Nat} {lv : List (Option Value)} {st : List Value} {ws ws1 : List Asn}
theorem j_cloneB (E : JE X RJ7 cc nL d mc ms) {N : Nat} {f : Nat → Int32} (pc' : Nat) (hd : decode cc pc = .ok (.invokevirtual 310, 3)) (hp : Pick ws (pt a (aB X.1 N f)) ws1) (hf : Fit8 f) (hd9 : 1 ≤ d) (hst : (st.map fun v => v.category).sum ≤ 8) (hk : k + 1 ≤ mc) (hn : n + N ≤ ms) (hpc : pc + 3 = pc') (kk : ∀ q : Nat, J X nL (pt q (aB X.1 N f) :: ws) (k + 1) (n + N) pc' lv (.ref q :: st)) : J X nL ws k n pc lv (.ref a :: st) := by
  obtain ⟨⟨l, s0, D, ca⟩, p, e, R, s, m, args, below, meth, c, Q⟩ := X
  obtain ⟨hx, hb, hml, hown, hwm, hold, hlocks, hG, hfr, hlo, hrc, hrs⟩ := E
  subst hpc
  intro H locs ls hS hw hl
  obtain ⟨w, hP, hD, hs⟩ := id hw
  obtain ⟨q0, hq0, -⟩ := pick_at hp hs
  have hK := hG.K hwm
  have hC : va_RA s (ca 0) .byte := (hK.2 0 _ rfl).2
  refine va_clone (ty := .byte) hx hb (hml.trans hl.1.symm) hown (hG.word hwm qb_link _) (hG.word8 hwm qb_same (by decide) _) (hG.word hwm qb_nat _) (hG.word hwm qb_inst _) (hG.word hwm qb_sel _) (hG.word8 hwm qb_cast (by decide) _) hK hP hD hS hold.A q0 0 hq0 rfl (va_nm_byte hC) (va_fit (fun i _ => hf i)) (by omega) (by omega) (Nat.le_trans hk hrc) (Nat.le_trans hn hrs) hd (fun q H1 hK1 hP1 hD1 hS1 => ?_)
  exact kk q H1 locs ls hS1 ⟨_, hP1, hD1, sepL_new hs⟩ hl
theorem j_castB (E : JE X own cc nL d mc ms) {index N : Nat} {f : Nat → Int32} (pc' : Nat) (hd : decode cc pc = .ok (.checkcast index, 3)) (hl9 : W9 (.classLink own index "[B")) (hp : Pick ws (pt a (aB X.1 N f)) ws1) (hpc : pc + 3 = pc') (kk : J X nL ws k n pc' lv (.ref a :: st)) : J X nL ws k n pc lv (.ref a :: st) := by
  obtain ⟨⟨l, s0, D, ca⟩, p, e, R, s, m, args, below, meth, c, Q⟩ := X
  obtain ⟨hx, hb, hml, hown, hwm, hold, hlocks, hG, hfr, hlo, hrc, hrs⟩ := E
  subst hpc
  intro H locs ls hS hw hl
  obtain ⟨w, hP, hD, hs⟩ := id hw
  obtain ⟨q, hq, -⟩ := pick_at hp hs
  exact va_castA hx hb hown (hG.word hwm hl9 _) hP q hq (va_nm_byte ((hG.K hwm).2 0 _ rfl).2) hd (kk H locs ls hS hw hl)
end
set_option maxHeartbeats 4000000 in
theorem c_checkLen {g : GT} (hG : GLB g) (d i t : Nat) (h : i ≤ t) (ht : t < 2 ^ 31) : Ctr g mJ7_checkLength_df160 d 0 0 [.int (nI i), .int (nI t)] [] (fun o dc ds ws' => o = none ∧ dc = 0 ∧ ds = 0 ∧ ws' = []) noX := by
  refine ctr_intro hG (by decide +kernel) (Nat.le_of_ble_eq_true rfl) ?_
  rintro X F rfl E B hI T
  replace E : JE X RJ7 cJ7_checkLength_df160 2 d 0 0 := E
  show J X _ [F] 0 0 0 [some (.int (nI i)), some (.int (nI t))] []
  refine j_iload_n E 1 dJ7_checkLength_df160_0 1 rfl rfl rfl ?_
  refine j_iload_n E 2 dJ7_checkLength_df160_1 0 rfl rfl rfl ?_
  refine j_icmp_ge E 37 5 dJ7_checkLength_df160_2 (by decide) rfl (fun h2 => ?_) (fun h2 => ?_)
  · exact j_vret E B rfl 0 0 dJ7_checkLength_df160_37 (by repeat (first | with_reducible exact pick_0 | with_reducible apply pick_s | exact sel_0 | apply sel_s)) ⟨rfl, rfl, rfl, rfl⟩ (by omega) (by omega) (by omega) (by omega)
  · exact absurd (nI_le h ht) h2
set_option maxHeartbeats 4000000 in
theorem c_corBy {g : GT} (hG : GLB g) (d : Nat) (hd : 3 ≤ d) (a N i t : Nat) (f : Nat → Int32) (hf : Fit8 f) (hit : i ≤ t) (htN : t ≤ N) (hN : N ≤ 400000) : Ctr g mJ7_copyOfRangeByte_39247 d 1 (t - i) [.ref a, .int (nI i), .int (nI t)] [pt a (aB g N f)] (fun o dc ds ws' => ∃ xq xf, o = some (.ref xq) ∧ ws' = [pt xq (aB g (t - i) xf), pt a (aB g N f)] ∧ Fit8 xf ∧ (∀ j, j < t - i → xf j = f (i + j)) ∧ dc ≤ 1 ∧ ds ≤ t - i) noX := by
  refine ctr_intro hG (by decide +kernel) (Nat.le_of_ble_eq_true rfl) ?_
  rintro X F rfl E B hI T
  replace E : JE X RJ7 cJ7_copyOfRangeByte_39247 5 d 1 (t - i) := E
  show J X _ [pt a (aB X.1 N f), F] 0 0 0 [some (.ref a), some (.int (nI i)), some (.int (nI t)), none, none] []
  refine j_iload_n E 1 dJ7_copyOfRangeByte_39247_0 1 rfl rfl rfl ?_
  refine j_iload_n E 2 dJ7_copyOfRangeByte_39247_1 2 rfl rfl rfl ?_
  refine j_callS E (c_checkLen hG (d-1) i t hit (by omega)) 5 dJ7_copyOfRangeByte_39247_2 iv_J7_343 rfl rfl (by repeat (first | with_reducible exact pick_0 | with_reducible apply pick_s | exact sel_0 | apply sel_s)) (by omega) (by omega) (by omega) (Nat.le_of_ble_eq_true rfl) rfl ?_
  rintro _ _ _ _ ⟨rfl, rfl, rfl, rfl⟩
  dsimp only [List.cons_append, List.nil_append, Option.toList]
  refine j_iload_n E 6 dJ7_copyOfRangeByte_39247_5 2 rfl rfl rfl ?_
  refine j_iload_n E 7 dJ7_copyOfRangeByte_39247_6 1 rfl rfl rfl ?_
  refine j_isub E 8 dJ7_copyOfRangeByte_39247_7 rfl ?_
  refine j_eqi (y := nI (t - i)) (pk_sub hit) ?_
  refine j_istore_n E 9 dJ7_copyOfRangeByte_39247_8 3 rfl (Nat.le_of_ble_eq_true rfl) rfl rfl ?_
  dsimp only [List.set]
  refine j_iload_n E 10 dJ7_copyOfRangeByte_39247_9 3 rfl rfl rfl ?_
  refine j_newB E (t - i) 12 dJ7_copyOfRangeByte_39247_10 ac_B (nI_pos (by omega)) (nI_clamp (by omega)) (by omega) (by omega) (by omega) rfl (fun xq => ?_)
  refine j_astore E 14 dJ7_copyOfRangeByte_39247_12 (Nat.le_of_ble_eq_true rfl) rfl rfl ?_
  dsimp only [List.set]
  refine j_aload_n E 15 dJ7_copyOfRangeByte_39247_14 0 rfl rfl rfl ?_
  refine j_iload_n E 16 dJ7_copyOfRangeByte_39247_15 1 rfl rfl rfl ?_
  refine j_aload E 18 dJ7_copyOfRangeByte_39247_16 rfl rfl ?_
  refine j_iconst E (0) 19 dJ7_copyOfRangeByte_39247_18 (by decide) rfl ?_
  refine j_aload_n E 20 dJ7_copyOfRangeByte_39247_19 0 rfl rfl rfl ?_
  refine j_alenB E 21 dJ7_copyOfRangeByte_39247_20 (by repeat (first | with_reducible exact pick_0 | with_reducible apply pick_s)) rfl ?_
  refine j_iload_n E 22 dJ7_copyOfRangeByte_39247_21 1 rfl rfl rfl ?_
  refine j_isub E 23 dJ7_copyOfRangeByte_39247_22 rfl ?_
  refine j_eqi (y := nI (N - i)) (pk_sub (by omega)) ?_
  refine j_iload_n E 24 dJ7_copyOfRangeByte_39247_23 3 rfl rfl rfl ?_
  refine j_mmin E 27 dJ7_copyOfRangeByte_39247_24 mn_J7 (by omega) (Nat.le_of_ble_eq_true rfl) (by omega) (by omega) rfl ?_
  have e9 : (if nI (t - i) < nI (N - i) then nI (t - i) else nI (N - i)) = nI (t - i) := by
    by_cases e : t - i < N - i
    · rw [if_pos (nI_lt e (by omega))]
    · rw [if_neg (nI_nlt (by omega) (by omega)), show N - i = t - i by omega]
  refine j_eqi (y := nI (t - i)) e9 ?_
  refine j_copyB E 30 dJ7_copyOfRangeByte_39247_27 cp_J7 (by repeat (first | with_reducible exact pick_0 | with_reducible apply pick_s)) (by repeat (first | with_reducible exact pick_0 | with_reducible apply pick_s)) (nI_pos (by omega)) (by decide) (nI_pos (by omega)) (by rw [nI_clamp (by omega), nI_clamp (by omega)]; omega) (by rw [nI_clamp (by omega)]; exact Nat.le_of_eq (Nat.zero_add _)) (fun i _ => hf _) (by omega) (Nat.le_of_ble_eq_true rfl) rfl ?_
  refine j_aload E 32 dJ7_copyOfRangeByte_39247_30 rfl rfl ?_
  exact j_aret E B rfl (by first | exact Or.inl ⟨_, rfl⟩ | exact Or.inr ⟨_, rfl⟩) (by first | exact Or.inr ⟨_, rfl⟩ | exact Or.inl rfl) 1 (t - i) dJ7_copyOfRangeByte_39247_32 (by repeat (first | with_reducible exact pick_0 | with_reducible apply pick_s | exact sel_0 | apply sel_s)) ⟨xq, _, rfl, rfl, hf.cpy Fit8.z _ _ _, fun j hj => by rw [nI_clamp (by omega), nI_clamp (by omega)]; exact (pk_cpy_in (Nat.zero_le _) (by omega)).trans (by rw [Nat.sub_zero]), Nat.le_refl _, Nat.le_refl _⟩ (by omega) (by omega) (by omega) (by omega)
set_option maxHeartbeats 4000000 in
theorem c_corB {g : GT} (hG : GLB g) (d : Nat) (hd : 4 ≤ d) (a N i t : Nat) (f : Nat → Int32) (hf : Fit8 f) (hit : i ≤ t) (htN : t ≤ N) (hN : N ≤ 400000) : Ctr g mJ7_copyOfRange_39247 d 1 (t - i) [.ref a, .int (nI i), .int (nI t)] [pt a (aB g N f)] (fun o dc ds ws' => ∃ xq xf, o = some (.ref xq) ∧ ws' = [pt xq (aB g (t - i) xf), pt a (aB g N f)] ∧ Fit8 xf ∧ (∀ j, j < t - i → xf j = f (i + j)) ∧ dc ≤ 1 ∧ ds ≤ t - i) noX := by
  refine ctr_intro hG (by decide +kernel) (Nat.le_of_ble_eq_true rfl) ?_
  rintro X F rfl E B hI T
  replace E : JE X RJ7 cJ7_copyOfRange_39247 3 d 1 (t - i) := E
  show J X _ [pt a (aB X.1 N f), F] 0 0 0 [some (.ref a), some (.int (nI i)), some (.int (nI t))] []
  have part : J X 3 [pt a (aB X.1 N f), F] 0 0 10 [some (.ref a), some (.int (nI i)), some (.int (nI t))] [] := by
    refine j_aload_n E 11 dJ7_copyOfRange_39247_10 0 rfl rfl rfl ?_
    refine j_iload_n E 12 dJ7_copyOfRange_39247_11 1 rfl rfl rfl ?_
    refine j_iload_n E 13 dJ7_copyOfRange_39247_12 2 rfl rfl rfl ?_
    refine j_callS E (c_corBy hG (d-1) (by omega) a N i t f hf hit htN hN) 16 dJ7_copyOfRange_39247_13 iv_J7_339 rfl rfl (by repeat (first | with_reducible exact pick_0 | with_reducible apply pick_s | exact sel_0 | apply sel_s)) (by omega) (by omega) (by omega) (Nat.le_of_ble_eq_true rfl) rfl ?_
    rintro _ xdc xds _ ⟨xq, xf, rfl, rfl, e1, e2, e3, e4⟩
    dsimp only [List.cons_append, List.nil_append, Option.toList]
    exact j_aret E B rfl (by first | exact Or.inl ⟨_, rfl⟩ | exact Or.inr ⟨_, rfl⟩) (by first | exact Or.inr ⟨_, rfl⟩ | exact Or.inl rfl) xdc xds dJ7_copyOfRange_39247_16 (by repeat (first | with_reducible exact pick_0 | with_reducible apply pick_s | exact sel_0 | apply sel_s)) ⟨xq, xf, rfl, rfl, e1, e2, e3, e4⟩ (by omega) (by omega) (by omega) (by omega)
  refine j_iload_n E 1 dJ7_copyOfRange_39247_0 1 rfl rfl rfl ?_
  refine j_if_ne E 10 4 dJ7_copyOfRange_39247_1 (by decide) rfl (fun h1 => ?_) (fun h1 => ?_)
  · exact part
  · have ei : i = 0 := (nI_eq (by omega) (by omega)).mp h1
    subst ei
    refine j_iload_n E 5 dJ7_copyOfRange_39247_4 2 rfl rfl rfl ?_
    refine j_aload_n E 6 dJ7_copyOfRange_39247_5 0 rfl rfl rfl ?_
    refine j_alenB E 7 dJ7_copyOfRange_39247_6 (by repeat (first | with_reducible exact pick_0 | with_reducible apply pick_s)) rfl ?_
    refine j_icmp_eq E 17 10 dJ7_copyOfRange_39247_7 (by decide) rfl (fun h7 => ?_) (fun h7 => ?_)
    · have et : t = N := (nI_eq (by omega) (by omega)).mp h7
      subst et
      refine j_aload_n E 18 dJ7_copyOfRange_39247_17 0 rfl rfl rfl ?_
      refine j_cloneB E 21 dJ7_copyOfRange_39247_18 (by repeat (first | with_reducible exact pick_0 | with_reducible apply pick_s)) hf (by omega) (Nat.le_of_ble_eq_true rfl) (by omega) (by omega) rfl (fun xq => ?_)
      refine j_castB E 24 dJ7_copyOfRange_39247_21 qb_cls (by repeat (first | with_reducible exact pick_0 | with_reducible apply pick_s)) rfl ?_
      exact j_aret E B rfl (by first | exact Or.inl ⟨_, rfl⟩ | exact Or.inr ⟨_, rfl⟩) (by first | exact Or.inr ⟨_, rfl⟩ | exact Or.inl rfl) 1 t dJ7_copyOfRange_39247_24 (by repeat (first | with_reducible exact pick_0 | with_reducible apply pick_s | exact sel_0 | apply sel_s)) ⟨xq, f, rfl, (show [pt xq (aB X.1 t f), pt a (aB X.1 t f)] = _ by rw [Nat.sub_zero]), hf, fun j _ => by rw [Nat.zero_add], Nat.le_refl _, by omega⟩ (by omega) (by omega) (by omega) (by omega)
    · exact part

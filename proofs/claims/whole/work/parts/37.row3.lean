/-! ByteRow: slice, appendAll, hasSameBytes -/
/-- an array of exactly the bytes bs; of none: the empty one of the start -/
def BYS (g : GT) (z : Nat → Nat) (q : Nat) (bs : List UInt8) : Asn := fun w => (bs = [] ∧ q = z 0 ∧ w = []) ∨ (0 < bs.length ∧ ∃ f : Nat → Int32, (Fit8 f ∧ Lat bs f) ∧ pt q (aB g bs.length f) w)
theorem bys_nil {g : GT} {z : Nat → Nat} : ∀ w, sepL [] w → BYS g z (z 0) [] w := fun _ h => Or.inl ⟨rfl, rfl, h⟩
theorem bys_of {g : GT} {z : Nat → Nat} {q N : Nat} {f : Nat → Int32} {bs : List UInt8} (hN : bs.length = N) (h0 : 0 < N) (h1 : Fit8 f) (h2 : Lat bs f) : ∀ w, sepL [pt q (aB g N f)] w → BYS g z q bs w := by
  rintro w ⟨w1, w2, hp, hq1, hq2⟩
  have h3 : w2 = [] := hq2
  subst h3
  rw [List.append_nil] at hp
  have h4 : w1 = [(q, aB g N f)] := hq1
  subst h4
  refine Or.inr ⟨by omega, f, ⟨h1, h2⟩, ?_⟩
  rw [hN]
  exact List.perm_singleton.mp hp
theorem bys_open {g : GT} {z : Nat → Nat} {q : Nat} {bs : List UInt8} (h : 0 < bs.length) : ∀ w, BYS g z q bs w → ∃ f : Nat → Int32, (Fit8 f ∧ Lat bs f) ∧ sepL [pt q (aB g bs.length f)] w := by
  rintro w (⟨hq1, -⟩ | ⟨-, f, hq1, hq2⟩)
  · rw [hq1] at h
    exact absurd h (by decide)
  · exact ⟨f, hq1, w, [], by rw [List.append_nil], hq2, rfl⟩
theorem bys_know {g : GT} {z : Nat → Nat} {q : Nat} {bs : List UInt8} : ∀ w, BYS g z q bs w → (bs = [] ∧ q = z 0) ∨ 0 < bs.length := by
  rintro w (⟨hq1, hq2, -⟩ | ⟨hq1, -⟩)
  · exact Or.inl ⟨hq1, hq2⟩
  · exact Or.inr hq1
section
variable {X : XT} {own : String} {cc : ByteArray} {nL d mc ms k n pc : Nat} {lv : List (Option Value)} {st : List Value} {ws ws1 : List Asn}
theorem j_lenBys {z : Nat → Nat} (hA : GA X.1 z) (E : JE X own cc nL d mc ms) {q : Nat} {bs : List UInt8} (pc' : Nat) (hd : decode cc pc = .ok (.arraylength, 1)) (hp : Pick ws (BYS X.1 z q bs) ws1) (hpc : pc + 1 = pc') (kk : J X nL (BYS X.1 z q bs :: ws1) k n pc' lv (.int (nI bs.length) :: st)) : J X nL ws k n pc lv (.ref q :: st) := by
  refine j_know (pick_know hp bys_know) ?_
  rintro (⟨e1, e2⟩ | e1)
  · subst e1
    subst e2
    refine j_tlen E (nI 0) pc' hd hA.2.2.1.2 rfl hpc ?_
    exact j_mono (ws' := BYS X.1 z (z 0) [] :: ws1) (fun w hw => hp w hw) kk
  · refine j_open hp (bys_open e1) ?_
    rintro f ⟨e2, e3⟩
    refine j_alenB E pc' hd (by exact pick_0) hpc ?_
    exact j_close (sel_s pick_0 sel_0) (bys_of rfl e1 e2 e3) kk
/-- a byte of it -/
theorem j_baldBys {z : Nat → Nat} (E : JE X own cc nL d mc ms) {q i : Nat} {bs : List UInt8} (pc' : Nat) (hd : decode cc pc = .ok (.baload, 1)) (hp : Pick ws (BYS X.1 z q bs) ws1) (hi : i < bs.length) (hN : bs.length < 2 ^ 31) (hpc : pc + 1 = pc') (kk : J X nL (BYS X.1 z q bs :: ws1) k n pc' lv (.int (by8 (bs.getD i 0)) :: st)) : J X nL ws k n pc lv (.int (nI i) :: .ref q :: st) := by
  have e1 : 0 < bs.length := by omega
  refine j_open hp (bys_open e1) ?_
  rintro f ⟨e2, e3⟩
  refine j_bald E pc' hd (by exact pick_0) (vp_in_nI hi hN) hpc ?_
  refine j_eqi (y := by8 (bs.getD i 0)) (by rw [nI_clamp (by omega)]; exact e3 i hi) ?_
  exact j_close (sel_s pick_0 sel_0) (bys_of rfl e1 e2 e3) kk
end
/-- n bytes from i on -/
def cutB (bs : List UInt8) (i n : Nat) : List UInt8 := (bs.drop i).take n
theorem cutB_len {bs : List UInt8} {i n : Nat} (h : i + n ≤ bs.length) : (cutB bs i n).length = n := by
  rw [cutB, List.length_take, List.length_drop]
  omega
theorem cutB_at {bs : List UInt8} {i n j : Nat} (h : j < n) : (cutB bs i n).getD j 0 = bs.getD (i + j) 0 := by
  rw [cutB, getD_take h, List.getD_eq_getElem?_getD, List.getD_eq_getElem?_getD, List.getElem?_drop]
set_option maxHeartbeats 4000000 in
/-- slice(i, n) -/
theorem c_row_slice {g : GT} {z : Nat → Nat} (hA : GA g z) (d : Nat) (hd : 5 ≤ d) (r cap i n : Nat) (bs : List UInt8) (h : i + n ≤ bs.length) : CtrV g mX0_slice 0 d 1 n r [.int (nI i), .int (nI n)] [ROW g r bs cap] (fun o dc ds ws' => ∃ xq, o = some (.ref xq) ∧ ws' = [BYS g z xq (cutB bs i n), ROW g r bs cap] ∧ dc ≤ 1 ∧ ds ≤ n ∧ (n = 0 → dc = 0)) noX := by
  refine ⟨row_rcv, ?_⟩
  have hG := hA.1
  refine ctr_intro hG (by decide +kernel) (Nat.le_of_ble_eq_true rfl) ?_
  rintro X F rfl E B hI T
  replace E : JE X RX0 cX0_slice 3 d 1 n := E
  show J X _ [ROW X.1 r bs cap, F] 0 0 0 [some (.ref r), some (.int (nI i)), some (.int (nI n))] []
  refine j_open (by repeat (first | with_reducible exact pick_0 | with_reducible apply pick_s)) row_open ?_
  rintro ⟨b, f⟩ ⟨h1, h2, h3, h4, h5⟩
  dsimp only [List.cons_append, List.nil_append] at h1 h2 ⊢
  refine j_iload_n E 1 dX0_slice_0 2 rfl rfl rfl ?_
  refine j_if_ne E 10 4 dX0_slice_1 (by decide) rfl (fun hb1 => ?_) (fun hb1 => ?_)
  · refine j_aload_n E 11 dX0_slice_10 0 rfl rfl rfl ?_
    refine j_getf E 14 dX0_slice_11 fl_X0_7 (by repeat (first | with_reducible exact pick_0 | with_reducible apply pick_s)) (by rfl) rfl ?_
    refine j_iload_n E 15 dX0_slice_14 1 rfl rfl rfl ?_
    refine j_iload_n E 16 dX0_slice_15 1 rfl rfl rfl ?_
    refine j_iload_n E 17 dX0_slice_16 2 rfl rfl rfl ?_
    refine j_iadd E 18 dX0_slice_17 rfl ?_
    refine j_eqi (nI_add i n) ?_
    refine j_callS E (c_corB hG (d-1) (by omega) b cap i (i + n) f h1 (by omega) (by omega) (by omega)) 21 dX0_slice_18 iv_X0_40 rfl rfl (by repeat (first | with_reducible exact pick_0 | with_reducible apply pick_s | exact sel_0 | apply sel_s)) (by omega) (by omega) (by omega) (Nat.le_of_ble_eq_true rfl) rfl ?_
    rintro _ xdc xds _ ⟨xq, xf, rfl, rfl, e1, e2, e3, e4⟩
    rw [Nat.add_sub_cancel_left] at e2 e4 ⊢
    dsimp only [List.cons_append, List.nil_append, Option.toList]
    have h0 : 0 < n := by
      rcases Nat.eq_zero_or_pos n with e | e
      · subst e
        exact absurd rfl hb1
      · exact e
    refine row_close bs (by repeat (first | with_reducible exact pick_0 | with_reducible apply pick_s | exact sel_0 | apply sel_s)) rfl h1 h2 h3 h4 h5 ?_
    refine j_close (P := BYS X.1 z xq (cutB bs i n)) (by repeat (first | with_reducible exact pick_0 | with_reducible apply pick_s | exact sel_0 | apply sel_s)) (bys_of (z := z) (cutB_len h) h0 e1 (fun j hj => ?_)) ?_
    · rw [cutB_len h] at hj
      rw [e2 j hj, h2 (i + j) (by omega), cutB_at hj]
    · exact j_aret E B rfl (by first | exact Or.inl ⟨_, rfl⟩ | exact Or.inr ⟨_, rfl⟩) (by first | exact Or.inr ⟨_, rfl⟩ | exact Or.inl rfl) xdc xds dX0_slice_21 (by repeat (first | with_reducible exact pick_0 | with_reducible apply pick_s | exact sel_0 | apply sel_s)) ⟨xq, rfl, rfl, e3, e4, fun e => by omega⟩ (by omega) (by omega) (by omega) (by omega)
  · have h0 : n = 0 := (nI_eq (by omega) (by omega)).mp hb1
    subst h0
    refine j_getsN E 7 dX0_slice_4 hA.2.2.1.1 gs_X0_35 rfl ?_
    refine j_goto E 21 dX0_slice_7 (by decide) ?_
    refine row_close bs (by repeat (first | with_reducible exact pick_0 | with_reducible apply pick_s | exact sel_0 | apply sel_s)) rfl h1 h2 h3 h4 h5 ?_
    refine j_close (P := BYS X.1 z (z 0) (cutB bs i 0)) (qs := []) (by repeat (first | with_reducible exact pick_0 | with_reducible apply pick_s | exact sel_0 | apply sel_s)) (fun w hw => bys_nil w hw) ?_
    exact j_aret E B rfl (by first | exact Or.inl ⟨_, rfl⟩ | exact Or.inr ⟨_, rfl⟩) (by first | exact Or.inr ⟨_, rfl⟩ | exact Or.inl rfl) 0 0 dX0_slice_21 (by repeat (first | with_reducible exact pick_0 | with_reducible apply pick_s | exact sel_0 | apply sel_s)) ⟨z 0, rfl, rfl, by omega, by omega, fun _ => rfl⟩ (by omega) (by omega) (by omega) (by omega)
theorem lat_cat {bs cs : List UInt8} {f h : Nat → Int32} (hf : Lat bs f) (hh : Lat cs h) (n : Nat) (hn : n = cs.length) : Lat (bs ++ cs) (va_cpy h f 0 bs.length n) := fun j hj => by
  subst hn
  rw [List.length_append] at hj
  by_cases e : j < bs.length
  · rw [pk_cpy_out (Or.inl e), hf j e]
    simp [List.getD_eq_getElem?_getD, List.getElem?_append_left e]
  · rw [pk_cpy_in (by omega) (by omega), Nat.zero_add, hh _ (by omega)]
    simp [List.getD_eq_getElem?_getD, List.getElem?_append_right (Nat.le_of_not_lt e)]
set_option maxHeartbeats 4000000 in
/-- appendAll(more) -/
theorem c_row_all {g : GT} {z : Nat → Nat} (hA : GA g z) (d : Nat) (hd : 5 ≤ d) (r cap q : Nat) (bs cs : List UInt8) (hm : bs.length + cs.length ≤ 65536) : CtrV g mX0_appendAll 0 d 1 131072 r [.ref q] [ROW g r bs cap, BYS g z q cs] (fun o dc ds ws' => ∃ xcap, o = none ∧ ws' = [ROW g r (bs ++ cs) xcap, BYS g z q cs] ∧ cap ≤ xcap ∧ 64 * dc + cap ≤ xcap ∧ ds + 2 * cap ≤ 2 * xcap ∧ dc ≤ 1 ∧ ds ≤ 131072) noX := by
  refine ⟨row_rcv, ?_⟩
  have hG := hA.1
  refine ctr_intro hG (by decide +kernel) (Nat.le_of_ble_eq_true rfl) ?_
  rintro X F rfl E B hI T
  replace E : JE X RX0 cX0_appendAll 2 d 1 131072 := E
  show J X _ [ROW X.1 r bs cap, BYS X.1 z q cs, F] 0 0 0 [some (.ref r), some (.ref q)] []
  have hcl : cs.length < 2 ^ 31 := by omega
  have tail : ∀ (xdc xds xcap b : Nat) (f : Nat → Int32), Fit8 f → Lat bs f → bs.length + cs.length ≤ xcap → 64 ≤ xcap → xcap ≤ 131072 → cap ≤ xcap → 64 * xdc + cap ≤ xcap → xds + 2 * cap ≤ 2 * xcap → xdc ≤ 1 → xds ≤ 131072 → J X 2 [pt r (.inr (0, [.ref b, .int (nI bs.length)])), pt b (aB X.1 xcap f), BYS X.1 z q cs, F] (0 + xdc) (0 + xds) 43 [some (.ref r), some (.ref q)] [] := by
    intro xdc xds xcap b f h1 h2 g1 h4 h5 g2 g3 g4 g5 g6
    refine j_aload_n E 44 dX0_appendAll_43 1 rfl rfl rfl ?_
    refine j_iconst E (0) 45 dX0_appendAll_44 (by decide) rfl ?_
    refine j_aload_n E 46 dX0_appendAll_45 0 rfl rfl rfl ?_
    refine j_getf E 49 dX0_appendAll_46 fl_X0_7 (by repeat (first | with_reducible exact pick_0 | with_reducible apply pick_s)) (by rfl) rfl ?_
    refine j_aload_n E 50 dX0_appendAll_49 0 rfl rfl rfl ?_
    refine j_getf E 53 dX0_appendAll_50 fl_X0_13 (by repeat (first | with_reducible exact pick_0 | with_reducible apply pick_s)) (by rfl) rfl ?_
    refine j_aload_n E 54 dX0_appendAll_53 1 rfl rfl rfl ?_
    refine j_lenBys hA E 55 dX0_appendAll_54 (by repeat (first | with_reducible exact pick_0 | with_reducible apply pick_s)) rfl ?_
    have rest : ∀ xf : Nat → Int32, Fit8 xf → Lat (bs ++ cs) xf → J X 2 [pt b (aB X.1 xcap xf), pt r (.inr (0, [.ref b, .int (nI bs.length)])), BYS X.1 z q cs, F] (0 + xdc) (0 + xds) 58 [some (.ref r), some (.ref q)] [] := by
      intro xf e1 e2
      refine j_aload_n E 59 dX0_appendAll_58 0 rfl rfl rfl ?_
      refine j_dup E 60 dX0_appendAll_59 rfl rfl ?_
      refine j_getf E 63 dX0_appendAll_60 fl_X0_13 (by repeat (first | with_reducible exact pick_0 | with_reducible apply pick_s)) (by rfl) rfl ?_
      refine j_aload_n E 64 dX0_appendAll_63 1 rfl rfl rfl ?_
      refine j_lenBys hA E 65 dX0_appendAll_64 (by repeat (first | with_reducible exact pick_0 | with_reducible apply pick_s)) rfl ?_
      refine j_iadd E 66 dX0_appendAll_65 rfl ?_
      refine j_eqi (nI_add bs.length cs.length) ?_
      refine j_putf E 69 dX0_appendAll_66 fl_X0_13 (by repeat (first | with_reducible exact pick_0 | with_reducible apply pick_s)) rfl rfl (Nat.le_of_ble_eq_true rfl) rfl ?_
      dsimp only [List.set]
      refine row_close (bs ++ cs) (by repeat (first | with_reducible exact pick_0 | with_reducible apply pick_s | exact sel_0 | apply sel_s)) (List.length_append) e1 e2 (by rw [List.length_append]; exact g1) h4 h5 ?_
      exact j_vret E B rfl xdc xds dX0_appendAll_69 (by repeat (first | with_reducible exact pick_0 | with_reducible apply pick_s | exact sel_0 | apply sel_s)) ⟨xcap, rfl, rfl, g2, g3, g4, g5, g6⟩ (by omega) (by omega) (by omega) (by omega)
    refine j_know (pick_know (by exact pick_0) bys_know) ?_
    rintro (⟨e1, e2⟩ | e1)
    · subst e1
      subst e2
      refine j_copyTB E 58 dX0_appendAll_55 cp_X0 hA.2.2.1.2 (by repeat (first | with_reducible exact pick_0 | with_reducible apply pick_s)) (by decide) (nI_pos (by omega)) (nI_pos (by exact hcl)) (by show 0 + 0 ≤ 0; omega) (by rw [nI_clamp (by omega)]; show bs.length + 0 ≤ xcap; omega) (fun i _ => rfl) (by omega) (Nat.le_of_ble_eq_true rfl) rfl ?_
      rw [nI_clamp (n := bs.length) (by omega), show Int32.toNatClampNeg 0 = 0 from rfl, show (nI ([] : List UInt8).length).toNatClampNeg = ([] : List UInt8).length from rfl]
      exact j_sel (by repeat (first | with_reducible exact pick_0 | with_reducible apply pick_s | exact sel_0 | apply sel_s)) (rest _ (Fit8.cpy Fit8.z h1 _ _ _) (lat_cat h2 Lat.nil _ rfl))
    · refine j_open (by repeat (first | with_reducible exact pick_0 | with_reducible apply pick_s)) (bys_open e1) ?_
      rintro xh ⟨e2, e3⟩
      dsimp only [List.cons_append, List.nil_append]
      refine j_copyB E 58 dX0_appendAll_55 cp_X0 (by repeat (first | with_reducible exact pick_0 | with_reducible apply pick_s)) (by repeat (first | with_reducible exact pick_0 | with_reducible apply pick_s)) (by decide) (nI_pos (by omega)) (nI_pos (by omega)) (by rw [nI_clamp (by omega)]; exact Nat.le_of_eq (Nat.zero_add _)) (by rw [nI_clamp (by omega), nI_clamp (by omega)]; exact g1) (fun i _ => e2 _) (by omega) (Nat.le_of_ble_eq_true rfl) rfl ?_
      rw [nI_clamp (by omega), nI_clamp (by omega), show Int32.toNatClampNeg 0 = 0 from rfl]
      refine j_close (P := BYS X.1 z q cs) (by repeat (first | with_reducible exact pick_0 | with_reducible apply pick_s | exact sel_0 | apply sel_s)) (bys_of (z := z) rfl e1 e2 e3) ?_
      exact j_sel (by repeat (first | with_reducible exact pick_0 | with_reducible apply pick_s | exact sel_0 | apply sel_s)) (rest _ (Fit8.cpy e2 h1 _ _ _) (lat_cat h2 e3 _ rfl))
  refine j_open (by repeat (first | with_reducible exact pick_0 | with_reducible apply pick_s)) row_open ?_
  rintro ⟨b, f⟩ ⟨h1, h2, h3, h4, h5⟩
  dsimp only [List.cons_append, List.nil_append] at h1 h2 ⊢
  refine j_aload_n E 1 dX0_appendAll_0 0 rfl rfl rfl ?_
  refine j_getf E 4 dX0_appendAll_1 fl_X0_13 (by repeat (first | with_reducible exact pick_0 | with_reducible apply pick_s)) (by rfl) rfl ?_
  refine j_aload_n E 5 dX0_appendAll_4 1 rfl rfl rfl ?_
  refine j_lenBys hA E 6 dX0_appendAll_5 (by repeat (first | with_reducible exact pick_0 | with_reducible apply pick_s)) rfl ?_
  refine j_iadd E 7 dX0_appendAll_6 rfl ?_
  refine j_eqi (nI_add bs.length cs.length) ?_
  refine j_aload_n E 8 dX0_appendAll_7 0 rfl rfl rfl ?_
  refine j_getf E 11 dX0_appendAll_8 fl_X0_7 (by repeat (first | with_reducible exact pick_0 | with_reducible apply pick_s)) (by rfl) rfl ?_
  refine j_alenB E 12 dX0_appendAll_11 (by repeat (first | with_reducible exact pick_0 | with_reducible apply pick_s)) rfl ?_
  refine j_icmp_le E 43 15 dX0_appendAll_12 (by decide) rfl (fun h12 => ?_) (fun h12 => ?_)
  · have h9 : bs.length + cs.length ≤ cap := (nI_leI (by omega) (by omega)).mp h12
    exact j_sel (by repeat (first | with_reducible exact pick_0 | with_reducible apply pick_s | exact sel_0 | apply sel_s)) (tail 0 0 cap b f h1 h2 h9 h4 h5 (Nat.le_refl _) (by omega) (by omega) (by omega) (by omega))
  · have h9 : cap < bs.length + cs.length := Nat.lt_of_not_le fun h => h12 (nI_le h (by omega))
    refine j_aload_n E 16 dX0_appendAll_15 0 rfl rfl rfl ?_
    refine j_aload_n E 17 dX0_appendAll_16 0 rfl rfl rfl ?_
    refine j_getf E 20 dX0_appendAll_17 fl_X0_7 (by repeat (first | with_reducible exact pick_0 | with_reducible apply pick_s)) (by rfl) rfl ?_
    refine j_aload_n E 21 dX0_appendAll_20 0 rfl rfl rfl ?_
    refine j_getf E 24 dX0_appendAll_21 fl_X0_13 (by repeat (first | with_reducible exact pick_0 | with_reducible apply pick_s)) (by rfl) rfl ?_
    refine j_aload_n E 25 dX0_appendAll_24 1 rfl rfl rfl ?_
    refine j_lenBys hA E 26 dX0_appendAll_25 (by repeat (first | with_reducible exact pick_0 | with_reducible apply pick_s)) rfl ?_
    refine j_iadd E 27 dX0_appendAll_26 rfl ?_
    refine j_eqi (nI_add bs.length cs.length) ?_
    refine j_iconst E (2) 28 dX0_appendAll_27 (by decide) rfl ?_
    refine j_aload_n E 29 dX0_appendAll_28 0 rfl rfl rfl ?_
    refine j_getf E 32 dX0_appendAll_29 fl_X0_7 (by repeat (first | with_reducible exact pick_0 | with_reducible apply pick_s)) (by rfl) rfl ?_
    refine j_alenB E 33 dX0_appendAll_32 (by repeat (first | with_reducible exact pick_0 | with_reducible apply pick_s)) rfl ?_
    refine j_imul E 34 dX0_appendAll_33 rfl ?_
    refine j_eqi (y := nI (2 * cap)) (pk_mul 2 cap) ?_
    refine j_mmax E 37 dX0_appendAll_34 mx_X0 (by omega) (Nat.le_of_ble_eq_true rfl) (by omega) (by omega) rfl ?_
    obtain ⟨cap', hc, hc1, hc2, hc3⟩ := n_max (a := bs.length + cs.length) (b := 2 * cap) (by omega) (by omega)
    refine j_eqi hc ?_
    refine j_callS E (c_copyOfB hG (d-1) (by omega) b cap cap' f h1 (by omega) (by omega)) 40 dX0_appendAll_37 iv_X0_17 rfl rfl (by repeat (first | with_reducible exact pick_0 | with_reducible apply pick_s | exact sel_0 | apply sel_s)) (by omega) (by omega) (by omega) (Nat.le_of_ble_eq_true rfl) rfl ?_
    rintro _ dc ds _ ⟨e1, e2, q2, f', rfl, rfl, g1, g2⟩
    dsimp only [List.cons_append, List.nil_append, Option.toList]
    refine j_putf E 43 dX0_appendAll_40 fl_X0_7 (by repeat (first | with_reducible exact pick_0 | with_reducible apply pick_s)) rfl rfl (Nat.le_of_ble_eq_true rfl) rfl ?_
    dsimp only [List.set]
    exact j_sel (by repeat (first | with_reducible exact pick_0 | with_reducible apply pick_s | exact sel_0 | apply sel_s)) (tail dc ds cap' q2 f' g1 (h2.congr fun j hj => g2 j (by omega)) (by omega) (by omega) (by omega) (by omega) (by omega) (by omega) e1 (by omega))
set_option maxHeartbeats 4000000 in
/-- hasSameBytes(other) -/
theorem c_row_same {g : GT} (hG : GLB g) (d r cap r2 cap2 : Nat) (bs cs : List UInt8) : CtrV g mX0_hasSameBytes 0 d 0 0 r [.ref r2] [ROW g r bs cap, ROW g r2 cs cap2] (fun o dc ds ws' => o = some (.int (if bs = cs then 1 else 0)) ∧ dc = 0 ∧ ds = 0 ∧ ws' = [ROW g r bs cap, ROW g r2 cs cap2]) noX := by
  refine ⟨row_rcv, ?_⟩
  refine ctr_intro hG (by decide +kernel) (Nat.le_of_ble_eq_true rfl) ?_
  rintro X F rfl E B hI T
  replace E : JE X RX0 cX0_hasSameBytes 3 d 0 0 := E
  show J X _ [ROW X.1 r bs cap, ROW X.1 r2 cs cap2, F] 0 0 0 [some (.ref r), some (.ref r2), none] []
  refine j_open (by repeat (first | with_reducible exact pick_0 | with_reducible apply pick_s)) row_open ?_
  rintro ⟨b, f⟩ ⟨h1, h2, h3, h4, h5⟩
  dsimp only [List.cons_append, List.nil_append] at h1 h2 ⊢
  refine j_open (P := ROW X.1 r2 cs cap2) (by repeat (first | with_reducible exact pick_0 | with_reducible apply pick_s)) row_open ?_
  rintro ⟨b2, f2⟩ ⟨k1, k2, k3, k4, k5⟩
  dsimp only [List.cons_append, List.nil_append] at k1 k2 ⊢
  refine j_aload_n E 1 dX0_hasSameBytes_0 0 rfl rfl rfl ?_
  refine j_getf E 4 dX0_hasSameBytes_1 fl_X0_13 (by repeat (first | with_reducible exact pick_0 | with_reducible apply pick_s)) (by rfl) rfl ?_
  refine j_aload_n E 5 dX0_hasSameBytes_4 1 rfl rfl rfl ?_
  refine j_getf E 8 dX0_hasSameBytes_5 fl_X0_13 (by repeat (first | with_reducible exact pick_0 | with_reducible apply pick_s)) (by rfl) rfl ?_
  refine j_icmp_eq E 13 11 dX0_hasSameBytes_8 (by decide) rfl (fun hb8 => ?_) (fun hb8 => ?_)
  · have hl : bs.length = cs.length := (nI_eq (by omega) (by omega)).mp hb8
    refine j_iconst E (0) 14 dX0_hasSameBytes_13 (by decide) rfl ?_
    refine j_istore_n E 15 dX0_hasSameBytes_14 2 rfl (Nat.le_of_ble_eq_true rfl) rfl rfl ?_
    dsimp only [List.set]
    have loop : ∀ (q i : Nat), i + q = bs.length → (∀ j, j < i → bs.getD j 0 = cs.getD j 0) → J X 3 [pt r2 (.inr (0, [.ref b2, .int (nI cs.length)])), pt b2 (aB X.1 cap2 f2), pt r (.inr (0, [.ref b, .int (nI bs.length)])), pt b (aB X.1 cap f), F] 0 0 15 [some (.ref r), some (.ref r2), some (.int (nI i))] [] := by
      intro q
      induction q with
      | zero =>
        intro i hi hj
        refine j_iload_n E 16 dX0_hasSameBytes_15 2 rfl rfl rfl ?_
        refine j_aload_n E 17 dX0_hasSameBytes_16 0 rfl rfl rfl ?_
        refine j_getf E 20 dX0_hasSameBytes_17 fl_X0_13 (by repeat (first | with_reducible exact pick_0 | with_reducible apply pick_s)) (by rfl) rfl ?_
        refine j_icmp_ge E 46 23 dX0_hasSameBytes_20 (by decide) rfl (fun hb20 => ?_) (fun hb20 => ?_)
        · refine j_iconst E (1) 47 dX0_hasSameBytes_46 (by decide) rfl ?_
          have e : bs = cs := by
            refine List.ext_getElem hl (fun j q1 q2 => ?_)
            have := hj j (by omega)
            rw [List.getD_eq_getElem?_getD, List.getD_eq_getElem?_getD, List.getElem?_eq_getElem q1, List.getElem?_eq_getElem q2] at this
            exact this
          refine row_close (f := f2) cs (by repeat (first | with_reducible exact pick_0 | with_reducible apply pick_s | exact sel_0 | apply sel_s)) rfl k1 k2 k3 k4 k5 ?_
          refine row_close (f := f) bs (by repeat (first | with_reducible exact pick_0 | with_reducible apply pick_s | exact sel_0 | apply sel_s)) rfl h1 h2 h3 h4 h5 ?_
          exact j_zret E B rfl (by first | exact Or.inl rfl | exact Or.inr rfl) 0 0 dX0_hasSameBytes_47 (by repeat (first | with_reducible exact pick_0 | with_reducible apply pick_s | exact sel_0 | apply sel_s)) ⟨by rw [if_pos e], rfl, rfl, rfl⟩ (by omega) (by omega) (by omega) (by omega)
        · exact absurd (nI_le (by omega) (by omega)) hb20
      | succ q ih =>
        intro i hi hj
        refine j_iload_n E 16 dX0_hasSameBytes_15 2 rfl rfl rfl ?_
        refine j_aload_n E 17 dX0_hasSameBytes_16 0 rfl rfl rfl ?_
        refine j_getf E 20 dX0_hasSameBytes_17 fl_X0_13 (by repeat (first | with_reducible exact pick_0 | with_reducible apply pick_s)) (by rfl) rfl ?_
        refine j_icmp_ge E 46 23 dX0_hasSameBytes_20 (by decide) rfl (fun hb20 => ?_) (fun hb20 => ?_)
        · exact absurd hb20 (nI_ge (by omega) (by omega))
        · refine j_aload_n E 24 dX0_hasSameBytes_23 0 rfl rfl rfl ?_
          refine j_getf E 27 dX0_hasSameBytes_24 fl_X0_7 (by repeat (first | with_reducible exact pick_0 | with_reducible apply pick_s)) (by rfl) rfl ?_
          refine j_iload_n E 28 dX0_hasSameBytes_27 2 rfl rfl rfl ?_
          refine j_bald E 29 dX0_hasSameBytes_28 (by repeat (first | with_reducible exact pick_0 | with_reducible apply pick_s)) (vp_in_nI (by omega) (by omega)) rfl ?_
          refine j_eqi (y := by8 (bs.getD i 0)) (by rw [nI_clamp (by omega)]; exact h2 i (by omega)) ?_
          refine j_aload_n E 30 dX0_hasSameBytes_29 1 rfl rfl rfl ?_
          refine j_getf E 33 dX0_hasSameBytes_30 fl_X0_7 (by repeat (first | with_reducible exact pick_0 | with_reducible apply pick_s)) (by rfl) rfl ?_
          refine j_iload_n E 34 dX0_hasSameBytes_33 2 rfl rfl rfl ?_
          refine j_bald E 35 dX0_hasSameBytes_34 (by repeat (first | with_reducible exact pick_0 | with_reducible apply pick_s)) (vp_in_nI (by omega) (by omega)) rfl ?_
          refine j_eqi (y := by8 (cs.getD i 0)) (by rw [nI_clamp (by omega)]; exact k2 i (by omega)) ?_
          refine j_icmp_eq E 40 38 dX0_hasSameBytes_35 (by decide) rfl (fun hb35 => ?_) (fun hb35 => ?_)
          · refine j_iinc E _ 43 dX0_hasSameBytes_40 rfl rfl (Nat.le_of_ble_eq_true rfl) rfl rfl ?_
            dsimp only [List.set]
            refine j_goto E 15 dX0_hasSameBytes_43 (by decide) ?_
            have := ih (i + 1) (by omega) (fun j q1 => by
              by_cases e : j = i
              · rw [e]
                exact by8_inj.mp hb35
              · exact hj j (by omega))
            rw [← nI_1] at this
            exact this
          · refine j_iconst E (0) 39 dX0_hasSameBytes_38 (by decide) rfl ?_
            have e : ¬ bs = cs := fun e => hb35 (by rw [e])
            refine row_close (f := f2) cs (by repeat (first | with_reducible exact pick_0 | with_reducible apply pick_s | exact sel_0 | apply sel_s)) rfl k1 k2 k3 k4 k5 ?_
            refine row_close (f := f) bs (by repeat (first | with_reducible exact pick_0 | with_reducible apply pick_s | exact sel_0 | apply sel_s)) rfl h1 h2 h3 h4 h5 ?_
            exact j_zret E B rfl (by first | exact Or.inl rfl | exact Or.inr rfl) 0 0 dX0_hasSameBytes_39 (by repeat (first | with_reducible exact pick_0 | with_reducible apply pick_s | exact sel_0 | apply sel_s)) ⟨by rw [if_neg e], rfl, rfl, rfl⟩ (by omega) (by omega) (by omega) (by omega)
    exact loop bs.length 0 (Nat.zero_add _) (fun j q1 => absurd q1 (Nat.not_lt_zero _))
  · refine j_iconst E (0) 12 dX0_hasSameBytes_11 (by decide) rfl ?_
    have e : ¬ bs = cs := fun e => hb8 (by rw [e])
    refine row_close (f := f2) cs (by repeat (first | with_reducible exact pick_0 | with_reducible apply pick_s | exact sel_0 | apply sel_s)) rfl k1 k2 k3 k4 k5 ?_
    refine row_close (f := f) bs (by repeat (first | with_reducible exact pick_0 | with_reducible apply pick_s | exact sel_0 | apply sel_s)) rfl h1 h2 h3 h4 h5 ?_
    exact j_zret E B rfl (by first | exact Or.inl rfl | exact Or.inr rfl) 0 0 dX0_hasSameBytes_12 (by repeat (first | with_reducible exact pick_0 | with_reducible apply pick_s | exact sel_0 | apply sel_s)) ⟨by rw [if_neg e], rfl, rfl, rfl⟩ (by omega) (by omega) (by omega) (by omega)

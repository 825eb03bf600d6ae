/-! Values -/
theorem cc_X6_26 : W9 (.classLink RX6 26 "PackedGraph$Value") := ⟨List.mem_append_right _ (List.mem_of_getElem? (i := 286) (by decide +kernel)), by decide +kernel⟩
theorem cc_X4_131 : W9 (.classLink RX4 131 "PackedGraph$Value") := ⟨List.mem_append_right _ (List.mem_of_getElem? (i := 771) (by decide +kernel)), by decide +kernel⟩
theorem cc_X3_55 : W9 (.classLink RX3 55 "PackedGraph$Value") := ⟨List.mem_append_right _ (List.mem_of_getElem? (i := 994) (by decide +kernel)), by decide +kernel⟩
theorem has_1 {P : Asn} {L : List Asn} {a ci : Nat} (h : Has P a ci) : Has (sepL (P :: L)) a ci := fun w hw => by
  obtain ⟨w1, w2, hp, h1, -⟩ := hw
  obtain ⟨fs, hf⟩ := h w1 h1
  exact ⟨fs, hp.symm.subset (List.mem_append_left _ hf)⟩
theorem has_2 {P : Asn} {L : List Asn} {a ci : Nat} (h : Has (sepL L) a ci) : Has (sepL (P :: L)) a ci := fun w hw => by
  obtain ⟨w1, w2, hp, -, h1⟩ := hw
  obtain ⟨fs, hf⟩ := h w2 h1
  exact ⟨fs, hp.symm.subset (List.mem_append_right _ hf)⟩
theorem has_pt {a ci : Nat} {fs : List Value} : Has (pt a (.inr (ci, fs))) a ci := fun w hw => by
  have h2 : w = [(a, .inr (ci, fs))] := hw
  exact ⟨fs, by rw [h2]; exact List.mem_singleton.mpr rfl⟩
/-- an entry: its place in the heap, the value, as which it was come to -/
abbrev VE : Type := Nat × VT × Int32
def VSL (g : GT) (z : Nat → Nat) : Nat → List VE → Asn
  | _, [] => emp
  | i, e :: L => star (VAL g z e.1 i e.2.1 e.2.2) (VSL g z (i + 1) L)
theorem vsl_perm {g : GT} {z : Nat → Nat} {i : Nat} {L : List VE} {w w' : va_W} (hp : w'.Perm w) (h : VSL g z i L w) : VSL g z i L w' := by
  cases L with
  | nil =>
    have h1 : w = [] := h
    subst h1
    exact List.perm_nil.mp hp
  | cons e L => exact star_perm hp h
theorem vsl_one {g : GT} {z : Nat → Nat} {i : Nat} {L : List VE} : ∀ w, sepL [VSL g z i L] w → VSL g z i L w := by
  rintro w ⟨w1, w2, hp, hq1, hq2⟩
  have h3 : w2 = [] := hq2
  subst h3
  rw [List.append_nil] at hp
  exact vsl_perm hp hq1
theorem vsl_split {g : GT} {z : Nat → Nat} : ∀ {L M : List VE} {i : Nat} {w : va_W}, VSL g z i (L ++ M) w → star (VSL g z i L) (VSL g z (i + L.length) M) w
  | [], M, i, w, h => ⟨[], w, List.Perm.refl _, rfl, h⟩
  | e :: L, M, i, w, h => by
    obtain ⟨w1, w2, hp, h1, h2⟩ := h
    obtain ⟨u1, u2, hq, g1, g2⟩ := vsl_split (L := L) h2
    refine ⟨w1 ++ u1, u2, ?_, ⟨w1, u1, List.Perm.refl _, h1, g1⟩, ?_⟩
    · rw [List.append_assoc]
      exact hp.trans (hq.append_left w1)
    · rw [List.length_cons, show i + (L.length + 1) = i + 1 + L.length by omega]
      exact g2
theorem vsl_join {g : GT} {z : Nat → Nat} : ∀ {L M : List VE} {i : Nat} {w : va_W}, star (VSL g z i L) (VSL g z (i + L.length) M) w → VSL g z i (L ++ M) w
  | [], M, i, w, h => by
    obtain ⟨w1, w2, hp, h1, h2⟩ := h
    have h3 : w1 = [] := h1
    subst h3
    exact vsl_perm hp h2
  | e :: L, M, i, w, h => by
    obtain ⟨w1, w2, hp, ⟨u1, u2, hq, g1, g2⟩, h2⟩ := h
    refine ⟨u1, u2 ++ w2, ?_, g1, vsl_join ⟨u2, w2, List.Perm.refl _, g2, ?_⟩⟩
    · rw [← List.append_assoc]
      exact hp.trans (hq.append_right w2)
    · rw [List.length_cons, show i + (L.length + 1) = i + 1 + L.length by omega] at h2
      exact h2
/-- the j-th, apart -/
theorem vsl_open {g : GT} {z : Nat → Nat} {L : List VE} {j : Nat} {e : VE} (h : L[j]? = some e) : ∀ w, VSL g z 0 L w → ∃ _x : Unit, True ∧ sepL [VAL g z e.1 j e.2.1 e.2.2, VSL g z 0 (L.take j), VSL g z (j + 1) (L.drop (j + 1))] w := by
  intro w hw
  obtain ⟨hj, he⟩ := List.getElem?_eq_some_iff.mp h
  have e1 : L = L.take j ++ e :: L.drop (j + 1) := by rw [← he]; simp
  rw [e1] at hw
  obtain ⟨w1, w2, hp, h1, u1, u2, hq, g1, g2⟩ := vsl_split hw
  have el : (L.take j).length = j := by rw [List.length_take]; omega
  rw [el, Nat.zero_add] at g1 g2
  refine ⟨(), trivial, u1, w1 ++ u2, ?_, g1, w1, u2, List.Perm.refl _, h1, sep_sing g2⟩
  exact (hp.trans (hq.append_left w1)).trans perm_swap3
theorem vsl_set {g : GT} {z : Nat → Nat} {L : List VE} {j : Nat} (e : VE) (hj : j < L.length) : ∀ w, sepL [VAL g z e.1 j e.2.1 e.2.2, VSL g z 0 (L.take j), VSL g z (j + 1) (L.drop (j + 1))] w → VSL g z 0 (L.set j e) w := by
  rintro w ⟨w1, w2, hp, h1, u1, u2, hq, g1, t1, t2, hr, f1, f2⟩
  have h3 : t2 = [] := f2
  subst h3
  rw [List.append_nil] at hr
  have e1 : L.set j e = L.take j ++ e :: L.drop (j + 1) := by
    refine List.ext_getElem? fun i => ?_
    rw [List.getElem?_set]
    by_cases e2 : i < j
    · rw [if_neg (by omega), List.getElem?_append_left (by rw [List.length_take]; omega), List.getElem?_take_of_lt e2]
    · rw [List.getElem?_append_right (by rw [List.length_take]; omega), List.length_take, show min j L.length = j by omega]
      by_cases e3 : j = i
      · rw [if_pos e3, e3, if_pos (by omega), Nat.sub_self]; rfl
      · rw [if_neg e3, show i - j = (i - j - 1) + 1 by omega, List.getElem?_cons_succ, List.getElem?_drop]
        congr 1
        omega
  rw [e1]
  have el : (L.take j).length = j := by rw [List.length_take]; omega
  refine vsl_join ⟨u1, w1 ++ u2, ?_, g1, ?_⟩
  · exact (hp.trans (hq.append_left w1)).trans perm_swap3
  · rw [el, Nat.zero_add]
    exact ⟨w1, u2, List.Perm.refl _, h1, vsl_perm hr f1⟩
theorem vsl_has {g : GT} {z : Nat → Nat} : ∀ {L : List VE} {i : Nat}, ∀ x ∈ L.map (·.1), Has (VSL g z i L) x 4
  | [], _, x, h => absurd h List.not_mem_nil
  | e :: L, i, x, h => fun w hw => by
    obtain ⟨w1, w2, hp, h1, h2⟩ := hw
    rcases List.mem_cons.mp (show x ∈ e.1 :: L.map (·.1) from h) with e1 | e1
    · obtain ⟨fs, hf⟩ := val_has w1 h1
      exact ⟨fs, by rw [e1]; exact hp.symm.subset (List.mem_append_left _ hf)⟩
    · obtain ⟨fs, hf⟩ := vsl_has x e1 w2 h2
      exact ⟨fs, hp.symm.subset (List.mem_append_right _ hf)⟩
theorem vsl_snoc {g : GT} {z : Nat → Nat} {L : List VE} {j : Nat} (e : VE) (hj : j = L.length) : ∀ w, sepL [VAL g z e.1 j e.2.1 e.2.2, VSL g z 0 L] w → VSL g z 0 (L ++ [e]) w := by
  rintro w ⟨w1, w2, hp, h1, u1, u2, hq, g1, g2⟩
  have h3 : u2 = [] := g2
  subst h3
  rw [List.append_nil] at hq
  refine vsl_join ⟨u1, w1, (hp.trans (hq.append_left w1)).trans List.perm_append_comm, g1, ?_⟩
  rw [Nat.zero_add, ← hj]
  exact ⟨w1, [], by rw [List.append_nil], h1, rfl⟩
theorem vsl_pop {g : GT} {z : Nat → Nat} {L : List VE} {e : VE} : ∀ w, VSL g z 0 (L ++ [e]) w → ∃ _x : Unit, True ∧ sepL [VSL g z 0 L, VAL g z e.1 (0 + L.length) e.2.1 e.2.2] w := fun w hw => by
  obtain ⟨w1, w2, hp, h1, u1, u2, hq, g1, g2⟩ := vsl_split hw
  have h3 : u2 = [] := g2
  subst h3
  rw [List.append_nil] at hq
  exact ⟨(), trivial, w1, w2, hp, h1, u1, [], by rw [List.append_nil]; exact hq, g1, rfl⟩
def adr (vs : List VE) : List Nat := vs.map (·.1)
theorem adr_len (vs : List VE) : (adr vs).length = vs.length := List.length_map _
def VLSo (g : GT) (z : Nat → Nat) (s : Nat) (vs : List VE) (np nb cap al : Nat) : List Asn := [pt s (.inr (5, [.ref al, .int (nI np), .int (nI nb)])), LST g z al (adr vs) cap, VSL g z 0 vs]
/-- the values vs, np parts, nb bytes counted; the list has cap places -/
def VLS (g : GT) (z : Nat → Nat) (s : Nat) (vs : List VE) (np nb cap : Nat) : Asn := fun w => ∃ al : Nat, sepL (VLSo g z s vs np nb cap al) w
theorem vls_open {g : GT} {z : Nat → Nat} {s np nb cap : Nat} {vs : List VE} : ∀ w, VLS g z s vs np nb cap w → ∃ al : Nat, True ∧ sepL (VLSo g z s vs np nb cap al) w := fun _ ⟨al, h⟩ => ⟨al, trivial, h⟩
theorem vls_rcv {g : GT} {z : Nat → Nat} {s np nb cap : Nat} {vs : List VE} {L : List Asn} : Rcv (VLS g z s vs np nb cap :: L) s 5 := rcv_0 fun w ⟨al, w1, w2, hp, h1, _⟩ => by
  have h2 : w1 = [(s, .inr (5, [.ref al, .int (nI np), .int (nI nb)]))] := h1
  exact ⟨_, hp.symm.subset (List.mem_append_left _ (by rw [h2]; exact List.mem_singleton.mpr rfl))⟩
theorem vls_of {g : GT} {z : Nat → Nat} {s np nb cap al : Nat} {vs : List VE} : ∀ w, sepL [pt s (.inr (5, [.ref al, .int (nI np), .int (nI nb)])), LST g z al (adr vs) cap, VSL g z 0 vs] w → VLS g z s vs np nb cap w := fun _ h => ⟨al, h⟩
set_option maxHeartbeats 4000000 in
theorem c_vls_init {g : GT} {z : Nat → Nat} (hA : GA g z) (d : Nat) (hd : 4 ≤ d) (s : Nat) : Ctr g mX6_init d 1 3 [.ref s] [pt s (.inr (5, [.null, .int 0, .int 0]))] (fun o dc ds ws' => o = none ∧ dc ≤ 1 ∧ ds ≤ 3 ∧ ws' = [VLS g z s [] 0 0 0]) noX := by
  have hG := hA.1
  refine ctr_intro hG (by decide +kernel) (Nat.le_of_ble_eq_true rfl) ?_
  rintro X F rfl E B hI T
  replace E : JE X RX6 cX6_init 1 d 1 3 := E
  show J X _ [pt s (.inr (5, [.null, .int 0, .int 0])), F] 0 0 0 [some (.ref s)] []
  refine j_aload_n E 1 dX6_init_0 0 rfl rfl rfl ?_
  refine j_objI E 4 dX6_init_1 ob_X6 ob_inst ob_code (Nat.le_of_ble_eq_true rfl) (by omega) rfl ?_
  refine j_aload_n E 5 dX6_init_4 0 rfl rfl rfl ?_
  refine j_new E 8 dX6_init_5 nw_X6_9 (by omega) (by omega) rfl (fun al => ?_)
  refine j_dup E 9 dX6_init_8 rfl rfl ?_
  refine j_callI E (c_lst_init (z := z) hA (d-1) (by omega) al) 12 dX6_init_9 iv_X6_11 rfl rfl (by repeat (first | with_reducible exact pick_0 | with_reducible apply pick_s | exact sel_0 | apply sel_s)) (by omega) (by omega) (by omega) (Nat.le_of_ble_eq_true rfl) rfl ?_
  rintro _ _ _ _ ⟨rfl, rfl, rfl, rfl⟩
  dsimp only [List.cons_append, List.nil_append, Option.toList]
  refine j_putfF E (hI rfl) 15 dX6_init_12 fl_X6_12 (by repeat (first | with_reducible exact pick_0 | with_reducible apply pick_s)) rfl rfl (Nat.le_of_ble_eq_true rfl) rfl ?_
  dsimp only [List.set]
  refine j_close (P := VLS X.1 z s [] 0 0 0) (qs := [pt s (.inr (5, [.ref al, .int 0, .int 0])), LST X.1 z al [] 0]) (by repeat (first | with_reducible exact pick_0 | with_reducible apply pick_s | exact sel_0 | apply sel_s)) (fun w hw => ⟨al, ?_⟩) ?_
  · obtain ⟨w1, w2, hp, h1, u1, u2, hq, g1, g2⟩ := hw
    exact ⟨w1, w2, hp, h1, u1, u2, hq, g1, sep_sing g2⟩
  · exact j_vret E B rfl 1 3 dX6_init_15 (by repeat (first | with_reducible exact pick_0 | with_reducible apply pick_s | exact sel_0 | apply sel_s)) ⟨rfl, by omega, by omega, rfl⟩ (by omega) (by omega) (by omega) (by omega)
set_option maxHeartbeats 4000000 in
theorem c_vls_size {g : GT} {z : Nat → Nat} (hG : GLB g) (d s np nb cap : Nat) (hd : 1 ≤ d) (vs : List VE) : CtrV g mX6_size 5 d 0 0 s [] [VLS g z s vs np nb cap] (fun o dc ds ws' => o = some (.int (nI vs.length)) ∧ dc = 0 ∧ ds = 0 ∧ ws' = [VLS g z s vs np nb cap]) noX := by
  refine ⟨vls_rcv, ?_⟩
  refine ctr_intro hG (by decide +kernel) (Nat.le_of_ble_eq_true rfl) ?_
  rintro X F rfl E B hI T
  replace E : JE X RX6 cX6_size 1 d 0 0 := E
  show J X _ [VLS X.1 z s vs np nb cap, F] 0 0 0 [some (.ref s)] []
  refine j_open (by repeat (first | with_reducible exact pick_0 | with_reducible apply pick_s)) vls_open ?_
  rintro al -
  dsimp only [VLSo, List.cons_append, List.nil_append]
  refine j_aload_n E 1 dX6_size_0 0 rfl rfl rfl ?_
  refine j_getf E 4 dX6_size_1 fl_X6_12 (by repeat (first | with_reducible exact pick_0 | with_reducible apply pick_s)) (by rfl) rfl ?_
  refine j_callV E (c_lst_size hG z (d-1) al cap (adr vs)) 7 dX6_size_4 _ _ _ iv_X6_18 rfl rfl rfl (by repeat (first | with_reducible exact pick_0 | with_reducible apply pick_s | exact sel_0 | apply sel_s)) (by omega) (by omega) (by omega) (Nat.le_of_ble_eq_true rfl) rfl ?_
  rintro _ _ _ _ ⟨rfl, rfl, rfl, rfl⟩
  dsimp only [List.cons_append, List.nil_append, Option.toList]
  rw [adr_len]
  refine j_close (by repeat (first | with_reducible exact pick_0 | with_reducible apply pick_s | exact sel_0 | apply sel_s)) vls_of ?_
  exact j_iret E B rfl 0 0 dX6_size_7 (by repeat (first | with_reducible exact pick_0 | with_reducible apply pick_s | exact sel_0 | apply sel_s)) ⟨rfl, rfl, rfl, rfl⟩ (by omega) (by omega) (by omega) (by omega)
/-- is x a place among n -/
def inB (x : Int32) (n : Nat) : Bool := decide (¬ x < 0) && decide (x < nI n)
theorem inB_t {x : Int32} {n : Nat} (hn : n < 2 ^ 31) (h : inB x n = true) : ∃ j : Nat, j < n ∧ x = nI j := by
  rw [inB, Bool.and_eq_true, decide_eq_true_eq, decide_eq_true_eq] at h
  obtain ⟨j, h1, h2⟩ := nI_of h.1
  exact ⟨j, (nI_ltI h1 hn).mp (h2 ▸ h.2), h2⟩
theorem inB_nI {j n : Nat} (hj : j < 2 ^ 31) (hn : n < 2 ^ 31) : inB (nI j) n = decide (j < n) := by
  rw [inB, decide_eq_true (nI_pos hj), Bool.true_and]
  exact decide_eq_decide.mpr (nI_ltI hj hn)
set_option maxHeartbeats 4000000 in
theorem c_vls_has {g : GT} {z : Nat → Nat} (hG : GLB g) (d s np nb cap : Nat) (hd : 1 ≤ d) (vs : List VE) (x : Int32) : CtrV g mX6_has 5 d 0 0 s [.int x] [VLS g z s vs np nb cap] (fun o dc ds ws' => o = some (.int (if inB x vs.length = true then 1 else 0)) ∧ dc = 0 ∧ ds = 0 ∧ ws' = [VLS g z s vs np nb cap]) noX := by
  refine ⟨vls_rcv, ?_⟩
  refine ctr_intro hG (by decide +kernel) (Nat.le_of_ble_eq_true rfl) ?_
  rintro X F rfl E B hI T
  replace E : JE X RX6 cX6_has 2 d 0 0 := E
  show J X _ [VLS X.1 z s vs np nb cap, F] 0 0 0 [some (.ref s), some (.int x)] []
  refine j_open (by repeat (first | with_reducible exact pick_0 | with_reducible apply pick_s)) vls_open ?_
  rintro al -
  dsimp only [VLSo, List.cons_append, List.nil_append]
  refine j_iload_n E 1 dX6_has_0 1 rfl rfl rfl ?_
  refine j_if_lt E 19 4 dX6_has_1 (by decide) rfl (fun h1 => ?_) (fun h1 => ?_)
  · have e : ¬ inB x vs.length = true := fun e => by
      rw [inB, Bool.and_eq_true, decide_eq_true_eq] at e
      exact e.1 h1
    refine j_iconst E (0) 20 dX6_has_19 (by decide) rfl ?_
    refine j_close (by repeat (first | with_reducible exact pick_0 | with_reducible apply pick_s | exact sel_0 | apply sel_s)) vls_of ?_
    exact j_zret E B rfl (by first | exact Or.inl rfl | exact Or.inr rfl) 0 0 dX6_has_20 (by repeat (first | with_reducible exact pick_0 | with_reducible apply pick_s | exact sel_0 | apply sel_s)) ⟨by rw [if_neg e], rfl, rfl, rfl⟩ (by omega) (by omega) (by omega) (by omega)
  · refine j_iload_n E 5 dX6_has_4 1 rfl rfl rfl ?_
    refine j_aload_n E 6 dX6_has_5 0 rfl rfl rfl ?_
    refine j_getf E 9 dX6_has_6 fl_X6_12 (by repeat (first | with_reducible exact pick_0 | with_reducible apply pick_s)) (by rfl) rfl ?_
    refine j_callV E (c_lst_size hG z (d-1) al cap (adr vs)) 12 dX6_has_9 _ _ _ iv_X6_18 rfl rfl rfl (by repeat (first | with_reducible exact pick_0 | with_reducible apply pick_s | exact sel_0 | apply sel_s)) (by omega) (by omega) (by omega) (Nat.le_of_ble_eq_true rfl) rfl ?_
    rintro _ _ _ _ ⟨rfl, rfl, rfl, rfl⟩
    dsimp only [List.cons_append, List.nil_append, Option.toList]
    rw [adr_len]
    refine j_icmp_ge E 19 15 dX6_has_12 (by decide) rfl (fun h12 => ?_) (fun h12 => ?_)
    · have e : ¬ inB x vs.length = true := fun e => by
        rw [inB, Bool.and_eq_true, decide_eq_true_eq, decide_eq_true_eq] at e
        exact absurd e.2 ((fa_le _ _).mp h12 |> fun q r => absurd ((fa_lt _ _).mp r) (by omega))
      refine j_iconst E (0) 20 dX6_has_19 (by decide) rfl ?_
      refine j_close (by repeat (first | with_reducible exact pick_0 | with_reducible apply pick_s | exact sel_0 | apply sel_s)) vls_of ?_
      exact j_zret E B rfl (by first | exact Or.inl rfl | exact Or.inr rfl) 0 0 dX6_has_20 (by repeat (first | with_reducible exact pick_0 | with_reducible apply pick_s | exact sel_0 | apply sel_s)) ⟨by rw [if_neg e], rfl, rfl, rfl⟩ (by omega) (by omega) (by omega) (by omega)
    · have e : inB x vs.length = true := by
        rw [inB, Bool.and_eq_true, decide_eq_true_eq, decide_eq_true_eq]
        exact ⟨h1, fa_of_nle h12⟩
      refine j_iconst E (1) 16 dX6_has_15 (by decide) rfl ?_
      refine j_goto E 20 dX6_has_16 (by decide) ?_
      refine j_close (by repeat (first | with_reducible exact pick_0 | with_reducible apply pick_s | exact sel_0 | apply sel_s)) vls_of ?_
      exact j_zret E B rfl (by first | exact Or.inl rfl | exact Or.inr rfl) 0 0 dX6_has_20 (by repeat (first | with_reducible exact pick_0 | with_reducible apply pick_s | exact sel_0 | apply sel_s)) ⟨by rw [if_pos e], rfl, rfl, rfl⟩ (by omega) (by omega) (by omega) (by omega)
set_option maxHeartbeats 4000000 in
/-- at(j) -/
theorem c_vls_at {g : GT} {z : Nat → Nat} (hG : GLB g) (d s np nb cap j : Nat) (hd : 3 ≤ d) (vs : List VE) (e : VE) (hj : vs[j]? = some e) (hl : vs.length < 2 ^ 31) : CtrV g mX6_at 5 d 0 0 s [.int (nI j)] [VLS g z s vs np nb cap] (fun o dc ds ws' => o = some (.ref e.1) ∧ dc = 0 ∧ ds = 0 ∧ ws' = [VLS g z s vs np nb cap]) noX := by
  refine ⟨vls_rcv, ?_⟩
  refine ctr_intro hG (by decide +kernel) (Nat.le_of_ble_eq_true rfl) ?_
  rintro X F rfl E B hI T
  replace E : JE X RX6 cX6_at 2 d 0 0 := E
  show J X _ [VLS X.1 z s vs np nb cap, F] 0 0 0 [some (.ref s), some (.int (nI j))] []
  refine j_open (by repeat (first | with_reducible exact pick_0 | with_reducible apply pick_s)) vls_open ?_
  rintro al -
  dsimp only [VLSo, List.cons_append, List.nil_append]
  obtain ⟨hj1, hj2⟩ := List.getElem?_eq_some_iff.mp hj
  refine j_aload_n E 1 dX6_at_0 0 rfl rfl rfl ?_
  refine j_getf E 4 dX6_at_1 fl_X6_12 (by repeat (first | with_reducible exact pick_0 | with_reducible apply pick_s)) (by rfl) rfl ?_
  refine j_iload_n E 5 dX6_at_4 1 rfl rfl rfl ?_
  refine j_callV E (c_lst_get hG z (d-1) al cap j (adr vs) (by omega) (by rw [adr_len]; exact hj1) (by rw [adr_len]; exact hl)) 8 dX6_at_5 _ _ _ iv_X6_22 rfl rfl rfl (by repeat (first | with_reducible exact pick_0 | with_reducible apply pick_s | exact sel_0 | apply sel_s)) (by omega) (by omega) (by omega) (Nat.le_of_ble_eq_true rfl) rfl ?_
  rintro _ _ _ _ ⟨rfl, rfl, rfl, rfl⟩
  dsimp only [List.cons_append, List.nil_append, Option.toList]
  have e1 : (adr vs).getD j 0 = e.1 := by rw [adr, List.getD_eq_getElem?_getD, List.getElem?_map, hj]; rfl
  rw [e1]
  refine j_castV E 11 dX6_at_8 cc_X6_26 rfl (has_rcv (P := VSL X.1 z 0 vs) (by repeat (first | with_reducible exact pick_0 | with_reducible apply pick_s)) (vsl_has e.1 (List.mem_map.mpr ⟨e, List.mem_of_getElem? hj, rfl⟩))) rfl ?_
  refine j_close (by repeat (first | with_reducible exact pick_0 | with_reducible apply pick_s | exact sel_0 | apply sel_s)) vls_of ?_
  exact j_aret E B rfl (by first | exact Or.inl ⟨_, rfl⟩ | exact Or.inr ⟨_, rfl⟩) (by first | exact Or.inr ⟨_, rfl⟩ | exact Or.inl rfl) 0 0 dX6_at_11 (by repeat (first | with_reducible exact pick_0 | with_reducible apply pick_s | exact sel_0 | apply sel_s)) ⟨rfl, rfl, rfl, rfl⟩ (by omega) (by omega) (by omega) (by omega)
set_option maxHeartbeats 4000000 in
theorem c_vls_takes {g : GT} {z : Nat → Nat} (hG : GLB g) (d s np nb cap m : Nat) (hd : 1 ≤ d) (vs : List VE) (hv : vs.length < 2 ^ 31) (hm : nb + m < 2 ^ 31) : CtrV g mX6_takes 5 d 0 0 s [.int (nI m)] [VLS g z s vs np nb cap] (fun o dc ds ws' => o = some (.int (if vs.length < 3000 ∧ nb + m ≤ 65536 then 1 else 0)) ∧ dc = 0 ∧ ds = 0 ∧ ws' = [VLS g z s vs np nb cap]) noX := by
  refine ⟨vls_rcv, ?_⟩
  refine ctr_intro hG (by decide +kernel) (Nat.le_of_ble_eq_true rfl) ?_
  rintro X F rfl E B hI T
  replace E : JE X RX6 cX6_takes 2 d 0 0 := E
  show J X _ [VLS X.1 z s vs np nb cap, F] 0 0 0 [some (.ref s), some (.int (nI m))] []
  refine j_open (by repeat (first | with_reducible exact pick_0 | with_reducible apply pick_s)) vls_open ?_
  rintro al -
  dsimp only [VLSo, List.cons_append, List.nil_append]
  refine j_aload_n E 1 dX6_takes_0 0 rfl rfl rfl ?_
  refine j_getf E 4 dX6_takes_1 fl_X6_12 (by repeat (first | with_reducible exact pick_0 | with_reducible apply pick_s)) (by rfl) rfl ?_
  refine j_callV E (c_lst_size hG z (d-1) al cap (adr vs)) 7 dX6_takes_4 _ _ _ iv_X6_18 rfl rfl rfl (by repeat (first | with_reducible exact pick_0 | with_reducible apply pick_s | exact sel_0 | apply sel_s)) (by omega) (by omega) (by omega) (Nat.le_of_ble_eq_true rfl) rfl ?_
  rintro _ _ _ _ ⟨rfl, rfl, rfl, rfl⟩
  dsimp only [List.cons_append, List.nil_append, Option.toList]
  rw [adr_len]
  refine j_sipush E (3000) 10 dX6_takes_7 (by decide) rfl ?_
  refine j_icmp_ge E 28 13 dX6_takes_10 (by decide) rfl (fun h10 => ?_) (fun h10 => ?_)
  · have e : ¬ (vs.length < 3000 ∧ nb + m ≤ 65536) := fun q => absurd (show nI 3000 ≤ nI vs.length from h10) (nI_ge q.1 (by decide))
    refine j_iconst E (0) 29 dX6_takes_28 (by decide) rfl ?_
    refine j_close (by repeat (first | with_reducible exact pick_0 | with_reducible apply pick_s | exact sel_0 | apply sel_s)) vls_of ?_
    exact j_zret E B rfl (by first | exact Or.inl rfl | exact Or.inr rfl) 0 0 dX6_takes_29 (by repeat (first | with_reducible exact pick_0 | with_reducible apply pick_s | exact sel_0 | apply sel_s)) ⟨by rw [if_neg e], rfl, rfl, rfl⟩ (by omega) (by omega) (by omega) (by omega)
  · have e1 : vs.length < 3000 := Nat.lt_of_not_le fun q => h10 (nI_le q hv)
    refine j_aload_n E 14 dX6_takes_13 0 rfl rfl rfl ?_
    refine j_getf E 17 dX6_takes_14 fl_X6_28 (by repeat (first | with_reducible exact pick_0 | with_reducible apply pick_s)) (by rfl) rfl ?_
    refine j_iload_n E 18 dX6_takes_17 1 rfl rfl rfl ?_
    refine j_iadd E 19 dX6_takes_18 rfl ?_
    refine j_eqi (nI_add nb m) ?_
    refine j_ldcI E _ 21 dX6_takes_19 kc_X6_32 rfl ?_
    refine j_icmp_gt E 28 24 dX6_takes_21 (by decide) rfl (fun h21 => ?_) (fun h21 => ?_)
    · have e : ¬ (vs.length < 3000 ∧ nb + m ≤ 65536) := fun q => absurd (show nI 65536 < nI (nb + m) from h21) (nI_nlt q.2 (by decide))
      refine j_iconst E (0) 29 dX6_takes_28 (by decide) rfl ?_
      refine j_close (by repeat (first | with_reducible exact pick_0 | with_reducible apply pick_s | exact sel_0 | apply sel_s)) vls_of ?_
      exact j_zret E B rfl (by first | exact Or.inl rfl | exact Or.inr rfl) 0 0 dX6_takes_29 (by repeat (first | with_reducible exact pick_0 | with_reducible apply pick_s | exact sel_0 | apply sel_s)) ⟨by rw [if_neg e], rfl, rfl, rfl⟩ (by omega) (by omega) (by omega) (by omega)
    · have e2 : nb + m ≤ 65536 := Nat.le_of_not_lt fun q => h21 (nI_lt q hm)
      refine j_iconst E (1) 25 dX6_takes_24 (by decide) rfl ?_
      refine j_goto E 29 dX6_takes_25 (by decide) ?_
      refine j_close (by repeat (first | with_reducible exact pick_0 | with_reducible apply pick_s | exact sel_0 | apply sel_s)) vls_of ?_
      exact j_zret E B rfl (by first | exact Or.inl rfl | exact Or.inr rfl) 0 0 dX6_takes_29 (by repeat (first | with_reducible exact pick_0 | with_reducible apply pick_s | exact sel_0 | apply sel_s)) ⟨by rw [if_pos ⟨e1, e2⟩], rfl, rfl, rfl⟩ (by omega) (by omega) (by omega) (by omega)
set_option maxHeartbeats 4000000 in
theorem c_vls_hold {g : GT} {z : Nat → Nat} (hG : GLB g) (d s np nb cap m : Nat) (vs : List VE) : CtrV g mX6_hold 5 d 0 0 s [.int (nI m)] [VLS g z s vs np nb cap] (fun o dc ds ws' => o = none ∧ dc = 0 ∧ ds = 0 ∧ ws' = [VLS g z s vs (np + m) nb cap]) noX := by
  refine ⟨vls_rcv, ?_⟩
  refine ctr_intro hG (by decide +kernel) (Nat.le_of_ble_eq_true rfl) ?_
  rintro X F rfl E B hI T
  replace E : JE X RX6 cX6_hold 2 d 0 0 := E
  show J X _ [VLS X.1 z s vs np nb cap, F] 0 0 0 [some (.ref s), some (.int (nI m))] []
  refine j_open (by repeat (first | with_reducible exact pick_0 | with_reducible apply pick_s)) vls_open ?_
  rintro al -
  dsimp only [VLSo, List.cons_append, List.nil_append]
  refine j_aload_n E 1 dX6_hold_0 0 rfl rfl rfl ?_
  refine j_dup E 2 dX6_hold_1 rfl rfl ?_
  refine j_getf E 5 dX6_hold_2 fl_X6_33 (by repeat (first | with_reducible exact pick_0 | with_reducible apply pick_s)) (by rfl) rfl ?_
  refine j_iload_n E 6 dX6_hold_5 1 rfl rfl rfl ?_
  refine j_iadd E 7 dX6_hold_6 rfl ?_
  refine j_eqi (nI_add np m) ?_
  refine j_putf E 10 dX6_hold_7 fl_X6_33 (by repeat (first | with_reducible exact pick_0 | with_reducible apply pick_s)) rfl rfl (Nat.le_of_ble_eq_true rfl) rfl ?_
  dsimp only [List.set]
  refine j_close (by repeat (first | with_reducible exact pick_0 | with_reducible apply pick_s | exact sel_0 | apply sel_s)) vls_of ?_
  exact j_vret E B rfl 0 0 dX6_hold_10 (by repeat (first | with_reducible exact pick_0 | with_reducible apply pick_s | exact sel_0 | apply sel_s)) ⟨rfl, rfl, rfl, rfl⟩ (by omega) (by omega) (by omega) (by omega)

/-! Value -/
/-- an int array of cap places; of none: the empty one of the start -/
def PRT (g : GT) (z : Nat → Nat) (q cap : Nat) (f : Nat → Int32) : Asn := fun w => (cap = 0 ∧ q = z 1 ∧ w = []) ∨ (0 < cap ∧ pt q (aI g cap f) w)
theorem prt_know {g : GT} {z : Nat → Nat} {q cap : Nat} {f : Nat → Int32} : ∀ w, PRT g z q cap f w → (cap = 0 ∧ q = z 1) ∨ 0 < cap := by
  rintro w (⟨hq1, hq2, -⟩ | ⟨hq1, -⟩)
  · exact Or.inl ⟨hq1, hq2⟩
  · exact Or.inr hq1
theorem prt_open {g : GT} {z : Nat → Nat} {q cap : Nat} {f : Nat → Int32} (h : 0 < cap) : ∀ w, PRT g z q cap f w → ∃ _x : Unit, True ∧ sepL [pt q (aI g cap f)] w := by
  rintro w (⟨hq1, -⟩ | ⟨-, hq1⟩)
  · omega
  · exact ⟨(), trivial, w, [], by rw [List.append_nil], hq1, rfl⟩
theorem prt_of {g : GT} {z : Nat → Nat} {q cap : Nat} {f : Nat → Int32} (h : 0 < cap) : ∀ w, sepL [pt q (aI g cap f)] w → PRT g z q cap f w := by
  rintro w ⟨w1, w2, hp, hq1, hq2⟩
  have h3 : w2 = [] := hq2
  subst h3
  rw [List.append_nil] at hp
  have h4 : w1 = [(q, aI g cap f)] := hq1
  subst h4
  exact Or.inr ⟨h, List.perm_singleton.mp hp⟩
theorem prt_nil {g : GT} {z : Nat → Nat} {f : Nat → Int32} : ∀ w, sepL [] w → PRT g z (z 1) 0 f w := fun _ h => Or.inl ⟨rfl, rfl, h⟩
section
variable {X : XT} {own : String} {cc : ByteArray} {nL d mc ms k n pc : Nat} {lv : List (Option Value)} {st : List Value} {ws ws1 : List Asn}
theorem j_lenPrt {z : Nat → Nat} (hA : GA X.1 z) (E : JE X own cc nL d mc ms) {q cap : Nat} {f : Nat → Int32} (pc' : Nat) (hd : decode cc pc = .ok (.arraylength, 1)) (hp : Pick ws (PRT X.1 z q cap f) ws1) (hpc : pc + 1 = pc') (kk : J X nL (PRT X.1 z q cap f :: ws1) k n pc' lv (.int (nI cap) :: st)) : J X nL ws k n pc lv (.ref q :: st) := by
  refine j_know (pick_know hp prt_know) ?_
  rintro (⟨e1, e2⟩ | e1)
  · subst e1
    subst e2
    refine j_tlen E (nI 0) pc' hd hA.2.2.2.1.2 rfl hpc ?_
    exact j_mono (ws' := PRT X.1 z (z 1) 0 f :: ws1) (fun w hw => hp w hw) kk
  · refine j_open hp (prt_open e1) ?_
    rintro _ -
    refine j_alenI E pc' hd (by exact pick_0) hpc ?_
    exact j_close (sel_s pick_0 sel_0) (prt_of e1) kk
end
/-- a value: its kind, its number, its detail, its bytes, its parts -/
abbrev VT : Type := Nat × Int64 × Int32 × List UInt8 × List Nat
def VALp (v : VT) (cap : Nat) (x : Nat × Nat × (Nat → Int32)) : Prop := v.2.2.2.2.length ≤ cap ∧ cap ≤ 20000 ∧ (cap = 0 ∨ 4 ≤ cap) ∧ ∀ j, j < v.2.2.2.2.length → x.2.2 j = nI (v.2.2.2.2.getD j 0)
def VALo (g : GT) (z : Nat → Nat) (a i : Nat) (v : VT) (t : Int32) (cap : Nat) (x : Nat × Nat × (Nat → Int32)) : List Asn :=
  [pt a (.inr (4, [.int (nI v.1), .int (nI i), .long v.2.1, .int v.2.2.1, .ref x.1, .ref x.2.1, .int (nI v.2.2.2.2.length), .int t])), BYS g z x.1 v.2.2.2.1, PRT g z x.2.1 cap x.2.2]
/-- the value a, which is the i-th, come to as the t-th; its parts have cap places -/
def VALc (g : GT) (z : Nat → Nat) (a i : Nat) (v : VT) (t : Int32) (cap : Nat) : Asn := fun w => ∃ x : Nat × Nat × (Nat → Int32), VALp v cap x ∧ sepL (VALo g z a i v t cap x) w
/-- how many places n parts take that came one by one -/
def pcap : Nat → Nat
  | 0 => 0
  | n + 1 => if n = pcap n then (if 4 < 2 * n then 2 * n else 4) else pcap n
theorem pcap_le : ∀ n, n ≤ pcap n ∧ pcap n ≤ 2 * n + 4 ∧ (n = 0 → pcap n = 0)
  | 0 => ⟨Nat.le_refl _, by decide, fun _ => rfl⟩
  | n + 1 => by
    have h := pcap_le n
    rw [pcap]
    repeat' (first | omega | split)
abbrev VAL (g : GT) (z : Nat → Nat) (a i : Nat) (v : VT) (t : Int32) : Asn := VALc g z a i v t (pcap v.2.2.2.2.length)
theorem valc_open {g : GT} {z : Nat → Nat} {a i cap : Nat} {v : VT} {t : Int32} : ∀ w, VALc g z a i v t cap w → ∃ x : Nat × Nat × (Nat → Int32), VALp v cap x ∧ sepL (VALo g z a i v t cap x) w := fun _ h => h
theorem sep_sing {P : Asn} {w : va_W} (h : P w) : sepL [P] w := ⟨w, [], by rw [List.append_nil], h, rfl⟩
theorem VALc.perm {g : GT} {z : Nat → Nat} {a i cap : Nat} {v : VT} {t : Int32} {w w' : va_W} (h : VALc g z a i v t cap w) (hp : w'.Perm w) : VALc g z a i v t cap w' := by
  obtain ⟨x, h1, h2⟩ := h
  exact ⟨x, h1, sepL_perm hp h2⟩
theorem VAL.perm {g : GT} {z : Nat → Nat} {a i : Nat} {v : VT} {t : Int32} {w w' : va_W} (h : VAL g z a i v t w) (hp : w'.Perm w) : VAL g z a i v t w' := VALc.perm h hp
theorem val_of {g : GT} {z : Nat → Nat} {a i cap : Nat} {v : VT} {t : Int32} (hc : cap = pcap v.2.2.2.2.length) : ∀ w, sepL [VALc g z a i v t cap] w → VAL g z a i v t w := by
  subst hc
  rintro w ⟨w1, w2, hp, hq1, hq2⟩
  have h3 : w2 = [] := hq2
  subst h3
  rw [List.append_nil] at hp
  exact hq1.perm hp
theorem valc_has {g : GT} {z : Nat → Nat} {a i cap : Nat} {v : VT} {t : Int32} : Has (VALc g z a i v t cap) a 4 := fun w h => by
  obtain ⟨x, -, w1, w2, hp, h1, -⟩ := h
  have h2 : w1 = [(a, .inr (4, [.int (nI v.1), .int (nI i), .long v.2.1, .int v.2.2.1, .ref x.1, .ref x.2.1, .int (nI v.2.2.2.2.length), .int t]))] := h1
  exact ⟨_, hp.symm.subset (List.mem_append_left _ (by rw [h2]; exact List.mem_singleton.mpr rfl))⟩
theorem val_has {g : GT} {z : Nat → Nat} {a i : Nat} {v : VT} {t : Int32} : Has (VAL g z a i v t) a 4 := valc_has
theorem valc_rcv {g : GT} {z : Nat → Nat} {a i cap : Nat} {v : VT} {t : Int32} {L : List Asn} : Rcv (VALc g z a i v t cap :: L) a 4 := rcv_0 valc_has
theorem valc_close {X : XT} {nL : Nat} {z : Nat → Nat} {ws ws1 : List Asn} {k n pc : Nat} {lv : List (Option Value)} {st : List Value} {a i cap K : Nat} {t : Int32} (v : VT) (x : Nat × Nat × (Nat → Int32)) (hs : Sel ws [pt a (.inr (4, [.int (nI v.1), .int (nI i), .long v.2.1, .int v.2.2.1, .ref x.1, .ref x.2.1, .int (nI K), .int t])), BYS X.1 z x.1 v.2.2.2.1, PRT X.1 z x.2.1 cap x.2.2] ws1) (hK : v.2.2.2.2.length = K) (h : VALp v cap x) (kk : J X nL (VALc X.1 z a i v t cap :: ws1) k n pc lv st) : J X nL ws k n pc lv st :=
  j_close hs (fun w hw => ⟨x, h, by rw [← hK] at hw; exact hw⟩) kk
theorem val_mk {g : GT} {z : Nat → Nat} {a i q kd : Nat} {nm : Int64} {dt : Int32} {bs : List UInt8} : ∀ w, sepL [pt a (.inr (4, [.int (nI kd), .int (nI i), .long nm, .int dt, .ref q, .ref (z 1), .int 0, .int (-1)])), BYS g z q bs] w → VALc g z a i (kd, nm, dt, bs, []) (-1) 0 w := by
  rintro w ⟨w1, w2, hp, h1, u1, u2, hq, g1, g2⟩
  refine ⟨(q, z 1, fun _ => 0), ⟨Nat.le_refl _, Nat.zero_le _, Or.inl rfl, fun j hj => absurd hj (Nat.not_lt_zero _)⟩, w1, w2, hp, h1, u1, u2, hq, g1, ?_⟩
  have h3 : u2 = [] := g2
  subst h3
  exact ⟨[], [], List.Perm.refl _, Or.inl ⟨rfl, rfl, rfl⟩, rfl⟩
set_option maxHeartbeats 4000000 in
theorem c_val_init {g : GT} {z : Nat → Nat} (hA : GA g z) (d : Nat) (hd : 1 ≤ d) (a i q kd : Nat) (nm : Int64) (dt : Int32) (bs : List UInt8) : Ctr g mX5_init d 0 0 [.ref a, .int (nI kd), .int (nI i), .long nm, .int dt, .ref q] [pt a (.inr (4, [.int 0, .int 0, .long 0, .int 0, .null, .null, .int 0, .int 0])), BYS g z q bs] (fun o dc ds ws' => o = none ∧ dc = 0 ∧ ds = 0 ∧ ws' = [pt a (.inr (4, [.int (nI kd), .int (nI i), .long nm, .int dt, .ref q, .ref (z 1), .int 0, .int (-1)])), BYS g z q bs]) noX := by
  have hG := hA.1
  refine ctr_intro hG (by decide +kernel) (Nat.le_of_ble_eq_true rfl) ?_
  rintro X F rfl E B hI T
  replace E : JE X RX5 cX5_init 7 d 0 0 := E
  show J X _ [pt a (.inr (4, [.int 0, .int 0, .long 0, .int 0, .null, .null, .int 0, .int 0])), BYS X.1 z q bs, F] 0 0 0 [some (.ref a), some (.int (nI kd)), some (.int (nI i)), some (.long nm), none, some (.int dt), some (.ref q)] []
  refine j_aload_n E 1 dX5_init_0 0 rfl rfl rfl ?_
  refine j_objI E 4 dX5_init_1 ob_X5 ob_inst ob_code (Nat.le_of_ble_eq_true rfl) hd rfl ?_
  refine j_aload_n E 5 dX5_init_4 0 rfl rfl rfl ?_
  refine j_getsN E 8 dX5_init_5 hA.2.2.2.1.1 gs_X5_9 rfl ?_
  refine j_putf E 11 dX5_init_8 fl_X5_13 (by repeat (first | with_reducible exact pick_0 | with_reducible apply pick_s)) rfl rfl (Nat.le_of_ble_eq_true rfl) rfl ?_
  dsimp only [List.set]
  refine j_aload_n E 12 dX5_init_11 0 rfl rfl rfl ?_
  refine j_iconst E (-1) 13 dX5_init_12 (by decide) rfl ?_
  refine j_putf E 16 dX5_init_13 fl_X5_18 (by repeat (first | with_reducible exact pick_0 | with_reducible apply pick_s)) rfl rfl (Nat.le_of_ble_eq_true rfl) rfl ?_
  dsimp only [List.set]
  refine j_aload_n E 17 dX5_init_16 0 rfl rfl rfl ?_
  refine j_iload_n E 18 dX5_init_17 1 rfl rfl rfl ?_
  refine j_putfF E (hI rfl) 21 dX5_init_18 fl_X5_22 (by repeat (first | with_reducible exact pick_0 | with_reducible apply pick_s)) rfl rfl (Nat.le_of_ble_eq_true rfl) rfl ?_
  dsimp only [List.set]
  refine j_aload_n E 22 dX5_init_21 0 rfl rfl rfl ?_
  refine j_iload_n E 23 dX5_init_22 2 rfl rfl rfl ?_
  refine j_putfF E (hI rfl) 26 dX5_init_23 fl_X5_25 (by repeat (first | with_reducible exact pick_0 | with_reducible apply pick_s)) rfl rfl (Nat.le_of_ble_eq_true rfl) rfl ?_
  dsimp only [List.set]
  refine j_aload_n E 27 dX5_init_26 0 rfl rfl rfl ?_
  refine j_lload_n E 28 dX5_init_27 3 rfl rfl rfl ?_
  refine j_putfF E (hI rfl) 31 dX5_init_28 fl_X5_28 (by repeat (first | with_reducible exact pick_0 | with_reducible apply pick_s)) rfl rfl (Nat.le_of_ble_eq_true rfl) rfl ?_
  dsimp only [List.set]
  refine j_aload_n E 32 dX5_init_31 0 rfl rfl rfl ?_
  refine j_iload E 34 dX5_init_32 rfl rfl ?_
  refine j_putfF E (hI rfl) 37 dX5_init_34 fl_X5_32 (by repeat (first | with_reducible exact pick_0 | with_reducible apply pick_s)) rfl rfl (Nat.le_of_ble_eq_true rfl) rfl ?_
  dsimp only [List.set]
  refine j_aload_n E 38 dX5_init_37 0 rfl rfl rfl ?_
  refine j_aload E 40 dX5_init_38 rfl rfl ?_
  refine j_putfF E (hI rfl) 43 dX5_init_40 fl_X5_35 (by repeat (first | with_reducible exact pick_0 | with_reducible apply pick_s)) rfl rfl (Nat.le_of_ble_eq_true rfl) rfl ?_
  dsimp only [List.set]
  exact j_vret E B rfl 0 0 dX5_init_43 (by repeat (first | with_reducible exact pick_0 | with_reducible apply pick_s | exact sel_0 | apply sel_s)) ⟨rfl, rfl, rfl, rfl⟩ (by omega) (by omega) (by omega) (by omega)
set_option maxHeartbeats 4000000 in
theorem c_val_isGroup {g : GT} {z : Nat → Nat} (hG : GLB g) (d a i cap : Nat) (v : VT) (t : Int32) (hk : v.1 < 2 ^ 31) : CtrV g mX5_isGroup 4 d 0 0 a [] [VALc g z a i v t cap] (fun o dc ds ws' => o = some (.int (if v.1 = 7 ∨ v.1 = 8 then 1 else 0)) ∧ dc = 0 ∧ ds = 0 ∧ ws' = [VALc g z a i v t cap]) noX := by
  refine ⟨valc_rcv, ?_⟩
  refine ctr_intro hG (by decide +kernel) (Nat.le_of_ble_eq_true rfl) ?_
  rintro X F rfl E B hI T
  replace E : JE X RX5 cX5_isGroup 1 d 0 0 := E
  show J X _ [VALc X.1 z a i v t cap, F] 0 0 0 [some (.ref a)] []
  refine j_open (by repeat (first | with_reducible exact pick_0 | with_reducible apply pick_s)) valc_open ?_
  rintro ⟨bq, pq, xf⟩ hx
  dsimp only [VALo, List.cons_append, List.nil_append] at hx ⊢
  refine j_aload_n E 1 dX5_isGroup_0 0 rfl rfl rfl ?_
  refine j_getf E 4 dX5_isGroup_1 fl_X5_22 (by repeat (first | with_reducible exact pick_0 | with_reducible apply pick_s)) (by rfl) rfl ?_
  refine j_bipush E (7) 6 dX5_isGroup_4 (by decide) rfl ?_
  refine j_icmp_eq E 18 9 dX5_isGroup_6 (by decide) rfl (fun h6 => ?_) (fun h6 => ?_)
  · have e : v.1 = 7 := (nI_eq hk (by decide)).mp h6
    refine j_iconst E (1) 19 dX5_isGroup_18 (by decide) rfl ?_
    refine j_goto E 23 dX5_isGroup_19 (by decide) ?_
    refine valc_close v _ (by repeat (first | with_reducible exact pick_0 | with_reducible apply pick_s | exact sel_0 | apply sel_s)) rfl hx ?_
    exact j_zret E B rfl (by first | exact Or.inl rfl | exact Or.inr rfl) 0 0 dX5_isGroup_23 (by repeat (first | with_reducible exact pick_0 | with_reducible apply pick_s | exact sel_0 | apply sel_s)) ⟨by rw [if_pos (Or.inl e)], rfl, rfl, rfl⟩ (by omega) (by omega) (by omega) (by omega)
  · have e7 : ¬ v.1 = 7 := fun e => h6 (congrArg nI e)
    refine j_aload_n E 10 dX5_isGroup_9 0 rfl rfl rfl ?_
    refine j_getf E 13 dX5_isGroup_10 fl_X5_22 (by repeat (first | with_reducible exact pick_0 | with_reducible apply pick_s)) (by rfl) rfl ?_
    refine j_bipush E (8) 15 dX5_isGroup_13 (by decide) rfl ?_
    refine j_icmp_ne E 22 18 dX5_isGroup_15 (by decide) rfl (fun h15 => ?_) (fun h15 => ?_)
    · have e8 : ¬ v.1 = 8 := fun e => h15 (congrArg nI e)
      refine j_iconst E (0) 23 dX5_isGroup_22 (by decide) rfl ?_
      refine valc_close v _ (by repeat (first | with_reducible exact pick_0 | with_reducible apply pick_s | exact sel_0 | apply sel_s)) rfl hx ?_
      exact j_zret E B rfl (by first | exact Or.inl rfl | exact Or.inr rfl) 0 0 dX5_isGroup_23 (by repeat (first | with_reducible exact pick_0 | with_reducible apply pick_s | exact sel_0 | apply sel_s)) ⟨by rw [if_neg (by omega)], rfl, rfl, rfl⟩ (by omega) (by omega) (by omega) (by omega)
    · have e : v.1 = 8 := (nI_eq hk (by decide)).mp h15
      refine j_iconst E (1) 19 dX5_isGroup_18 (by decide) rfl ?_
      refine j_goto E 23 dX5_isGroup_19 (by decide) ?_
      refine valc_close v _ (by repeat (first | with_reducible exact pick_0 | with_reducible apply pick_s | exact sel_0 | apply sel_s)) rfl hx ?_
      exact j_zret E B rfl (by first | exact Or.inl rfl | exact Or.inr rfl) 0 0 dX5_isGroup_23 (by repeat (first | with_reducible exact pick_0 | with_reducible apply pick_s | exact sel_0 | apply sel_s)) ⟨by rw [if_pos (Or.inr e)], rfl, rfl, rfl⟩ (by omega) (by omega) (by omega) (by omega)
set_option maxHeartbeats 4000000 in
theorem c_val_isHigh {g : GT} {z : Nat → Nat} (hG : GLB g) (d a i cap : Nat) (v : VT) (t : Int32) (hk : v.1 < 2 ^ 31) : CtrV g mX5_isHigh 4 d 0 0 a [] [VALc g z a i v t cap] (fun o dc ds ws' => o = some (.int (if v.1 = 2 ∧ v.2.2.1 = 1 then 1 else 0)) ∧ dc = 0 ∧ ds = 0 ∧ ws' = [VALc g z a i v t cap]) noX := by
  refine ⟨valc_rcv, ?_⟩
  refine ctr_intro hG (by decide +kernel) (Nat.le_of_ble_eq_true rfl) ?_
  rintro X F rfl E B hI T
  replace E : JE X RX5 cX5_isHigh 1 d 0 0 := E
  show J X _ [VALc X.1 z a i v t cap, F] 0 0 0 [some (.ref a)] []
  refine j_open (by repeat (first | with_reducible exact pick_0 | with_reducible apply pick_s)) valc_open ?_
  rintro ⟨bq, pq, xf⟩ hx
  dsimp only [VALo, List.cons_append, List.nil_append] at hx ⊢
  refine j_aload_n E 1 dX5_isHigh_0 0 rfl rfl rfl ?_
  refine j_getf E 4 dX5_isHigh_1 fl_X5_22 (by repeat (first | with_reducible exact pick_0 | with_reducible apply pick_s)) (by rfl) rfl ?_
  refine j_iconst E (2) 5 dX5_isHigh_4 (by decide) rfl ?_
  refine j_icmp_ne E 20 8 dX5_isHigh_5 (by decide) rfl (fun h5 => ?_) (fun h5 => ?_)
  · have e2 : ¬ v.1 = 2 := fun e => h5 (congrArg nI e)
    refine j_iconst E (0) 21 dX5_isHigh_20 (by decide) rfl ?_
    refine valc_close v _ (by repeat (first | with_reducible exact pick_0 | with_reducible apply pick_s | exact sel_0 | apply sel_s)) rfl hx ?_
    exact j_zret E B rfl (by first | exact Or.inl rfl | exact Or.inr rfl) 0 0 dX5_isHigh_21 (by repeat (first | with_reducible exact pick_0 | with_reducible apply pick_s | exact sel_0 | apply sel_s)) ⟨by rw [if_neg (fun q => e2 q.1)], rfl, rfl, rfl⟩ (by omega) (by omega) (by omega) (by omega)
  · have e2 : v.1 = 2 := (nI_eq hk (by decide)).mp h5
    refine j_aload_n E 9 dX5_isHigh_8 0 rfl rfl rfl ?_
    refine j_getf E 12 dX5_isHigh_9 fl_X5_32 (by repeat (first | with_reducible exact pick_0 | with_reducible apply pick_s)) (by rfl) rfl ?_
    refine j_iconst E (1) 13 dX5_isHigh_12 (by decide) rfl ?_
    refine j_icmp_ne E 20 16 dX5_isHigh_13 (by decide) rfl (fun h13 => ?_) (fun h13 => ?_)
    · refine j_iconst E (0) 21 dX5_isHigh_20 (by decide) rfl ?_
      refine valc_close v _ (by repeat (first | with_reducible exact pick_0 | with_reducible apply pick_s | exact sel_0 | apply sel_s)) rfl hx ?_
      exact j_zret E B rfl (by first | exact Or.inl rfl | exact Or.inr rfl) 0 0 dX5_isHigh_21 (by repeat (first | with_reducible exact pick_0 | with_reducible apply pick_s | exact sel_0 | apply sel_s)) ⟨by rw [if_neg (fun q => h13 q.2)], rfl, rfl, rfl⟩ (by omega) (by omega) (by omega) (by omega)
    · refine j_iconst E (1) 17 dX5_isHigh_16 (by decide) rfl ?_
      refine j_goto E 21 dX5_isHigh_17 (by decide) ?_
      refine valc_close v _ (by repeat (first | with_reducible exact pick_0 | with_reducible apply pick_s | exact sel_0 | apply sel_s)) rfl hx ?_
      exact j_zret E B rfl (by first | exact Or.inl rfl | exact Or.inr rfl) 0 0 dX5_isHigh_21 (by repeat (first | with_reducible exact pick_0 | with_reducible apply pick_s | exact sel_0 | apply sel_s)) ⟨by rw [if_pos ⟨e2, h13⟩], rfl, rfl, rfl⟩ (by omega) (by omega) (by omega) (by omega)
/-- how long a value is -/
def vlen (v : VT) : Nat := if v.1 = 8 then v.2.2.2.2.length / 2 else if v.1 = 7 then v.2.2.2.2.length else v.2.2.2.1.length
set_option maxHeartbeats 4000000 in
theorem c_val_length {g : GT} {z : Nat → Nat} (hA : GA g z) (d a i cap : Nat) (hd : 1 ≤ d) (v : VT) (t : Int32) (hk : v.1 < 2 ^ 31) (hp9 : v.2.2.2.2.length < 2 ^ 31) : CtrV g mX5_length 4 d 0 0 a [] [VALc g z a i v t cap] (fun o dc ds ws' => o = some (.int (nI (vlen v))) ∧ dc = 0 ∧ ds = 0 ∧ ws' = [VALc g z a i v t cap]) noX := by
  refine ⟨valc_rcv, ?_⟩
  have hG := hA.1
  refine ctr_intro hG (by decide +kernel) (Nat.le_of_ble_eq_true rfl) ?_
  rintro X F rfl E B hI T
  replace E : JE X RX5 cX5_length 1 d 0 0 := E
  show J X _ [VALc X.1 z a i v t cap, F] 0 0 0 [some (.ref a)] []
  refine j_aload_n E 1 dX5_length_0 0 rfl rfl rfl ?_
  refine j_callV E (c_val_isGroup (z := z) hG (d-1) a i cap v t hk) 4 dX5_length_1 _ _ _ iv_X5_39 rfl rfl rfl (by repeat (first | with_reducible exact pick_0 | with_reducible apply pick_s | exact sel_0 | apply sel_s)) (by omega) (by omega) (by omega) (Nat.le_of_ble_eq_true rfl) rfl ?_
  rintro _ _ _ _ ⟨rfl, rfl, rfl, rfl⟩
  dsimp only [List.cons_append, List.nil_append, Option.toList]
  refine j_open (by repeat (first | with_reducible exact pick_0 | with_reducible apply pick_s)) valc_open ?_
  rintro ⟨bq, pq, xf⟩ hx
  dsimp only [VALo, List.cons_append, List.nil_append] at hx ⊢
  by_cases e : v.1 = 7 ∨ v.1 = 8
  · rw [if_pos e]
    refine j_if_eq E 30 7 dX5_length_4 (by decide) rfl (fun h4 => ?_) (fun h4 => ?_)
    · exact absurd h4 (by decide)
    · refine j_aload_n E 8 dX5_length_7 0 rfl rfl rfl ?_
      refine j_getf E 11 dX5_length_8 fl_X5_22 (by repeat (first | with_reducible exact pick_0 | with_reducible apply pick_s)) (by rfl) rfl ?_
      refine j_bipush E (8) 13 dX5_length_11 (by decide) rfl ?_
      refine j_icmp_ne E 25 16 dX5_length_13 (by decide) rfl (fun h13 => ?_) (fun h13 => ?_)
      · have e8 : ¬ v.1 = 8 := fun q => h13 (congrArg nI q)
        have e7 : v.1 = 7 := e.resolve_right e8
        refine j_aload_n E 26 dX5_length_25 0 rfl rfl rfl ?_
        refine j_getf E 29 dX5_length_26 fl_X5_43 (by repeat (first | with_reducible exact pick_0 | with_reducible apply pick_s)) (by rfl) rfl ?_
        refine valc_close v _ (by repeat (first | with_reducible exact pick_0 | with_reducible apply pick_s | exact sel_0 | apply sel_s)) rfl hx ?_
        exact j_iret E B rfl 0 0 dX5_length_29 (by repeat (first | with_reducible exact pick_0 | with_reducible apply pick_s | exact sel_0 | apply sel_s)) ⟨by rw [vlen, if_neg e8, if_pos e7], rfl, rfl, rfl⟩ (by omega) (by omega) (by omega) (by omega)
      · have e8 : v.1 = 8 := (nI_eq hk (by decide)).mp h13
        refine j_aload_n E 17 dX5_length_16 0 rfl rfl rfl ?_
        refine j_getf E 20 dX5_length_17 fl_X5_43 (by repeat (first | with_reducible exact pick_0 | with_reducible apply pick_s)) (by rfl) rfl ?_
        refine j_iconst E (2) 21 dX5_length_20 (by decide) rfl ?_
        refine j_idiv E 22 dX5_length_21 (by decide) rfl ?_
        refine j_eqi (y := nI (v.2.2.2.2.length / 2)) (pk_div (by omega) (by decide) (by decide)) ?_
        refine j_goto E 29 dX5_length_22 (by decide) ?_
        refine valc_close v _ (by repeat (first | with_reducible exact pick_0 | with_reducible apply pick_s | exact sel_0 | apply sel_s)) rfl hx ?_
        exact j_iret E B rfl 0 0 dX5_length_29 (by repeat (first | with_reducible exact pick_0 | with_reducible apply pick_s | exact sel_0 | apply sel_s)) ⟨by rw [vlen, if_pos e8], rfl, rfl, rfl⟩ (by omega) (by omega) (by omega) (by omega)
  · rw [if_neg e]
    refine j_if_eq E 30 7 dX5_length_4 (by decide) rfl (fun h4 => ?_) (fun h4 => ?_)
    · refine j_aload_n E 31 dX5_length_30 0 rfl rfl rfl ?_
      refine j_getf E 34 dX5_length_31 fl_X5_35 (by repeat (first | with_reducible exact pick_0 | with_reducible apply pick_s)) (by rfl) rfl ?_
      refine j_lenBys hA E 35 dX5_length_34 (by repeat (first | with_reducible exact pick_0 | with_reducible apply pick_s)) rfl ?_
      refine valc_close v _ (by repeat (first | with_reducible exact pick_0 | with_reducible apply pick_s | exact sel_0 | apply sel_s)) rfl hx ?_
      exact j_iret E B rfl 0 0 dX5_length_35 (by repeat (first | with_reducible exact pick_0 | with_reducible apply pick_s | exact sel_0 | apply sel_s)) ⟨by rw [vlen, if_neg (fun q => e (Or.inr q)), if_neg (fun q => e (Or.inl q))], rfl, rfl, rfl⟩ (by omega) (by omega) (by omega) (by omega)
    · exact absurd rfl h4

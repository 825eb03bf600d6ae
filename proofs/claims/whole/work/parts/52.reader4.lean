/-! Reader: a value -/
theorem gad_app {vs ms : List VE} {gs : List Nat} (h : ∀ j ∈ gs, j < vs.length) : gad (vs ++ ms) gs = gad vs gs := by
  refine List.map_congr_left (fun j hj => ?_)
  have h1 := h j hj
  rw [adr, List.map_append, List.getD_eq_getElem?_getD, List.getD_eq_getElem?_getD, List.getElem?_append_left (by rw [List.length_map]; exact h1)]
  rfl
/-- what a reading of a value leaves behind -/
def rdQ (g : GT) (z : Nat → Nat) (rd ld gr tp vl : Nat) (bs : List UInt8) (cap2 i : Nat) (cd pl : Int32) (vs : List VE) (capV capG : Nat) (R : RO) (o : Option Value) (dc ds : Nat) (ws' : List Asn) : Prop :=
  match R with
  | .inl x => ∃ (e : Nat) (ms : List VE) (np nb cV cG : Nat) (xs : List Nat), o = some (.int (-1)) ∧ ws' = [RDR rd ld gr e (nI x.1) (nI x.2), LEAx ld, ROW g tp bs cap2, LST g z gr xs cG, VLS g z vl (vs ++ ms) np nb cV] ∧ (vs ++ ms).length ≤ 3000 ∧ 20 * dc + 4 * (capV + capG) ≤ 4 * (cV + cG) + 50 * (bs.length - i) ∧ ds + 4 * (capV + capG) ≤ 4 * (cV + cG) + 21 * (bs.length - i)
  | .inr x => ∃ (ads : List Nat) (cV cG : Nat), ads.length = x.2.2.1.length ∧ o = some (.int (nI x.1)) ∧ ws' = [RDR rd ld gr x.2.1 cd pl, LEAx ld, ROW g tp bs cap2, LST g z gr (gad (vs ++ ents ads x.2.2.1) x.2.2.2.2.2) cG, VLS g z vl (vs ++ ents ads x.2.2.1) x.2.2.2.1 x.2.2.2.2.1 cV] ∧ 20 * dc + 4 * (capV + capG) + 10 ≤ 4 * (cV + cG) + 50 * (x.2.1 - i) ∧ ds + 4 * (capV + capG) + 4 ≤ 4 * (cV + cG) + 21 * (x.2.1 - i)
theorem lst_know {g : GT} {z : Nat → Nat} {a cap : Nat} {xs : List Nat} : ∀ w, LST g z a xs cap w → cap ≤ 20000 := fun _ ⟨_, h, _⟩ => h.2.1
theorem vls_know {g : GT} {z : Nat → Nat} {s np nb cap : Nat} {vs : List VE} : ∀ w, VLS g z s vs np nb cap w → cap ≤ 20000 := by
  rintro w ⟨al, w1, w2, -, -, u1, u2, -, h, -⟩
  exact lst_know u1 h
theorem rdLeaf_gs {bs : List UInt8} {i n np nb k h b : Nat} {gs : List Nat} {ty : Int32} {x : Nat × Nat × List VT × Nat × Nat × List Nat} (e : rdLeaf bs i n np nb gs k h b ty = .inr x) : x.2.2.2.2.2 = gs := by
  have hkeep : ∀ {i e n np nb k : Nat} {nm : Int64} {dt : Int32} {cs : List UInt8}, rdKeep i e n np nb gs k nm dt cs = .inr x → x.2.2.2.2.2 = gs := by
    intro i e n np nb k nm dt cs h
    unfold rdKeep at h
    split at h
    · cases h
      rfl
    · cases h
  unfold rdLeaf at e
  split at e
  · unfold rdRow at e
    split at e
    · cases e
    · exact hkeep e
  split at e
  · unfold rdTime at e
    split at e
    · cases e
    · split at e
      · cases e
      · exact hkeep e
  split at e
  · unfold rdRef at e
    split at e
    · cases e
    split at e
    · split at e
      · cases e
        rfl
      · cases e
    · cases e
  · unfold rdPlain at e
    split at e
    · exact hkeep e
    split at e
    · exact hkeep e
    · exact hkeep e
/-- from what a leaf leaves to what a value leaves -/
theorem rdQ_leaf {g : GT} {z : Nat → Nat} {rd ld gr tp vl i e m np nb capV capG cap2 : Nat} {bs : List UInt8} {cd pl : Int32} {vs : List VE} {gs : List Nat} {R : RO} {o : Option Value} {dc ds : Nat} {ws' : List Asn} (hgs : ∀ j ∈ gs, j < vs.length) (hR : ∀ x, R = .inr x → x.2.2.2.2.2 = gs) (hv : vs.length ≤ 3000) (h1 : i < e) (hm : m ≤ e - i) (hq : leafQ g z rd ld gr e cd pl vl vs np nb capV m [LEAx ld, ROW g tp bs cap2, LST g z gr (gad vs gs) capG] R o dc ds ws') : ∃ ws2, rdQ g z rd ld gr tp vl bs cap2 i cd pl vs capV capG R o dc ds ws2 ∧ ∀ ws3, Sel (ws' ++ ws3) (ws2 ++ ws3) [] := by
  rcases R with x | x
  · obtain ⟨rfl, rfl, rfl, rfl⟩ := hq
    refine ⟨_, ⟨e, [], np, nb, capV, capG, gad vs gs, rfl, rfl, by rw [List.append_nil]; exact hv, by omega, by omega⟩, fun ws3 => ?_⟩
    rw [List.append_nil]
    dsimp only [List.cons_append, List.nil_append]
    exact sel_s pick_0 (sel_s (pick_s pick_0) (sel_s (pick_s pick_0) (sel_s (pick_s pick_0) (sel_s pick_0 sel_refl))))
  · obtain ⟨ads, xcap, f1, rfl, f2, rfl, f3, f4, f5, f6⟩ := hq
    have e1 := hR x rfl
    refine ⟨_, ⟨ads, xcap, capG, f1, rfl, rfl, by omega, by omega⟩, fun ws3 => ?_⟩
    rw [e1, gad_app hgs, f2]
    dsimp only [List.cons_append, List.nil_append]
    exact sel_s pick_0 (sel_s (pick_s pick_0) (sel_s (pick_s pick_0) (sel_s (pick_s pick_0) (sel_s pick_0 sel_refl))))

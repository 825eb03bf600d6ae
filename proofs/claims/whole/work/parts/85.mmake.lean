/-! the model: the tables are written -/
theorem vat_new (us : List VT) (v : VT) : vAt (us ++ [v]) us.length = v := by
  rw [vAt, List.getD_eq_getElem?_getD, List.getElem?_append_right (Nat.le_refl _), Nat.sub_self]
  rfl
theorem vat_old {us : List VT} {i : Nat} (e : List VT) (h : i < us.length) : vAt (us ++ e) i = vAt us i := by
  rw [vAt, vAt, List.getD_eq_getElem?_getD, List.getD_eq_getElem?_getD, List.getElem?_append_left h]
theorem zat_old {zs : List Nat} {i : Nat} (e : List Nat) (h : i < zs.length) : (zs ++ e).getD i 0 = zs.getD i 0 := by
  rw [List.getD_eq_getElem?_getD, List.getD_eq_getElem?_getD, List.getElem?_append_left h]
theorem zat_new {zs : List Nat} {i : Nat} (z : Nat) (h : i = zs.length) : (zs ++ [z]).getD i 0 = z := by
  rw [h, List.getD_eq_getElem?_getD, List.getElem?_append_right (Nat.le_refl _), Nat.sub_self]
  rfl
theorem snoc_at {us : List VT} {v0 : VT} {i : Nat} {v : VT} (h : (us ++ [v0])[i]? = some v) : (i < us.length ∧ us[i]? = some v) ∨ (i = us.length ∧ v = v0) := by
  rcases Nat.lt_or_ge i us.length with q | q
  · rw [List.getElem?_append_left q] at h
    exact Or.inl ⟨q, h⟩
  · rw [List.getElem?_append_right q] at h
    have h1 := (List.getElem?_eq_some_iff.mp h).1
    have h2 : i = us.length := by
      rw [List.length_singleton] at h1
      omega
    subst h2
    rw [Nat.sub_self] at h
    cases h
    exact Or.inr ⟨rfl, rfl⟩
theorem bse_le {v : VT} : ∀ (us : List VT) (i : Nat), us[i]? = some v → bse us i + v.2.2.2.1.length ≤ bse us us.length
  | [], _, h => by cases h
  | u :: us, 0, h => by
    cases h
    rw [bse_0, List.length_cons, bse]
    omega
  | u :: us, i + 1, h => by
    have h1 := bse_le us i h
    rw [List.length_cons, bse, bse]
    omega
theorem tbr_new {us : List VT} {zs : List Nat} {R : LK} {nb : Nat} {mk : Nat → Nat} {fk : Nat → Int32} {fn : Nat → Int64} {fh fe ff fl fz flk fnx fb fq : Nat → Int32} (kd : Nat) (nm : Int64) (h : TBR us zs R nb mk fk fn fh fe ff fl fz flk fnx fb fq) (h3 : us.length < 3000) : TBR (us ++ [(kd, nm, 0, [], [])]) (zs ++ [0]) R nb (mkS mk us.length 0) (upd fk us.length (nI kd)) (vp_updL fn us.length nm) (upd fh us.length (vp_nar .boolean 0)) (upd fe us.length 0) (upd ff us.length (-1)) (upd fl us.length (-1)) (upd fz us.length 0) flk fnx fb (upd fq us.length 0) := by
  obtain ⟨h1, h2, h4, h5, h6, h7, h8, h9⟩ := h
  refine ⟨fun i v hv => ?_, h2, ⟨h4.1, ?_⟩, ?_, ?_, ?_, h8, h9⟩
  · rcases snoc_at hv with ⟨hi, hu⟩ | ⟨rfl, rfl⟩
    · have ne : i ≠ us.length := by omega
      have h := h1 i v hu
      unfold TBv at h ⊢
      rw [pk_un ne, pk_uLn ne, pk_un ne, pk_un ne, pk_un ne, pk_un ne, pk_un ne, pk_un ne, zat_old _ (by omega), mkS_n _ ne, bse_app _ _ _ (by omega)]
      exact h
    · unfold TBv
      rw [pk_us, pk_uLs, pk_us, pk_us, pk_us, pk_us, pk_us, pk_us, zat_new _ (by omega), mkS_s, lkF_big h6 (Nat.le_refl _), lkL_big h6 (Nat.le_refl _)]
      exact ⟨⟨rfl, rfl, by rw [if_neg (fun y => absurd y.2 (show ¬ (0 : Int32) = 1 by decide))]; rfl, by dsimp only; split <;> rfl, rfl, rfl⟩, fun _ => ⟨rfl, rfl⟩, Or.inl rfl⟩
  · rw [List.length_append, List.length_singleton, bse_snoc]
    exact h4.2
  · rw [List.length_append, List.length_append, h5]
    rfl
  · rw [List.length_append]
    exact h6.more (Nat.le_add_right _ _)
  · rw [List.length_append, List.length_singleton]
    omega
theorem tbr_last {us : List VT} {v v' : VT} {zs zs' : List Nat} {R : LK} {nb nb' : Nat} {mk : Nat → Nat} {fk : Nat → Int32} {fn : Nat → Int64} {fh fe ff fl fz flk fnx fb fq fh' fe' ff' fz' fb' : Nat → Int32} (h : TBR (us ++ [v]) zs R nb mk fk fn fh fe ff fl fz flk fnx fb fq) (hold : ∀ i, i < us.length → fh' i = fh i ∧ fe' i = fe i ∧ ff' i = ff i ∧ fz' i = fz i ∧ zs'.getD i 0 = zs.getD i 0) (hz : zs'.length = zs.length) (hfb : ∀ p, p < nb → fb' p = fb p) (hfit : Fit8 fb') (hnb : nb' = bse (us ++ [v']) (us.length + 1)) (h1 : nb ≤ nb') (h2 : nb' ≤ 65536) (hnew : TBv (us ++ [v']) R zs' nb' mk fk fn fh' fe' ff' fl fz' flk fnx fb' fq us.length v') : TBR (us ++ [v']) zs' R nb' mk fk fn fh' fe' ff' fl fz' flk fnx fb' fq := by
  obtain ⟨a1, a2, a4, a5, a6, a7, a8, a9⟩ := h
  rw [List.length_append, List.length_singleton] at a5 a6 a7
  refine ⟨fun i u hu => ?_, a2, ⟨hfit, ?_⟩, ?_, ?_, ?_, a8, h2⟩
  · rcases snoc_at hu with ⟨hi, hu1⟩ | ⟨rfl, rfl⟩
    · have h := a1 i u (by rw [List.getElem?_append_left hi]; exact hu1)
      obtain ⟨e1, e2, e3, e4, e5⟩ := hold i hi
      obtain ⟨⟨b1, b2, b3, b4, b5, b6⟩, b7, b8⟩ := h
      refine ⟨⟨b1, b2, e1.trans b3, e2.trans b4, by rw [e4, e5]; exact b5, b6⟩, by rw [e3]; exact b7, ?_⟩
      rcases b8 with e | ⟨o, o1, ⟨o2, o3⟩, o4⟩
      · exact Or.inl e
      · refine Or.inr ⟨o, e3.trans o1, ⟨by omega, ?_⟩, fun j hj => ?_⟩
        · rw [bse_app _ _ _ (by omega)] at o3 ⊢
          exact o3
        · rw [hfb _ (by omega)]
          exact o4 j hj
    · exact hnew
  · rw [List.length_append, List.length_singleton]
    exact hnb
  · rw [List.length_append, List.length_singleton]
    omega
  · rw [List.length_append, List.length_singleton]
    exact a6
  · rw [List.length_append, List.length_singleton]
    exact a7
/-- a value without its parts -/
def stp (v : VT) : VT := (v.1, v.2.1, v.2.2.1, v.2.2.2.1, [])
theorem bse_stp : ∀ (us : List VT) (i : Nat), bse (us.map stp) i = bse us i
  | us, 0 => by rw [bse_0, bse_0]
  | [], i + 1 => rfl
  | u :: us, i + 1 => by
    rw [List.map_cons, bse, bse, bse_stp us i]
    rfl
theorem tbr_same {us us' : List VT} {zs : List Nat} {R : LK} {nb : Nat} {mk : Nat → Nat} {fk : Nat → Int32} {fn : Nat → Int64} {fh fe ff fl fz flk fnx fb fq : Nat → Int32} (he : us'.map stp = us.map stp) (h : TBR us zs R nb mk fk fn fh fe ff fl fz flk fnx fb fq) : TBR us' zs R nb mk fk fn fh fe ff fl fz flk fnx fb fq := by
  have hl : us'.length = us.length := by
    have := congrArg List.length he
    rw [List.length_map, List.length_map] at this
    exact this
  have hb : ∀ i, bse us' i = bse us i := fun i => by rw [← bse_stp us', he, bse_stp]
  obtain ⟨h1, h2, h4, h5, h6, h7, h8, h9⟩ := h
  refine ⟨fun i v hv => ?_, h2, ⟨h4.1, by rw [hb, hl]; exact h4.2⟩, by rw [hl]; exact h5, by rw [hl]; exact h6, by rw [hl]; exact h7, h8, h9⟩
  have e1 : (us.map stp)[i]? = some (stp v) := by
    rw [← he, List.getElem?_map, hv]
    rfl
  rw [List.getElem?_map] at e1
  rcases hu : us[i]? with _ | u
  · rw [hu] at e1
    cases e1
  · rw [hu] at e1
    have e2 : stp u = stp v := Option.some.inj e1
    have h := h1 i u hu
    obtain ⟨v1, v2, v3, v4, v5⟩ := v
    obtain ⟨u1, u2, u3, u4, u5⟩ := u
    cases e2
    unfold TBv at h ⊢
    rw [hb]
    exact h
theorem tbr_back {us : List VT} {zs : List Nat} {R : LK} {nb nb' : Nat} {e : List VT} {ze : List Nat} {f : LK} {mk : Nat → Nat} {fk : Nat → Int32} {fn : Nat → Int64} {fh fe ff fl fz flk fnx fb fq : Nat → Int32} (h : TBR (us ++ e) (zs ++ ze) (f ++ R) nb' mk fk fn fh fe ff fl fz flk fnx fb fq) (hz : zs.length = us.length) (hR : OWN R us.length) (hf : ∀ x ∈ f, us.length ≤ x.1) (hnb : nb = bse us us.length) (hnn : nb ≤ 65536) : TBR us zs R nb mk fk fn fh fe ff fl fz flk fnx fb fq := by
  obtain ⟨h1, h2, h4, h5, h6, h7, h8, h9⟩ := h
  have hold := lk_old hR hf
  rw [List.length_append] at h7 h8
  refine ⟨fun i v hv => ?_, fun k hk => ?_, ⟨h4.1, hnb⟩, hz, hR, by omega, by omega, hnn⟩
  · have hi := (List.getElem?_eq_some_iff.mp hv).1
    have h := h1 i v (by rw [List.getElem?_append_left hi]; exact hv)
    obtain ⟨⟨b1, b2, b3, b4, b5, b6⟩, b7, b8⟩ := h
    obtain ⟨c1, c2, c3⟩ := hold.2 i hi
    refine ⟨⟨b1, b2, b3, b4, ?_, b6⟩, fun hg => ?_, ?_⟩
    · rw [zat_old _ (by omega)] at b5
      exact b5
    · have := b7 hg
      rw [c1, c2] at this
      exact this
    · rcases b8 with q | ⟨o, o1, ⟨o2, o3⟩, o4⟩
      · exact Or.inl q
      · rw [bse_app _ _ _ (by omega)] at o3
        have hl := bse_le us i hv
        exact Or.inr ⟨o, o1, ⟨by omega, o3⟩, o4⟩
  · have h := h2 k (by rw [List.length_append]; omega)
    obtain ⟨c1, c2⟩ := hold.1 k hk
    rw [c1, c2] at h
    exact h
section
variable {X : XT} {own : String} {cc : ByteArray} {nL d mc ms k n pc : Nat} {lv : List (Option Value)} {st : List Value} {ws ws1 : List Asn} {r : Nat → Nat} {us : List VT} {zs : List Nat} {R : LK} {nb : Nat} {mk : Nat → Nat}
theorem j_tbsame (us' : List VT) (hp : Pick ws (TB X.1 r us zs R nb mk) ws1) (he : us'.map stp = us.map stp) (kk : J X nL (TB X.1 r us' zs R nb mk :: ws1) k n pc lv st) : J X nL ws k n pc lv st := by
  refine tb_open hp ?_
  intro fk fn fh fe ff fl fz flk fnx fb fq h
  dsimp only [List.cons_append, List.nil_append]
  exact tb_close us' zs R nb mk (by repeat (first | with_reducible exact pick_0 | with_reducible apply pick_s | exact sel_0 | apply sel_s)) (tbr_same he h) kk
theorem j_tbmk (mk' : Nat → Nat) (hp : Pick ws (TB X.1 r us zs R nb mk) ws1) (he : ∀ i, i < us.length → mk' i = mk i) (kk : J X nL (TB X.1 r us zs R nb mk' :: ws1) k n pc lv st) : J X nL ws k n pc lv st := by
  refine tb_open hp ?_
  intro fk fn fh fe ff fl fz flk fnx fb fq h
  dsimp only [List.cons_append, List.nil_append]
  refine tb_close us zs R nb mk' (by repeat (first | with_reducible exact pick_0 | with_reducible apply pick_s | exact sel_0 | apply sel_s)) ⟨fun i v hv => ?_, h.2⟩ kk
  have hi := (List.getElem?_eq_some_iff.mp hv).1
  have h := h.1 i v hv
  unfold TBv at h ⊢
  rw [he i hi]
  exact h
theorem j_tbback {us : List VT} {zs : List Nat} {e : List VT} {ze : List Nat} {f : LK} {nb' : Nat} (hp : Pick ws (TB X.1 r (us ++ e) (zs ++ ze) (f ++ R) nb' mk) ws1) (hz : zs.length = us.length) (hR : OWN R us.length) (hf : ∀ x ∈ f, us.length ≤ x.1) (hnb : nb = bse us us.length) (hnn : nb ≤ 65536) (kk : J X nL (TB X.1 r us zs R nb mk :: ws1) k n pc lv st) : J X nL ws k n pc lv st := by
  refine tb_open hp ?_
  intro fk fn fh fe ff fl fz flk fnx fb fq h
  dsimp only [List.cons_append, List.nil_append]
  exact tb_close us zs R nb mk (by repeat (first | with_reducible exact pick_0 | with_reducible apply pick_s | exact sel_0 | apply sel_s)) (tbr_back h hz hR hf hnb hnn) kk
theorem j_tbZs (E : JE X own cc nL d mc ms) {i z : Nat} (pc' : Nat) (hd : decode cc pc = .ok (.iastore, 1)) (hp : Pick ws (TB X.1 r us zs R nb mk) ws1) (hi : i < us.length) (hpc : pc + 1 = pc') (kk : J X nL (TB X.1 r us (zs.set i z) R nb mk :: ws1) k n pc' lv st) : J X nL ws k n pc lv (.int (nI z) :: .int (nI i) :: .ref (r 12) :: st) := by
  refine j_know (pick_know hp tb_know) (fun hk9 => ?_)
  refine tb_open hp ?_
  intro fk fn fh fe ff fl fz flk fnx fb fq h
  dsimp only [List.cons_append, List.nil_append]
  refine j_iast E pc' hd (by repeat (first | with_reducible exact pick_0 | with_reducible apply pick_s)) (vp_in_nI (N := 3000) (by omega) (by omega)) hpc ?_
  rw [nI_clamp (by omega)]
  refine tb_close us _ R nb _ (by repeat (first | with_reducible exact pick_0 | with_reducible apply pick_s | exact sel_0 | apply sel_s)) ⟨fun j v hv => ?_, h.2.1, h.2.2.1, by rw [List.length_set]; exact h.2.2.2.1, h.2.2.2.2⟩ kk
  obtain ⟨⟨a1, a2, a3, a4, a5, a6⟩, a7⟩ := h.1 j v hv
  refine ⟨⟨a1, a2, a3, a4, ?_, a6⟩, a7⟩
  by_cases e : j = i
  · subst e
    rw [pk_us, List.getD_eq_getElem?_getD, List.getElem?_set_self (by omega)]
    rfl
  · rw [pk_un e, List.getD_eq_getElem?_getD, List.getElem?_set_ne (Ne.symm e), ← List.getD_eq_getElem?_getD]
    exact a5
theorem j_tbEs (E : JE X own cc nL d mc ms) {v : VT} {x : Int32} (pc' : Nat) (hd : decode cc pc = .ok (.iastore, 1)) (hp : Pick ws (TB X.1 r (us ++ [v]) zs R nb mk) ws1) (hx : v.1 = 2 → x = 0) (hpc : pc + 1 = pc') (kk : J X nL (TB X.1 r (us ++ [(v.1, v.2.1, (if v.1 = 2 then v.2.2.1 else x), v.2.2.2.1, v.2.2.2.2)]) zs R nb mk :: ws1) k n pc' lv st) : J X nL ws k n pc lv (.int x :: .int (nI us.length) :: .ref (r 9) :: st) := by
  refine j_know (pick_know hp tb_know) (fun hk9 => ?_)
  have hl : us.length < 3000 := by
    have := hk9.2.2.1
    rw [List.length_append, List.length_singleton] at this
    omega
  refine tb_open hp ?_
  intro fk fn fh fe ff fl fz flk fnx fb fq h
  dsimp only [List.cons_append, List.nil_append]
  refine j_iast E pc' hd (by repeat (first | with_reducible exact pick_0 | with_reducible apply pick_s)) (vp_in_nI (N := 3000) (by omega) (by omega)) hpc ?_
  rw [nI_clamp (by omega)]
  have hat := h.1 us.length v (by rw [List.getElem?_append_right (Nat.le_refl _), Nat.sub_self]; rfl)
  have hnb := h.2.2.1.2
  rw [List.length_append, List.length_singleton, bse_snoc] at hnb
  refine tb_close _ zs R nb _ (by repeat (first | with_reducible exact pick_0 | with_reducible apply pick_s | exact sel_0 | apply sel_s)) (tbr_last h (fun i hi => ⟨rfl, pk_un (by omega), rfl, rfl, rfl⟩) rfl (fun _ _ => rfl) h.2.2.1.1 (by rw [bse_snoc]; exact hnb) (Nat.le_refl _) h.2.2.2.2.2.2.2 ?_) kk
  obtain ⟨⟨a1, a2, a3, a4, a5, a6⟩, a7, a8⟩ := hat
  rw [bse_app _ _ _ (Nat.le_refl _)] at a8
  refine ⟨⟨a1, a2, ?_, ?_, a5, a6⟩, a7, ?_⟩
  · dsimp only
    rw [a3]
    by_cases q : v.1 = 2
    · rw [if_pos q]
    · rw [if_neg (fun y => q y.1), if_neg (fun y => q y.1)]
  · dsimp only
    rw [pk_us]
    by_cases q : v.1 = 2
    · rw [if_pos q]
      exact hx q
    · rw [if_neg q, if_neg q]
  · rw [bse_app _ _ _ (Nat.le_refl _)]
    exact a8
theorem j_tbHs (E : JE X own cc nL d mc ms) {v : VT} {x : Int32} (pc' : Nat) (hd : decode cc pc = .ok (.bastore, 1)) (hp : Pick ws (TB X.1 r (us ++ [v]) zs R nb mk) ws1) (hx : x = 0 ∨ (x = 1 ∧ v.1 = 2)) (hpc : pc + 1 = pc') (kk : J X nL (TB X.1 r (us ++ [(v.1, v.2.1, (if v.1 = 2 then x else v.2.2.1), v.2.2.2.1, v.2.2.2.2)]) zs R nb mk :: ws1) k n pc' lv st) : J X nL ws k n pc lv (.int x :: .int (nI us.length) :: .ref (r 8) :: st) := by
  refine j_know (pick_know hp tb_know) (fun hk9 => ?_)
  have hl : us.length < 3000 := by
    have := hk9.2.2.1
    rw [List.length_append, List.length_singleton] at this
    omega
  refine tb_open hp ?_
  intro fk fn fh fe ff fl fz flk fnx fb fq h
  dsimp only [List.cons_append, List.nil_append]
  refine j_zast E pc' hd (by repeat (first | with_reducible exact pick_0 | with_reducible apply pick_s)) (vp_in_nI (N := 3000) (by omega) (by omega)) hpc ?_
  rw [nI_clamp (by omega), show vp_nar .boolean x = x by rcases hx with e | ⟨e, -⟩ <;> (rw [e]; decide)]
  have hat := h.1 us.length v (by rw [List.getElem?_append_right (Nat.le_refl _), Nat.sub_self]; rfl)
  have hnb := h.2.2.1.2
  rw [List.length_append, List.length_singleton, bse_snoc] at hnb
  refine tb_close _ zs R nb _ (by repeat (first | with_reducible exact pick_0 | with_reducible apply pick_s | exact sel_0 | apply sel_s)) (tbr_last h (fun i hi => ⟨pk_un (by omega), rfl, rfl, rfl, rfl⟩) rfl (fun _ _ => rfl) h.2.2.1.1 (by rw [bse_snoc]; exact hnb) (Nat.le_refl _) h.2.2.2.2.2.2.2 ?_) kk
  obtain ⟨⟨a1, a2, a3, a4, a5, a6⟩, a7, a8⟩ := hat
  rw [bse_app _ _ _ (Nat.le_refl _)] at a8
  refine ⟨⟨a1, a2, ?_, ?_, a5, a6⟩, a7, ?_⟩
  · dsimp only
    rw [pk_us]
    by_cases q : v.1 = 2
    · rw [if_pos q]
      rcases hx with e | ⟨e, -⟩
      · rw [e, if_neg (fun y => absurd y.2 (by decide))]
      · rw [e, if_pos ⟨q, rfl⟩]
    · rw [if_neg (fun y => q y.1)]
      exact hx.resolve_right (fun y => q y.2)
  · dsimp only
    rw [a4]
    by_cases q : v.1 = 2
    · rw [if_pos q, if_pos q]
    · rw [if_neg q, if_neg q, if_neg q]
  · rw [bse_app _ _ _ (Nat.le_refl _)]
    exact a8
end
set_option maxHeartbeats 8000000 in
theorem c_m_make {g : GT} (hG : GLB g) (d m : Nat) (r : Nat → Nat) {th ts os lc bc pkd pkg cm fu op fc fp at_ bgc got : Int32} {pr : Int64} (kd : Nat) (nm : Int64) (us : List VT) (zs : List Nat) (R : LK) (nb : Nat) (mk : Nat → Nat) (h3 : us.length < 3000) : CtrV g mX8_make 7 d 0 0 m [.int (nI kd), .long nm] [MF m r th ts os (nI us.length) lc bc pkd pkg cm fu op fc fp at_ bgc got pr, TB g r us zs R nb mk] (fun o dc ds ws' => o = some (.int (nI us.length)) ∧ dc = 0 ∧ ds = 0 ∧ ws' = [MF m r th ts os (nI (us.length + 1)) lc bc pkd pkg cm fu op fc fp at_ bgc got pr, TB g r (us ++ [(kd, nm, 0, [], [])]) (zs ++ [0]) R nb (mkS mk us.length 0)]) noX := by
  refine ⟨rcv_pt, ?_⟩
  refine ctr_intro hG (by decide +kernel) (Nat.le_of_ble_eq_true rfl) ?_
  rintro X F rfl E B hI T
  replace E : JE X RX8 cX8_make 5 d 0 0 := E
  show J X _ [MF m r th ts os (nI us.length) lc bc pkd pkg cm fu op fc fp at_ bgc got pr, TB X.1 r us zs R nb mk, F] 0 0 0 [some (.ref m), some (.int (nI kd)), some (.long nm), none, none] []
  refine j_aload_n E 1 dX8_make_0 0 rfl rfl rfl ?_
  refine j_getf E 4 dX8_make_1 fl_X8_107 (by repeat (first | with_reducible exact pick_0 | with_reducible apply pick_s)) (by rfl) rfl ?_
  refine j_istore E 6 dX8_make_4 (Nat.le_of_ble_eq_true rfl) rfl rfl ?_
  dsimp only [List.set]
  refine j_aload_n E 7 dX8_make_6 0 rfl rfl rfl ?_
  refine j_dup E 8 dX8_make_7 rfl rfl ?_
  refine j_getf E 11 dX8_make_8 fl_X8_107 (by repeat (first | with_reducible exact pick_0 | with_reducible apply pick_s)) (by rfl) rfl ?_
  refine j_iconst E (1) 12 dX8_make_11 (by decide) rfl ?_
  refine j_iadd E 13 dX8_make_12 rfl ?_
  refine j_eqi (nI_1 us.length) ?_
  refine j_putf E 16 dX8_make_13 fl_X8_107 (by repeat (first | with_reducible exact pick_0 | with_reducible apply pick_s)) rfl rfl (Nat.le_of_ble_eq_true rfl) rfl ?_
  dsimp only [List.set]
  refine tb_open (by repeat (first | with_reducible exact pick_0 | with_reducible apply pick_s)) ?_
  intro fk fn fh fe ff fl fz flk fnx fb fq h
  dsimp only [List.cons_append, List.nil_append]
  refine j_aload_n E 17 dX8_make_16 0 rfl rfl rfl ?_
  refine j_getf E 20 dX8_make_17 fl_X8_17 (by repeat (first | with_reducible exact pick_0 | with_reducible apply pick_s)) (by rfl) rfl ?_
  refine j_iload E 22 dX8_make_20 rfl rfl ?_
  refine j_iload_n E 23 dX8_make_22 1 rfl rfl rfl ?_
  refine j_iast E 24 dX8_make_23 (by repeat (first | with_reducible exact pick_0 | with_reducible apply pick_s)) (vp_in_nI (by omega) (by omega)) rfl ?_
  refine j_aload_n E 25 dX8_make_24 0 rfl rfl rfl ?_
  refine j_getf E 28 dX8_make_25 fl_X8_21 (by repeat (first | with_reducible exact pick_0 | with_reducible apply pick_s)) (by rfl) rfl ?_
  refine j_iload E 30 dX8_make_28 rfl rfl ?_
  refine j_lload_n E 31 dX8_make_30 2 rfl rfl rfl ?_
  refine j_last E 32 dX8_make_31 (by repeat (first | with_reducible exact pick_0 | with_reducible apply pick_s)) (vp_in_nI (by omega) (by omega)) rfl ?_
  refine j_aload_n E 33 dX8_make_32 0 rfl rfl rfl ?_
  refine j_getf E 36 dX8_make_33 fl_X8_25 (by repeat (first | with_reducible exact pick_0 | with_reducible apply pick_s)) (by rfl) rfl ?_
  refine j_iload E 38 dX8_make_36 rfl rfl ?_
  refine j_iconst E (0) 39 dX8_make_38 (by decide) rfl ?_
  refine j_zast E 40 dX8_make_39 (by repeat (first | with_reducible exact pick_0 | with_reducible apply pick_s)) (vp_in_nI (by omega) (by omega)) rfl ?_
  refine j_aload_n E 41 dX8_make_40 0 rfl rfl rfl ?_
  refine j_getf E 44 dX8_make_41 fl_X8_29 (by repeat (first | with_reducible exact pick_0 | with_reducible apply pick_s)) (by rfl) rfl ?_
  refine j_iload E 46 dX8_make_44 rfl rfl ?_
  refine j_iconst E (0) 47 dX8_make_46 (by decide) rfl ?_
  refine j_iast E 48 dX8_make_47 (by repeat (first | with_reducible exact pick_0 | with_reducible apply pick_s)) (vp_in_nI (by omega) (by omega)) rfl ?_
  refine j_aload_n E 49 dX8_make_48 0 rfl rfl rfl ?_
  refine j_getf E 52 dX8_make_49 fl_X8_32 (by repeat (first | with_reducible exact pick_0 | with_reducible apply pick_s)) (by rfl) rfl ?_
  refine j_iload E 54 dX8_make_52 rfl rfl ?_
  refine j_iconst E (-1) 55 dX8_make_54 (by decide) rfl ?_
  refine j_iast E 56 dX8_make_55 (by repeat (first | with_reducible exact pick_0 | with_reducible apply pick_s)) (vp_in_nI (by omega) (by omega)) rfl ?_
  refine j_aload_n E 57 dX8_make_56 0 rfl rfl rfl ?_
  refine j_getf E 60 dX8_make_57 fl_X8_35 (by repeat (first | with_reducible exact pick_0 | with_reducible apply pick_s)) (by rfl) rfl ?_
  refine j_iload E 62 dX8_make_60 rfl rfl ?_
  refine j_iconst E (-1) 63 dX8_make_62 (by decide) rfl ?_
  refine j_iast E 64 dX8_make_63 (by repeat (first | with_reducible exact pick_0 | with_reducible apply pick_s)) (vp_in_nI (by omega) (by omega)) rfl ?_
  refine j_aload_n E 65 dX8_make_64 0 rfl rfl rfl ?_
  refine j_getf E 68 dX8_make_65 fl_X8_38 (by repeat (first | with_reducible exact pick_0 | with_reducible apply pick_s)) (by rfl) rfl ?_
  refine j_iload E 70 dX8_make_68 rfl rfl ?_
  refine j_iconst E (0) 71 dX8_make_70 (by decide) rfl ?_
  refine j_iast E 72 dX8_make_71 (by repeat (first | with_reducible exact pick_0 | with_reducible apply pick_s)) (vp_in_nI (by omega) (by omega)) rfl ?_
  refine j_aload_n E 73 dX8_make_72 0 rfl rfl rfl ?_
  refine j_getf E 76 dX8_make_73 fl_X8_56 (by repeat (first | with_reducible exact pick_0 | with_reducible apply pick_s)) (by rfl) rfl ?_
  refine j_iload E 78 dX8_make_76 rfl rfl ?_
  refine j_iconst E (0) 79 dX8_make_78 (by decide) rfl ?_
  refine j_iast E 80 dX8_make_79 (by repeat (first | with_reducible exact pick_0 | with_reducible apply pick_s)) (vp_in_nI (by omega) (by omega)) rfl ?_
  rw [nI_clamp (by omega)]
  refine tb_close _ _ R nb _ (by repeat (first | with_reducible exact pick_0 | with_reducible apply pick_s | exact sel_0 | apply sel_s)) (tbr_new kd nm h h3) ?_
  refine j_iload E 82 dX8_make_80 rfl rfl ?_
  exact j_iret E B rfl 0 0 dX8_make_82 (by repeat (first | with_reducible exact pick_0 | with_reducible apply pick_s | exact sel_0 | apply sel_s)) ⟨rfl, rfl, rfl, rfl⟩ (by omega) (by omega) (by omega) (by omega)

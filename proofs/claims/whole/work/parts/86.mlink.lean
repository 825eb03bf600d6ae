/-! the model: makeRow, link, isValue, fail -/
theorem nar_by8 (b : UInt8) : vp_nar .byte (by8 b) = by8 b := (by8_nar _).trans (congrArg by8 (lo8_by8 b))
theorem cut_at {bs : List UInt8} {i n t : Nat} (h : t < n) : (cutB bs i n).getD t 0 = bs.getD (i + t) 0 := by
  rw [cutB, List.getD_eq_getElem?_getD, List.getElem?_take_of_lt h, List.getElem?_drop, ← List.getD_eq_getElem?_getD]
set_option maxHeartbeats 8000000 in
theorem c_m_makeRow {g : GT} (hG : GLB g) (d m : Nat) (r : Nat → Nat) {th ts os lc pkd pkg cm fu op fc fp at_ bgc got : Int32} {pr : Int64} (kd i n : Nat) (bs : List UInt8) (us : List VT) (zs : List Nat) (R : LK) (nb : Nat) (mk : Nat → Nat) (hd : 1 ≤ d) (h3 : us.length < 3000) (hk : ¬ (kd = 7 ∨ kd = 8)) (hi : i + n ≤ bs.length) (hn : nb + n ≤ 65536) : CtrV g mX8_makeRow 7 d 0 0 m [.int (nI kd), .int (nI i), .int (nI n)] [MF m r th ts os (nI us.length) lc (nI nb) pkd pkg cm fu op fc fp at_ bgc got pr, BA g (r 1) bs, TB g r us zs R nb mk] (fun o dc ds ws' => o = some (.int (nI us.length)) ∧ dc = 0 ∧ ds = 0 ∧ ws' = [MF m r th ts os (nI (us.length + 1)) lc (nI (nb + n)) pkd pkg cm fu op fc fp at_ bgc got pr, BA g (r 1) bs, TB g r (us ++ [(kd, 0, 0, cutB bs i n, [])]) (zs ++ [n]) R (nb + n) (mkS mk us.length 0)]) noX := by
  refine ⟨rcv_pt, ?_⟩
  refine ctr_intro hG (by decide +kernel) (Nat.le_of_ble_eq_true rfl) ?_
  rintro X F rfl E B hI T
  replace E : JE X RX8 cX8_makeRow 6 d 0 0 := E
  show J X _ [MF m r th ts os (nI us.length) lc (nI nb) pkd pkg cm fu op fc fp at_ bgc got pr, BA X.1 (r 1) bs, TB X.1 r us zs R nb mk, F] 0 0 0 [some (.ref m), some (.int (nI kd)), some (.int (nI i)), some (.int (nI n)), none, none] []
  refine j_know (pick_know (P := BA X.1 (r 1) bs) (by repeat (first | with_reducible exact pick_0 | with_reducible apply pick_s)) ba_know) (fun hbl => ?_)
  refine j_know (pick_know (P := TB X.1 r us zs R nb mk) (by repeat (first | with_reducible exact pick_0 | with_reducible apply pick_s)) tb_know) (fun hk9 => ?_)
  refine j_aload_n E 1 dX8_makeRow_0 0 rfl rfl rfl ?_
  refine j_iload_n E 2 dX8_makeRow_1 1 rfl rfl rfl ?_
  refine j_lconst E 0 3 dX8_makeRow_2 rfl rfl ?_
  refine j_callV E (c_m_make hG (d-1) m r kd 0 us zs R nb mk h3) 6 dX8_makeRow_3 _ _ _ iv_X8_110 rfl rfl rfl (by repeat (first | with_reducible exact pick_0 | with_reducible apply pick_s | exact sel_0 | apply sel_s)) (by omega) (by omega) (by omega) (Nat.le_of_ble_eq_true rfl) rfl ?_
  rintro _ _ _ _ ⟨rfl, rfl, rfl, rfl⟩
  dsimp only [List.cons_append, List.nil_append, Option.toList]
  refine j_istore E 8 dX8_makeRow_6 (Nat.le_of_ble_eq_true rfl) rfl rfl ?_
  dsimp only [List.set]
  refine tb_open (by repeat (first | with_reducible exact pick_0 | with_reducible apply pick_s)) ?_
  intro fk fn fh fe ff fl fz flk fnx fb fq h
  dsimp only [List.cons_append, List.nil_append]
  refine j_aload_n E 9 dX8_makeRow_8 0 rfl rfl rfl ?_
  refine j_getf E 12 dX8_makeRow_9 fl_X8_32 (by repeat (first | with_reducible exact pick_0 | with_reducible apply pick_s)) (by rfl) rfl ?_
  refine j_iload E 14 dX8_makeRow_12 rfl rfl ?_
  refine j_aload_n E 15 dX8_makeRow_14 0 rfl rfl rfl ?_
  refine j_getf E 18 dX8_makeRow_15 fl_X8_114 (by repeat (first | with_reducible exact pick_0 | with_reducible apply pick_s)) (by rfl) rfl ?_
  refine j_iast E 19 dX8_makeRow_18 (by repeat (first | with_reducible exact pick_0 | with_reducible apply pick_s)) (vp_in_nI (by omega) (by omega)) rfl ?_
  refine j_aload_n E 20 dX8_makeRow_19 0 rfl rfl rfl ?_
  refine j_getf E 23 dX8_makeRow_20 fl_X8_38 (by repeat (first | with_reducible exact pick_0 | with_reducible apply pick_s)) (by rfl) rfl ?_
  refine j_iload E 25 dX8_makeRow_23 rfl rfl ?_
  refine j_iload_n E 26 dX8_makeRow_25 3 rfl rfl rfl ?_
  refine j_iast E 27 dX8_makeRow_26 (by repeat (first | with_reducible exact pick_0 | with_reducible apply pick_s)) (vp_in_nI (by omega) (by omega)) rfl ?_
  rw [nI_clamp (by omega)]
  refine j_iconst E (0) 28 dX8_makeRow_27 (by decide) rfl ?_
  refine j_istore E 30 dX8_makeRow_28 (Nat.le_of_ble_eq_true rfl) rfl rfl ?_
  dsimp only [List.set]
  have hnb : nb = bse us us.length := by
    have := h.2.2.1.2
    rw [List.length_append, List.length_singleton, bse_snoc] at this
    exact this
  have hcl : (cutB bs i n).length = n := cutB_len hi
  have loop : ∀ (q j : Nat) (fb1 : Nat → Int32), j + q = n → Fit8 fb1 → (∀ p, p < nb → fb1 p = fb p) → (∀ t, t < j → fb1 (nb + t) = by8 (bs.getD (i + t) 0)) → J X 6 ([pt (r 6) (aI X.1 3000 fk), pt (r 7) (aJ X.1 3000 fn), pt (r 8) (aZ X.1 3000 fh), pt (r 9) (aI X.1 3000 fe), pt (r 10) (aI X.1 3000 (upd ff us.length (nI nb))), pt (r 11) (aI X.1 3000 fl), pt (r 12) (aI X.1 3000 (upd fz us.length (nI n))), pt (r 14) (aI X.1 6000 flk), pt (r 15) (aI X.1 6000 fnx), pt (r 16) (aB X.1 65536 fb1), pt (r 22) (aI X.1 3000 fq)] ++ [MF m r th ts os (nI (us.length + 1)) lc (nI nb) pkd pkg cm fu op fc fp at_ bgc got pr, BA X.1 (r 1) bs, F]) 0 0 30 [some (.ref m), some (.int (nI kd)), some (.int (nI i)), some (.int (nI n)), some (.int (nI us.length)), some (.int (nI j))] [] := by
    intro q
    induction q with
    | zero =>
      intro j fb1 hj hfit hlo hup
      dsimp only [List.cons_append, List.nil_append]
      refine j_iload E 32 dX8_makeRow_30 rfl rfl ?_
      refine j_iload_n E 33 dX8_makeRow_32 3 rfl rfl rfl ?_
      refine j_icmp_ge E 63 36 dX8_makeRow_33 (by decide) rfl (fun h33 => ?_) (fun h33 => ?_)
      · refine j_aload_n E 64 dX8_makeRow_63 0 rfl rfl rfl ?_
        refine j_aload_n E 65 dX8_makeRow_64 0 rfl rfl rfl ?_
        refine j_getf E 68 dX8_makeRow_65 fl_X8_114 (by repeat (first | with_reducible exact pick_0 | with_reducible apply pick_s)) (by rfl) rfl ?_
        refine j_iload_n E 69 dX8_makeRow_68 3 rfl rfl rfl ?_
        refine j_iadd E 70 dX8_makeRow_69 rfl ?_
        refine j_eqi (nI_add nb n) ?_
        refine j_putf E 73 dX8_makeRow_70 fl_X8_114 (by repeat (first | with_reducible exact pick_0 | with_reducible apply pick_s)) rfl rfl (Nat.le_of_ble_eq_true rfl) rfl ?_
        dsimp only [List.set]
        refine tb_close (us ++ [(kd, 0, 0, cutB bs i n, [])]) (zs ++ [n]) R (nb + n) _ (by repeat (first | with_reducible exact pick_0 | with_reducible apply pick_s | exact sel_0 | apply sel_s)) (tbr_last h (fun k hk => ⟨rfl, rfl, pk_un (by omega), pk_un (by omega), by rw [zat_old _ (by omega), zat_old _ (by omega)]⟩) (by rw [List.length_append, List.length_append]; rfl) hlo hfit (by rw [bse_snoc, ← hnb, hcl]) (Nat.le_add_right _ _) hn ?_) ?_
        · have hat := h.1 us.length (kd, 0, 0, [], []) (by rw [List.getElem?_append_right (Nat.le_refl _), Nat.sub_self]; rfl)
          obtain ⟨⟨a1, a2, a3, a4, a5, a6⟩, a7, a8⟩ := hat
          refine ⟨⟨a1, a2, a3, a4, ?_, a6⟩, fun hg => absurd hg hk, Or.inr ⟨nb, pk_us, ⟨by rw [hcl]; exact Nat.le_refl _, by rw [bse_app _ _ _ (Nat.le_refl _)]; exact hnb⟩, fun t ht => ?_⟩⟩
          · show upd fz us.length (nI n) us.length = _
            rw [pk_us, zat_new _ (by omega)]
          · rw [hcl] at ht
            rw [cut_at ht]
            exact hup t (by omega)
        · refine j_iload E 75 dX8_makeRow_73 rfl rfl ?_
          exact j_iret E B rfl 0 0 dX8_makeRow_75 (by repeat (first | with_reducible exact pick_0 | with_reducible apply pick_s | exact sel_0 | apply sel_s)) ⟨rfl, rfl, rfl, rfl⟩ (by omega) (by omega) (by omega) (by omega)
      · exact absurd (nI_le (by omega) (by omega)) h33
    | succ q ih =>
      intro j fb1 hj hfit hlo hup
      dsimp only [List.cons_append, List.nil_append]
      refine j_iload E 32 dX8_makeRow_30 rfl rfl ?_
      refine j_iload_n E 33 dX8_makeRow_32 3 rfl rfl rfl ?_
      refine j_icmp_ge E 63 36 dX8_makeRow_33 (by decide) rfl (fun h33 => ?_) (fun h33 => ?_)
      · exact absurd h33 (nI_ge (by omega) (by omega))
      · refine j_aload_n E 37 dX8_makeRow_36 0 rfl rfl rfl ?_
        refine j_getf E 40 dX8_makeRow_37 fl_X8_47 (by repeat (first | with_reducible exact pick_0 | with_reducible apply pick_s)) (by rfl) rfl ?_
        refine j_aload_n E 41 dX8_makeRow_40 0 rfl rfl rfl ?_
        refine j_getf E 44 dX8_makeRow_41 fl_X8_114 (by repeat (first | with_reducible exact pick_0 | with_reducible apply pick_s)) (by rfl) rfl ?_
        refine j_iload E 46 dX8_makeRow_44 rfl rfl ?_
        refine j_iadd E 47 dX8_makeRow_46 rfl ?_
        refine j_eqi (nI_add nb j) ?_
        refine j_aload_n E 48 dX8_makeRow_47 0 rfl rfl rfl ?_
        refine j_getf E 51 dX8_makeRow_48 fl_X8_8 (by repeat (first | with_reducible exact pick_0 | with_reducible apply pick_s)) (by rfl) rfl ?_
        refine j_iload_n E 52 dX8_makeRow_51 2 rfl rfl rfl ?_
        refine j_iload E 54 dX8_makeRow_52 rfl rfl ?_
        refine j_iadd E 55 dX8_makeRow_54 rfl ?_
        refine j_eqi (nI_add i j) ?_
        refine j_baldBA E 56 dX8_makeRow_55 (by repeat (first | with_reducible exact pick_0 | with_reducible apply pick_s)) (by omega) rfl ?_
        refine j_bast E 57 dX8_makeRow_56 (by repeat (first | with_reducible exact pick_0 | with_reducible apply pick_s)) (vp_in_nI (by omega) (by omega)) rfl ?_
        rw [nI_clamp (by omega), nar_by8]
        refine j_iinc E _ 60 dX8_makeRow_57 rfl rfl (Nat.le_of_ble_eq_true rfl) rfl rfl ?_
        dsimp only [List.set]
        refine j_goto E 30 dX8_makeRow_60 (by decide) ?_
        have hw := ih (j + 1) (upd fb1 (nb + j) (by8 (bs.getD (i + j) 0))) (by omega) (hfit.up _ _) (fun p hp => (pk_un (by omega)).trans (hlo p hp)) (fun t ht => by
          by_cases e : t = j
          · subst e
            exact pk_us
          · rw [pk_un (by omega)]
            exact hup t (by omega))
        rw [← nI_1 j] at hw
        exact j_sel (by repeat (first | with_reducible exact pick_0 | with_reducible apply pick_s | exact sel_0 | apply sel_s)) hw
  exact j_sel (by repeat (first | with_reducible exact pick_0 | with_reducible apply pick_s | exact sel_0 | apply sel_s)) (loop n 0 fb (Nat.zero_add _) h.2.2.1.1 (fun _ _ => rfl) (fun t ht => absurd ht (Nat.not_lt_zero _)))
theorem tbv_link {us : List VT} {zs : List Nat} {R : LK} {nb gi v : Nat} {mk : Nat → Nat} {fk : Nat → Int32} {fn : Nat → Int64} {fh fe ff fl fz flk fnx fb fq ff' flk' fnx' : Nat → Int32} (h : TBR us zs R nb mk fk fn fh fe ff fl fz flk fnx fb fq) (hgi : gi < us.length) (hcs : (vAt us gi).2.2.2.1 = []) (hR : R.length < 6000) (hff : ∀ i, ff' i = if i = gi then (match lkF R gi with | some k => oI (some k) | none => nI R.length) else ff i) (h1 : ∀ k, k < R.length → flk' k = flk k) (h2 : flk' R.length = nI v) (h3 : ∀ k, k < R.length + 1 → fnx' k = oI (lkN ((gi, v) :: R) k)) : TBR us zs ((gi, v) :: R) nb mk fk fn fh fe ff' (upd fl gi (nI R.length)) fz flk' fnx' fb fq := by
  obtain ⟨a1, a2, a4, a5, a6, a7, a8, a9⟩ := h
  refine ⟨fun i u hu => ?_, fun k hk => ⟨?_, h3 k hk⟩, a4, a5, a6.push hgi, a7, hR, a9⟩
  · have hiu : vAt us i = u := by rw [vAt, List.getD_eq_getElem?_getD, hu]; rfl
    obtain ⟨b1, b7, b8⟩ := a1 i u hu
    refine ⟨b1, fun hg => ?_, ?_⟩
    · have b9 := b7 hg
      refine ⟨?_, ?_⟩
      · rw [hff, lkF]
        by_cases e : i = gi
        · rw [if_pos e, e]
          rcases lkF R gi with _ | k
          · show nI R.length = oI (if gi = gi then some R.length else none)
            rw [if_pos rfl]
            rfl
          · rfl
        · rw [if_neg e, b9.1]
          rcases lkF R i with _ | k
          · show oI none = oI (if gi = i then some R.length else none)
            rw [if_neg (Ne.symm e)]
          · rfl
      · rw [lkL]
        by_cases e : i = gi
        · rw [e, pk_us, if_pos rfl]
          rfl
        · rw [pk_un e, if_neg (Ne.symm e)]
          exact b9.2
    · by_cases e : i = gi
      · subst e
        rw [hiu] at hcs
        exact Or.inl hcs
      · rw [hff, if_neg e]
        exact b8
  · rw [lkV]
    by_cases e : k = R.length
    · rw [if_pos e, e]
      exact h2
    · rw [if_neg e, h1 k (by have : k < R.length + 1 := hk; omega)]
      exact (a2 k (by have : k < R.length + 1 := hk; omega)).1
set_option maxHeartbeats 8000000 in
theorem c_m_link {g : GT} (hG : GLB g) (d m : Nat) (r : Nat → Nat) {th ts os vc bc pkd pkg cm fu op fc fp at_ bgc got : Int32} {pr : Int64} (gi v : Nat) (us : List VT) (zs : List Nat) (R : LK) (nb : Nat) (mk : Nat → Nat) (hgi : gi < us.length) (hg : (vAt us gi).1 = 7 ∨ (vAt us gi).1 = 8) (hcs : (vAt us gi).2.2.2.1 = []) (hR : R.length < 6000) : CtrV g mX8_link 7 d 0 0 m [.int (nI gi), .int (nI v)] [MF m r th ts os vc (nI R.length) bc pkd pkg cm fu op fc fp at_ bgc got pr, TB g r us zs R nb mk] (fun o dc ds ws' => o = none ∧ dc = 0 ∧ ds = 0 ∧ ws' = [MF m r th ts os vc (nI (R.length + 1)) bc pkd pkg cm fu op fc fp at_ bgc got pr, TB g r us zs ((gi, v) :: R) nb mk]) noX := by
  refine ⟨rcv_pt, ?_⟩
  refine ctr_intro hG (by decide +kernel) (Nat.le_of_ble_eq_true rfl) ?_
  rintro X F rfl E B hI T
  replace E : JE X RX8 cX8_link 4 d 0 0 := E
  show J X _ [MF m r th ts os vc (nI R.length) bc pkd pkg cm fu op fc fp at_ bgc got pr, TB X.1 r us zs R nb mk, F] 0 0 0 [some (.ref m), some (.int (nI gi)), some (.int (nI v)), none] []
  refine j_know (pick_know (P := TB X.1 r us zs R nb mk) (by repeat (first | with_reducible exact pick_0 | with_reducible apply pick_s)) tb_know) (fun hk9 => ?_)
  refine j_aload_n E 1 dX8_link_0 0 rfl rfl rfl ?_
  refine j_getf E 4 dX8_link_1 fl_X8_117 (by repeat (first | with_reducible exact pick_0 | with_reducible apply pick_s)) (by rfl) rfl ?_
  refine j_istore_n E 5 dX8_link_4 3 rfl (Nat.le_of_ble_eq_true rfl) rfl rfl ?_
  dsimp only [List.set]
  refine j_aload_n E 6 dX8_link_5 0 rfl rfl rfl ?_
  refine j_dup E 7 dX8_link_6 rfl rfl ?_
  refine j_getf E 10 dX8_link_7 fl_X8_117 (by repeat (first | with_reducible exact pick_0 | with_reducible apply pick_s)) (by rfl) rfl ?_
  refine j_iconst E (1) 11 dX8_link_10 (by decide) rfl ?_
  refine j_iadd E 12 dX8_link_11 rfl ?_
  refine j_eqi (nI_1 R.length) ?_
  refine j_putf E 15 dX8_link_12 fl_X8_117 (by repeat (first | with_reducible exact pick_0 | with_reducible apply pick_s)) rfl rfl (Nat.le_of_ble_eq_true rfl) rfl ?_
  dsimp only [List.set]
  refine tb_open (by repeat (first | with_reducible exact pick_0 | with_reducible apply pick_s)) ?_
  intro fk fn fh fe ff fl fz flk fnx fb fq h
  dsimp only [List.cons_append, List.nil_append]
  have hgg := (h.at hgi).2.1 hg
  refine j_aload_n E 16 dX8_link_15 0 rfl rfl rfl ?_
  refine j_getf E 19 dX8_link_16 fl_X8_41 (by repeat (first | with_reducible exact pick_0 | with_reducible apply pick_s)) (by rfl) rfl ?_
  refine j_iload_n E 20 dX8_link_19 3 rfl rfl rfl ?_
  refine j_iload_n E 21 dX8_link_20 2 rfl rfl rfl ?_
  refine j_iast E 22 dX8_link_21 (by repeat (first | with_reducible exact pick_0 | with_reducible apply pick_s)) (vp_in_nI (by omega) (by omega)) rfl ?_
  refine j_aload_n E 23 dX8_link_22 0 rfl rfl rfl ?_
  refine j_getf E 26 dX8_link_23 fl_X8_44 (by repeat (first | with_reducible exact pick_0 | with_reducible apply pick_s)) (by rfl) rfl ?_
  refine j_iload_n E 27 dX8_link_26 3 rfl rfl rfl ?_
  refine j_iconst E (-1) 28 dX8_link_27 (by decide) rfl ?_
  refine j_iast E 29 dX8_link_28 (by repeat (first | with_reducible exact pick_0 | with_reducible apply pick_s)) (vp_in_nI (by omega) (by omega)) rfl ?_
  refine j_aload_n E 30 dX8_link_29 0 rfl rfl rfl ?_
  refine j_getf E 33 dX8_link_30 fl_X8_32 (by repeat (first | with_reducible exact pick_0 | with_reducible apply pick_s)) (by rfl) rfl ?_
  refine j_iload_n E 34 dX8_link_33 1 rfl rfl rfl ?_
  refine j_iald E 35 dX8_link_34 (by repeat (first | with_reducible exact pick_0 | with_reducible apply pick_s)) (vp_in_nI (by omega) (by omega)) rfl ?_
  rw [nI_clamp (by omega), nI_clamp (by omega)]
  refine j_eqi hgg.1 ?_
  have hnx : ∀ k, k < R.length → fnx k = oI (lkN R k) := fun k hk => (h.2.1 k hk).2
  rcases hF : lkF R gi with _ | k0
  · have hL := lkF_none.mp hF
    refine j_if_ge E 48 38 dX8_link_35 (by decide) rfl (fun h35 => ?_) (fun h35 => ?_)
    · exact absurd h35 (by decide)
    · refine j_aload_n E 39 dX8_link_38 0 rfl rfl rfl ?_
      refine j_getf E 42 dX8_link_39 fl_X8_32 (by repeat (first | with_reducible exact pick_0 | with_reducible apply pick_s)) (by rfl) rfl ?_
      refine j_iload_n E 43 dX8_link_42 1 rfl rfl rfl ?_
      refine j_iload_n E 44 dX8_link_43 3 rfl rfl rfl ?_
      refine j_iast E 45 dX8_link_44 (by repeat (first | with_reducible exact pick_0 | with_reducible apply pick_s)) (vp_in_nI (by omega) (by omega)) rfl ?_
      rw [nI_clamp (by omega)]
      refine j_goto E 60 dX8_link_45 (by decide) ?_
      refine j_aload_n E 61 dX8_link_60 0 rfl rfl rfl ?_
      refine j_getf E 64 dX8_link_61 fl_X8_35 (by repeat (first | with_reducible exact pick_0 | with_reducible apply pick_s)) (by rfl) rfl ?_
      refine j_iload_n E 65 dX8_link_64 1 rfl rfl rfl ?_
      refine j_iload_n E 66 dX8_link_65 3 rfl rfl rfl ?_
      refine j_iast E 67 dX8_link_66 (by repeat (first | with_reducible exact pick_0 | with_reducible apply pick_s)) (vp_in_nI (by omega) (by omega)) rfl ?_
      rw [nI_clamp (by omega)]
      refine tb_close us zs ((gi, v) :: R) nb mk (by repeat (first | with_reducible exact pick_0 | with_reducible apply pick_s | exact sel_0 | apply sel_s)) (tbv_link h hgi hcs hR (fun i => ?_) (fun k hk => pk_un (by omega)) pk_us (fun k hk => ?_)) ?_
      · rw [hF]
        by_cases e : i = gi
        · rw [e, pk_us, if_pos rfl]
        · rw [pk_un e, if_neg e]
      · rw [lkN, hL, if_neg (fun q => by cases q)]
        by_cases e : k = R.length
        · rw [e, pk_us, lkN_out (Nat.le_refl _)]
          rfl
        · rw [pk_un e]
          exact hnx k (by omega)
      · exact j_vret E B rfl 0 0 dX8_link_67 (by repeat (first | with_reducible exact pick_0 | with_reducible apply pick_s | exact sel_0 | apply sel_s)) ⟨rfl, rfl, rfl, rfl⟩ (by omega) (by omega) (by omega) (by omega)
  · obtain ⟨l, hL⟩ : ∃ l, lkL R gi = some l := by
      rcases q : lkL R gi with _ | l
      · rw [lkF_none.mpr q] at hF
        cases hF
      · exact ⟨l, rfl⟩
    have hll := (lkL_lt hL).1
    have hkf : k0 < R.length := by
      have := chn_all R gi
      rw [hF] at this
      rcases hp : lkP R gi with _ | ⟨p, ps⟩
      · rw [hp] at this
        exact this.elim
      · rw [hp] at this
        exact this.1
    refine j_if_ge E 48 38 dX8_link_35 (by decide) rfl (fun h35 => ?_) (fun h35 => ?_)
    · refine j_aload_n E 49 dX8_link_48 0 rfl rfl rfl ?_
      refine j_getf E 52 dX8_link_49 fl_X8_44 (by repeat (first | with_reducible exact pick_0 | with_reducible apply pick_s)) (by rfl) rfl ?_
      refine j_aload_n E 53 dX8_link_52 0 rfl rfl rfl ?_
      refine j_getf E 56 dX8_link_53 fl_X8_35 (by repeat (first | with_reducible exact pick_0 | with_reducible apply pick_s)) (by rfl) rfl ?_
      refine j_iload_n E 57 dX8_link_56 1 rfl rfl rfl ?_
      refine j_iald E 58 dX8_link_57 (by repeat (first | with_reducible exact pick_0 | with_reducible apply pick_s)) (vp_in_nI (by omega) (by omega)) rfl ?_
      rw [nI_clamp (by omega)]
      refine j_eqi (y := nI l) (by rw [hgg.2, hL]; rfl) ?_
      refine j_iload_n E 59 dX8_link_58 3 rfl rfl rfl ?_
      refine j_iast E 60 dX8_link_59 (by repeat (first | with_reducible exact pick_0 | with_reducible apply pick_s)) (vp_in_nI (by omega) (by omega)) rfl ?_
      rw [nI_clamp (by omega)]
      refine j_aload_n E 61 dX8_link_60 0 rfl rfl rfl ?_
      refine j_getf E 64 dX8_link_61 fl_X8_35 (by repeat (first | with_reducible exact pick_0 | with_reducible apply pick_s)) (by rfl) rfl ?_
      refine j_iload_n E 65 dX8_link_64 1 rfl rfl rfl ?_
      refine j_iload_n E 66 dX8_link_65 3 rfl rfl rfl ?_
      refine j_iast E 67 dX8_link_66 (by repeat (first | with_reducible exact pick_0 | with_reducible apply pick_s)) (vp_in_nI (by omega) (by omega)) rfl ?_
      rw [nI_clamp (by omega)]
      refine tb_close us zs ((gi, v) :: R) nb mk (by repeat (first | with_reducible exact pick_0 | with_reducible apply pick_s | exact sel_0 | apply sel_s)) (tbv_link h hgi hcs hR (fun i => ?_) (fun k hk => pk_un (by omega)) pk_us (fun k hk => ?_)) ?_
      · rw [hF]
        by_cases e : i = gi
        · rw [e, if_pos rfl]
          exact hgg.1.trans (congrArg oI hF)
        · rw [if_neg e]
      · rw [lkN, hL]
        by_cases e : k = l
        · rw [e, pk_us, if_pos rfl]
          rfl
        · rw [pk_un e, if_neg (fun q => by cases q; exact e rfl)]
          by_cases e2 : k = R.length
          · rw [e2, pk_us, lkN_out (Nat.le_refl _)]
            rfl
          · rw [pk_un e2]
            exact hnx k (by omega)
      · exact j_vret E B rfl 0 0 dX8_link_67 (by repeat (first | with_reducible exact pick_0 | with_reducible apply pick_s | exact sel_0 | apply sel_s)) ⟨rfl, rfl, rfl, rfl⟩ (by omega) (by omega) (by omega) (by omega)
    · exact absurd (show (0 : Int32) ≤ nI k0 from nI_pos' (by omega)) h35
set_option maxHeartbeats 4000000 in
theorem c_m_isValue {g : GT} (hG : GLB g) (d m : Nat) (r : Nat → Nat) {th ts os lc bc pkd pkg cm fu op fc fp at_ bgc got : Int32} {pr : Int64} (x : Int32) (n : Nat) (hn : n ≤ 3000) : CtrV g mX8_isValue 7 d 0 0 m [.int x] [MF m r th ts os (nI n) lc bc pkd pkg cm fu op fc fp at_ bgc got pr] (fun o dc ds ws' => o = some (.int (bI (inB x n))) ∧ dc = 0 ∧ ds = 0 ∧ ws' = [MF m r th ts os (nI n) lc bc pkd pkg cm fu op fc fp at_ bgc got pr]) noX := by
  refine ⟨rcv_pt, ?_⟩
  refine ctr_intro hG (by decide +kernel) (Nat.le_of_ble_eq_true rfl) ?_
  rintro X F rfl E B hI T
  replace E : JE X RX8 cX8_isValue 2 d 0 0 := E
  show J X _ [MF m r th ts os (nI n) lc bc pkd pkg cm fu op fc fp at_ bgc got pr, F] 0 0 0 [some (.ref m), some (.int x)] []
  refine j_iload_n E 1 dX8_isValue_0 1 rfl rfl rfl ?_
  refine j_if_lt E 16 4 dX8_isValue_1 (by decide) rfl (fun h1 => ?_) (fun h1 => ?_)
  · rw [show inB x n = false by rw [inB, decide_eq_false (fun y => y h1), Bool.false_and]] at B
    refine j_iconst E (0) 17 dX8_isValue_16 (by decide) rfl ?_
    exact j_zret E B rfl (by first | exact Or.inl rfl | exact Or.inr rfl) 0 0 dX8_isValue_17 (by repeat (first | with_reducible exact pick_0 | with_reducible apply pick_s | exact sel_0 | apply sel_s)) ⟨rfl, rfl, rfl, rfl⟩ (by omega) (by omega) (by omega) (by omega)
  · refine j_iload_n E 5 dX8_isValue_4 1 rfl rfl rfl ?_
    refine j_aload_n E 6 dX8_isValue_5 0 rfl rfl rfl ?_
    refine j_getf E 9 dX8_isValue_6 fl_X8_107 (by repeat (first | with_reducible exact pick_0 | with_reducible apply pick_s)) (by rfl) rfl ?_
    refine j_icmp_ge E 16 12 dX8_isValue_9 (by decide) rfl (fun h9 => ?_) (fun h9 => ?_)
    · rw [show inB x n = false by
        rw [inB, decide_eq_false (p := x < nI n) (fun y => absurd h9 (Int32.not_le.mpr y)), Bool.and_false]] at B
      refine j_iconst E (0) 17 dX8_isValue_16 (by decide) rfl ?_
      exact j_zret E B rfl (by first | exact Or.inl rfl | exact Or.inr rfl) 0 0 dX8_isValue_17 (by repeat (first | with_reducible exact pick_0 | with_reducible apply pick_s | exact sel_0 | apply sel_s)) ⟨rfl, rfl, rfl, rfl⟩ (by omega) (by omega) (by omega) (by omega)
    · rw [show inB x n = true by
        rw [inB, decide_eq_true h1, decide_eq_true (Int32.not_le.mp h9)]
        rfl] at B
      refine j_iconst E (1) 13 dX8_isValue_12 (by decide) rfl ?_
      refine j_goto E 17 dX8_isValue_13 (by decide) ?_
      exact j_zret E B rfl (by first | exact Or.inl rfl | exact Or.inr rfl) 0 0 dX8_isValue_17 (by repeat (first | with_reducible exact pick_0 | with_reducible apply pick_s | exact sel_0 | apply sel_s)) ⟨rfl, rfl, rfl, rfl⟩ (by omega) (by omega) (by omega) (by omega)
theorem c_m_fail {g : GT} (hG : GLB g) (d m : Nat) (r : Nat → Nat) {th ts os vc lc bc pkd pkg cm fu op fc fp at_ bgc got : Int32} {pr : Int64} (c p : Int32) : CtrV g mX8_fail 7 d 0 0 m [.int c, .int p] [MF m r th ts os vc lc bc pkd pkg cm fu op fc fp at_ bgc got pr] (fun o dc ds ws' => o = some (.int 0) ∧ dc = 0 ∧ ds = 0 ∧ ws' = [MF m r th ts os vc lc bc pkd pkg cm fu op c p at_ bgc got pr]) noX := by
  refine ⟨rcv_pt, ?_⟩
  refine ctr_intro hG (by decide +kernel) (Nat.le_of_ble_eq_true rfl) ?_
  rintro X F rfl E B hI T
  replace E : JE X RX8 cX8_fail 3 d 0 0 := E
  show J X _ [MF m r th ts os vc lc bc pkd pkg cm fu op fc fp at_ bgc got pr, F] 0 0 0 [some (.ref m), some (.int c), some (.int p)] []
  refine j_aload_n E 1 dX8_fail_0 0 rfl rfl rfl ?_
  refine j_iload_n E 2 dX8_fail_1 1 rfl rfl rfl ?_
  refine j_putf E 5 dX8_fail_2 fl_X8_138 (by repeat (first | with_reducible exact pick_0 | with_reducible apply pick_s)) rfl rfl (Nat.le_of_ble_eq_true rfl) rfl ?_
  dsimp only [List.set]
  refine j_aload_n E 6 dX8_fail_5 0 rfl rfl rfl ?_
  refine j_iload_n E 7 dX8_fail_6 2 rfl rfl rfl ?_
  refine j_putf E 10 dX8_fail_7 fl_X8_141 (by repeat (first | with_reducible exact pick_0 | with_reducible apply pick_s)) rfl rfl (Nat.le_of_ble_eq_true rfl) rfl ?_
  dsimp only [List.set]
  refine j_iconst E (0) 11 dX8_fail_10 (by decide) rfl ?_
  exact j_zret E B rfl (by first | exact Or.inl rfl | exact Or.inr rfl) 0 0 dX8_fail_11 (by repeat (first | with_reducible exact pick_0 | with_reducible apply pick_s | exact sel_0 | apply sel_s)) ⟨rfl, rfl, rfl, rfl⟩ (by omega) (by omega) (by omega) (by omega)

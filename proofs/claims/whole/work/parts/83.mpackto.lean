/-! the model: packTo -/
/-- the tables are those of whole values -/
def GOOD (us : List VT) (zs : List Nat) (R : LK) : Prop := ∀ i, i < us.length → zs.getD i 0 = vlen (vAt us i) ∧ VTok us.length 6000 (vAt us i) ∧ ((vAt us i).1 = 7 ∨ (vAt us i).1 = 8 → lkP R i = (vAt us i).2.2.2.2)
theorem vT_leaf {v : VT} {i : Nat} {F : Option Nat} {st : Option (List UInt8)} {come : List Nat} {s : PIL} (h : ¬ (v.1 = 7 ∨ v.1 = 8)) : vT v i F st come s = some (wr 65536 st (leafE v), come, s) := if_neg h
theorem oL_i (o : Option Nat) : (oL o).toInt32 = oI o := Int32.toInt32_toInt64 _
theorem od_weak {g : GT} {r : Nat → Nat} {come : List Nat} : ∀ w, sepL [OD g r come] w → OD g r [] w := by
  rintro w ⟨w1, w2, hp, ⟨f, -, h⟩, h2⟩
  have h3 : w2 = [] := h2
  subst h3
  rw [List.append_nil] at hp
  exact ⟨f, fun j hj => absurd hj List.not_mem_nil, sepL_perm hp h⟩
theorem pl_weak {g : GT} {r : Nat → Nat} {s : PIL} : ∀ w, sepL [PL g r s] w → PL g r [] w := by
  rintro w ⟨w1, w2, hp, ⟨x, -, h⟩, h2⟩
  have h3 : w2 = [] := h2
  subst h3
  rw [List.append_nil] at hp
  exact ⟨x, ⟨Nat.zero_le _, fun j e he => by cases he⟩, sepL_perm hp h⟩
theorem un_ref {us : List VT} {f x : Nat} {st : Option (List UInt8)} {come : List Nat} (h : x ∈ come) : pkV us 65536 f x (st, come) = (wr 65536 st (refE (come.idxOf x)), come) := by
  rcases f with _ | f
  · show pkOne none us 65536 x (st, come) = _
    simp [pkOne, h]
  · show pkOne (some (pkV us 65536 f)) us 65536 x (st, come) = _
    simp [pkOne, h]
theorem un_leaf {us : List VT} {f x : Nat} {st : Option (List UInt8)} {come : List Nat} (h : ¬ x ∈ come) (hg : ¬ ((vAt us x).1 = 7 ∨ (vAt us x).1 = 8)) : pkV us 65536 f x (st, come) = (wr 65536 st (leafE (vAt us x)), come) := by
  rcases f with _ | f
  · show pkOne none us 65536 x (st, come) = _
    simp only [pkOne, if_neg h, if_neg hg]
  · show pkOne (some (pkV us 65536 f)) us 65536 x (st, come) = _
    simp only [pkOne, if_neg h, if_neg hg]
theorem un_deep {us : List VT} {x : Nat} {st : Option (List UInt8)} {come : List Nat} (h : ¬ x ∈ come) (hg : (vAt us x).1 = 7 ∨ (vAt us x).1 = 8) : pkV us 65536 0 x (st, come) = (none, come) := by
  show pkOne none us 65536 x (st, come) = _
  simp only [pkOne, if_neg h, if_pos hg]
theorem un_grp {us : List VT} {f x : Nat} {st : Option (List UInt8)} {come : List Nat} (h : ¬ x ∈ come) (hg : (vAt us x).1 = 7 ∨ (vAt us x).1 = 8) : pkV us 65536 (f + 1) x (st, come) = pkMany (pkV us 65536 f) (vAt us x).2.2.2.2 (wr 65536 st (grpE (vAt us x)), come ++ [x]) := by
  show pkOne (some (pkV us 65536 f)) us 65536 x (st, come) = _
  simp only [pkOne, if_neg h, if_pos hg]
/-- what was come to are groups -/
def COg (us : List VT) (come : List Nat) : Prop := COk us.length come ∧ ∀ j ∈ come, (vAt us j).1 = 7 ∨ (vAt us j).1 = 8
theorem COg.ok {us : List VT} {come : List Nat} (h : COg us come) : COk us.length come := h.1
theorem COg.push {us : List VT} {come : List Nat} {j : Nat} (h : COg us come) (hj : j < us.length) (hc : ¬ j ∈ come) (hg : (vAt us j).1 = 7 ∨ (vAt us j).1 = 8) : COg us (come ++ [j]) := by
  refine ⟨h.1.push hj hc, fun x hx => ?_⟩
  rcases List.mem_append.mp hx with q | q
  · exact h.2 x q
  · rw [List.mem_singleton.mp q]
    exact hg
theorem COg.nil (us : List VT) : COg us [] := ⟨⟨List.nodup_nil, fun x hx => absurd hx List.not_mem_nil⟩, fun x hx => absurd hx List.not_mem_nil⟩
theorem vtQ_0 {g : GT} {m : Nat} {r : Nat → Nat} {th ts os vc lc bc fc fp at_ bgc got : Int32} {pr : Int64} {pg a : Nat} {us : List VT} {zs : List Nat} {R : LK} {nb : Nat} {T : Option (Option (List UInt8) × List Nat × PIL)} {o : Option Value} {dc ds : Nat} {ws' : List Asn} (h : vtQ g m r th ts os vc lc bc fc fp at_ bgc got pr pg a us zs R nb T o dc ds ws') : dc = 0 ∧ ds = 0 := by
  rcases T with _ | x
  · exact ⟨h.2.1, h.2.2.1⟩
  · exact ⟨h.2.1, h.2.2.1⟩
set_option maxHeartbeats 16000000 in
theorem c_m_pack {g : GT} (hG : GLB g) (d m : Nat) (r : Nat → Nat) {th ts os vc lc bc pkd cm fu op fc fp at_ bgc got : Int32} {pr : Int64} (pg0 pg a i0 : Nat) (us : List VT) (zs : List Nat) (R : LK) (nb : Nat) (mk0 : Nat → Nat) (hd : 14 ≤ d) (hi0 : i0 < us.length) (hgood : GOOD us zs R) (hmk0 : ∀ j, j < us.length → mk0 j ≤ pg0) (hpg : pg = pg0 + 1) (hpl : pg < 2 ^ 30) : CtrV g mX8_packTo 7 d 0 0 m [.ref a, .int (nI i0)] [MF m r th ts os vc lc bc pkd (nI pg0) cm fu op fc fp at_ bgc got pr, BF g a (some []), TB g r us zs R nb mk0, OD g r [], PL g r []] (fun o dc ds ws' => o = some (.int (soI (packU us 65536 i0))) ∧ dc = 0 ∧ ds = 0 ∧ ∃ (st : Option (List UInt8)) (cm op : Int32) (come : List Nat) (s : PIL) (mk : Nat → Nat), (∀ p, packU us 65536 i0 = some p → st = some p) ∧ (∀ j, j < us.length → mk j ≤ pg) ∧ ws' = [MF m r th ts os vc lc bc (pkP (st)) (nI pg) cm (fuP (st)) op fc fp at_ bgc got pr, BF g a st, TB g r us zs R nb mk, OD g r come, PL g r s]) noX := by
  refine ⟨rcv_pt, ?_⟩
  refine ctr_intro hG (by decide +kernel) (Nat.le_of_ble_eq_true rfl) ?_
  rintro X F rfl E B hI T
  replace E : JE X RX8 cX8_packTo 5 d 0 0 := E
  show J X _ [MF m r th ts os vc lc bc pkd (nI pg0) cm fu op fc fp at_ bgc got pr, BF X.1 a (some []), TB X.1 r us zs R nb mk0, OD X.1 r [], PL X.1 r [], F] 0 0 0 [some (.ref m), some (.ref a), some (.int (nI i0)), none, none] []
  refine j_know (pick_know (P := TB X.1 r us zs R nb mk0) (by repeat (first | with_reducible exact pick_0 | with_reducible apply pick_s)) tb_know) (fun hk9 => ?_)
  have hpar : ∀ i, ∀ p ∈ (vAt us i).2.2.2.2, p < us.length := by
    intro i p hp
    by_cases hi : i < us.length
    · exact (hgood i hi).2.1.2.2.2.1 p hp
    · rw [vAt_big (by omega)] at hp
      exact absurd hp List.not_mem_nil
  obtain ⟨res, hres⟩ : ∃ res, res = packU us 65536 i0 := ⟨_, rfl⟩
  rw [← hres] at B
  have bad : res = none → ∀ (st : Option (List UInt8)) (cm op : Int32) (come : List Nat) (s : PIL) (mk : Nat → Nat) (l4 : Option Value), (∀ j, j < us.length → mk j ≤ pg) → J X 5 [MF m r th ts os vc lc bc (pkP (st)) (nI pg) cm (fuP (st)) op fc fp at_ bgc got pr, BF X.1 a st, TB X.1 r us zs R nb mk, OD X.1 r come, PL X.1 r s, F] 0 0 37 [some (.ref m), some (.ref a), some (.int (nI i0)), some (.int 0), l4] [] := by
    intro hn st cm op come s mk l4 hmk
    rw [hn] at B
    refine j_iload_n E 38 dX8_packTo_37 3 rfl rfl rfl ?_
    refine j_if_eq E 115 41 dX8_packTo_38 (by decide) rfl (fun h38 => ?_) (fun h38 => ?_)
    · refine j_iload_n E 116 dX8_packTo_115 3 rfl rfl rfl ?_
      exact j_zret E B rfl (by first | exact Or.inl rfl | exact Or.inr rfl) 0 0 dX8_packTo_116 (by repeat (first | with_reducible exact pick_0 | with_reducible apply pick_s | exact sel_0 | apply sel_s)) ⟨rfl, rfl, rfl, st, cm, op, come, s, mk, (fun p e => by cases e), hmk, rfl⟩ (by omega) (by omega) (by omega) (by omega)
    · exact absurd rfl h38
  have good : ∀ (p : List UInt8) (come : List Nat) (mk : Nat → Nat) (l4 : Option Value), res = some p → (∀ j, j < us.length → mk j ≤ pg) → J X 5 [MF m r th ts os vc lc bc (pkP (some p)) (nI pg) ((nI come.length)) (fuP (some p)) ((nI ([] : PIL).length)) fc fp at_ bgc got pr, BF X.1 a (some p), TB X.1 r us zs R nb mk, OD X.1 r come, PL X.1 r ([] : PIL), F] 0 0 37 [some (.ref m), some (.ref a), some (.int (nI i0)), some (.int 1), l4] [] := by
    intro p come mk l4 hn hmk
    rw [hn] at B
    refine j_iload_n E 38 dX8_packTo_37 3 rfl rfl rfl ?_
    refine j_if_eq E 115 41 dX8_packTo_38 (by decide) rfl (fun h38 => ?_) (fun h38 => ?_)
    · exact absurd h38 (by decide)
    · refine j_aload_n E 42 dX8_packTo_41 0 rfl rfl rfl ?_
      refine j_getf E 45 dX8_packTo_42 fl_X8_186 (by repeat (first | with_reducible exact pick_0 | with_reducible apply pick_s)) (by rfl) rfl ?_
      refine j_if_le E 115 48 dX8_packTo_45 (by decide) rfl (fun h45 => ?_) (fun h45 => ?_)
      · refine j_iload_n E 116 dX8_packTo_115 3 rfl rfl rfl ?_
        exact j_zret E B rfl (by first | exact Or.inl rfl | exact Or.inr rfl) 0 0 dX8_packTo_116 (by repeat (first | with_reducible exact pick_0 | with_reducible apply pick_s | exact sel_0 | apply sel_s)) ⟨rfl, rfl, rfl, some p, _, _, come, [], mk, fun q e => e, hmk, rfl⟩ (by omega) (by omega) (by omega) (by omega)
      · exact absurd (by decide) h45
  have vs : ∀ f : Nat, (∀ f1, f = f1 + 1 → (∀ (ps : List Nat) (s0 : PIL) (gi : Nat) (oo : Option Nat) (p : List UInt8) (come : List Nat) (mk : Nat → Nat) (l4 : Option Value), s0.length + 1 + f1 = 24 → Chn R gi oo ps → (∀ y ∈ ps, y < us.length) → MKc us.length pg mk come → COg us come → (∀ (p' : List UInt8) (come' : List Nat) (mk' : Nat → Nat) (l4 : Option Value), pkMany (pkV us 65536 f1) ps (some p, come) = (some p', come') → MKc us.length pg mk' come' → COg us come' → J X 5 [MF m r th ts os vc lc bc (pkP (some p')) (nI pg) ((nI come'.length)) (fuP (some p')) ((nI s0.length)) fc fp at_ bgc got pr, BF X.1 a (some p'), TB X.1 r us zs R nb mk', OD X.1 r come', PL X.1 r s0, F] 0 0 37 [some (.ref m), some (.ref a), some (.int (nI i0)), some (.int 1), l4] []) → ((pkMany (pkV us 65536 f1) ps (some p, come)).1 = none → res = none) → J X 5 [MF m r th ts os vc lc bc (pkP (some p)) (nI pg) ((nI come.length)) (fuP (some p)) ((nI (s0 ++ [(gi, oL oo)]).length)) fc fp at_ bgc got pr, BF X.1 a (some p), TB X.1 r us zs R nb mk, OD X.1 r come, PL X.1 r (s0 ++ [(gi, oL oo)]), F] 0 0 37 [some (.ref m), some (.ref a), some (.int (nI i0)), some (.int 1), l4] [])) → (∀ (s : PIL) (x : Nat) (q : List UInt8) (come : List Nat) (mk : Nat → Nat), s.length + f = 24 → x < us.length → MKc us.length pg mk come → COg us come → (∀ (p' : List UInt8) (come' : List Nat) (mk' : Nat → Nat) (l4 : Option Value), pkV us 65536 f x (some q, come) = (some p', come') → MKc us.length pg mk' come' → COg us come' → J X 5 [MF m r th ts os vc lc bc (pkP (some p')) (nI pg) ((nI come'.length)) (fuP (some p')) ((nI s.length)) fc fp at_ bgc got pr, BF X.1 a (some p'), TB X.1 r us zs R nb mk', OD X.1 r come', PL X.1 r s, F] 0 0 37 [some (.ref m), some (.ref a), some (.int (nI i0)), some (.int 1), l4] []) → ((pkV us 65536 f x (some q, come)).1 = none → res = none) → ∀ (o : Option Value) (dc ds : Nat) (ws' : List Asn), vtQ X.1 m r th ts os vc lc bc fc fp at_ bgc got pr pg a us zs R nb (vT (vAt us x) x (lkF R x) (some q) come s) o dc ds ws' → ∃ v : Int32, o = some (.int v) ∧ ∀ l4 : Option Value, J X 5 (ws' ++ [F]) 0 0 37 [some (.ref m), some (.ref a), some (.int (nI i0)), some (.int v), l4] []) := by
    intro f hrec s x q come mk hsf hx hmk hco kok kbad o dc ds ws' hq
    have hgx := hgood x hx
    have hle : ∀ come' mk', MKc us.length pg mk' come' → ∀ j, j < us.length → mk' j ≤ pg := fun come' mk' h j hj => (h j hj).2
    have flat : ∀ (e : List UInt8), vT (vAt us x) x (lkF R x) (some q) come s = some (wr 65536 (some q) e, come, s) → pkV us 65536 f x (some q, come) = (wr 65536 (some q) e, come) → ∃ v : Int32, o = some (.int v) ∧ ∀ l4 : Option Value, J X 5 (ws' ++ [F]) 0 0 37 [some (.ref m), some (.ref a), some (.int (nI i0)), some (.int v), l4] [] := by
      intro e e1 e2
      rw [e1] at hq
      rw [e2] at kok kbad
      rcases hw : wr 65536 (some q) e with _ | p1
      · rw [hw] at hq kbad
        obtain ⟨rfl, rfl, rfl, mk1, hm1, rfl⟩ := hq
        exact ⟨0, rfl, fun l4 => bad (kbad rfl) none _ _ come s mk1 l4 (hle _ _ hm1)⟩
      · rw [hw] at hq kok
        obtain ⟨rfl, rfl, rfl, mk1, hm1, rfl⟩ := hq
        exact ⟨1, rfl, fun l4 => kok p1 come mk1 l4 rfl hm1 hco⟩
    by_cases hg : (vAt us x).1 = 7 ∨ (vAt us x).1 = 8
    · by_cases hc : x ∈ come
      · refine flat (refE (come.idxOf x)) (by rw [vT, if_pos hg, if_pos hc]) ?_
        exact un_ref hc
      · by_cases h24 : s.length = 24
        · have e1 : vT (vAt us x) x (lkF R x) (some q) come s = none := by rw [vT, if_pos hg, if_neg hc, if_pos h24]
          have f0 : f = 0 := by omega
          subst f0
          have e2 : pkV us 65536 0 x (some q, come) = (none, come) := by
            exact un_deep hc hg
          rw [e1] at hq
          rw [e2] at kbad
          obtain ⟨rfl, rfl, rfl, st1, cm1, op1, come1, s1, mk1, hm1, rfl⟩ := hq
          exact ⟨0, rfl, fun l4 => bad (kbad rfl) st1 cm1 op1 come1 s1 mk1 l4 hm1⟩
        · obtain ⟨f1, rfl⟩ : ∃ f1, f = f1 + 1 := ⟨f - 1, by have := hsf; omega⟩
          have e1 : vT (vAt us x) x (lkF R x) (some q) come s = some (wr 65536 (some q) (grpE (vAt us x)), come ++ [x], s ++ [(x, oL (lkF R x))]) := by rw [vT, if_pos hg, if_neg hc, if_neg h24]
          have e2 : pkV us 65536 (f1 + 1) x (some q, come) = pkMany (pkV us 65536 f1) (vAt us x).2.2.2.2 (wr 65536 (some q) (grpE (vAt us x)), come ++ [x]) := by
            exact un_grp hc hg
          rw [e1] at hq
          rw [e2] at kok kbad
          rcases hw : wr 65536 (some q) (grpE (vAt us x)) with _ | p1
          · rw [hw] at hq kbad
            obtain ⟨rfl, rfl, rfl, mk1, hm1, rfl⟩ := hq
            exact ⟨0, rfl, fun l4 => bad (kbad (pkMany_n rfl _)) none _ _ _ _ mk1 l4 (hle _ _ hm1)⟩
          · rw [hw] at hq kok kbad
            obtain ⟨rfl, rfl, rfl, mk1, hm1, rfl⟩ := hq
            refine ⟨1, rfl, fun l4 => ?_⟩
            have hch := chn_all R x
            rw [hgx.2.2 hg] at hch
            exact hrec f1 rfl (vAt us x).2.2.2.2 s x (lkF R x) p1 (come ++ [x]) mk1 l4 (by omega) hch (hpar x) hm1 (hco.push hx hc hg) kok kbad
    · refine flat (leafE (vAt us x)) (vT_leaf hg) ?_
      have hnc : ¬ x ∈ come := fun h => by
        exact hg (hco.2 x h)
      exact un_leaf hnc hg
  have pk : ∀ f : Nat, (∀ (s : PIL) (x : Nat) (q : List UInt8) (come : List Nat) (mk : Nat → Nat), s.length + f = 24 → x < us.length → MKc us.length pg mk come → COg us come → (∀ (p' : List UInt8) (come' : List Nat) (mk' : Nat → Nat) (l4 : Option Value), pkV us 65536 f x (some q, come) = (some p', come') → MKc us.length pg mk' come' → COg us come' → J X 5 [MF m r th ts os vc lc bc (pkP (some p')) (nI pg) ((nI come'.length)) (fuP (some p')) ((nI s.length)) fc fp at_ bgc got pr, BF X.1 a (some p'), TB X.1 r us zs R nb mk', OD X.1 r come', PL X.1 r s, F] 0 0 37 [some (.ref m), some (.ref a), some (.int (nI i0)), some (.int 1), l4] []) → ((pkV us 65536 f x (some q, come)).1 = none → res = none) → ∀ (o : Option Value) (dc ds : Nat) (ws' : List Asn), vtQ X.1 m r th ts os vc lc bc fc fp at_ bgc got pr pg a us zs R nb (vT (vAt us x) x (lkF R x) (some q) come s) o dc ds ws' → ∃ v : Int32, o = some (.int v) ∧ ∀ l4 : Option Value, J X 5 (ws' ++ [F]) 0 0 37 [some (.ref m), some (.ref a), some (.int (nI i0)), some (.int v), l4] []) → (∀ (ps : List Nat) (s0 : PIL) (gi : Nat) (oo : Option Nat) (p : List UInt8) (come : List Nat) (mk : Nat → Nat) (l4 : Option Value), s0.length + 1 + f = 24 → Chn R gi oo ps → (∀ y ∈ ps, y < us.length) → MKc us.length pg mk come → COg us come → (∀ (p' : List UInt8) (come' : List Nat) (mk' : Nat → Nat) (l4 : Option Value), pkMany (pkV us 65536 f) ps (some p, come) = (some p', come') → MKc us.length pg mk' come' → COg us come' → J X 5 [MF m r th ts os vc lc bc (pkP (some p')) (nI pg) ((nI come'.length)) (fuP (some p')) ((nI s0.length)) fc fp at_ bgc got pr, BF X.1 a (some p'), TB X.1 r us zs R nb mk', OD X.1 r come', PL X.1 r s0, F] 0 0 37 [some (.ref m), some (.ref a), some (.int (nI i0)), some (.int 1), l4] []) → ((pkMany (pkV us 65536 f) ps (some p, come)).1 = none → res = none) → J X 5 [MF m r th ts os vc lc bc (pkP (some p)) (nI pg) ((nI come.length)) (fuP (some p)) ((nI (s0 ++ [(gi, oL oo)]).length)) fc fp at_ bgc got pr, BF X.1 a (some p), TB X.1 r us zs R nb mk, OD X.1 r come, PL X.1 r (s0 ++ [(gi, oL oo)]), F] 0 0 37 [some (.ref m), some (.ref a), some (.int (nI i0)), some (.int 1), l4] []) := by
    intro f hvs ps
    induction ps with
    | nil =>
      intro s0 gi oo p come mk l4 hsf hch hps hmk hco kok kbad
      have ho : oo = none := by
        rcases oo with _ | k
        · rfl
        · exact hch.elim
      subst ho
      have hls : (s0 ++ [(gi, oL none)]).length = s0.length + 1 := by rw [List.length_append]; rfl
      rw [hls]
      refine j_iload_n E 38 dX8_packTo_37 3 rfl rfl rfl ?_
      refine j_if_eq E 115 41 dX8_packTo_38 (by decide) rfl (fun h38 => ?_) (fun h38 => ?_)
      · exact absurd h38 (by decide)
      · refine j_aload_n E 42 dX8_packTo_41 0 rfl rfl rfl ?_
        refine j_getf E 45 dX8_packTo_42 fl_X8_186 (by repeat (first | with_reducible exact pick_0 | with_reducible apply pick_s)) (by rfl) rfl ?_
        refine j_if_le E 115 48 dX8_packTo_45 (by decide) rfl (fun h45 => ?_) (fun h45 => ?_)
        · exact absurd h45 (nI_nle (by omega) (by omega))
        · refine j_open (by repeat (first | with_reducible exact pick_0 | with_reducible apply pick_s)) pl_open ?_
          rintro ⟨fv, fw⟩ hpl9
          dsimp only [List.cons_append, List.nil_append] at hpl9 ⊢
          refine j_aload_n E 49 dX8_packTo_48 0 rfl rfl rfl ?_
          refine j_getf E 52 dX8_packTo_49 fl_X8_65 (by repeat (first | with_reducible exact pick_0 | with_reducible apply pick_s)) (by rfl) rfl ?_
          refine j_aload_n E 53 dX8_packTo_52 0 rfl rfl rfl ?_
          refine j_getf E 56 dX8_packTo_53 fl_X8_186 (by repeat (first | with_reducible exact pick_0 | with_reducible apply pick_s)) (by rfl) rfl ?_
          refine j_iconst E (1) 57 dX8_packTo_56 (by decide) rfl ?_
          refine j_isub E 58 dX8_packTo_57 rfl ?_
          rw [nI_pred]
          refine j_lald E 59 dX8_packTo_58 (by repeat (first | with_reducible exact pick_0 | with_reducible apply pick_s)) (vp_in_nI (by omega) (by omega)) rfl ?_
          rw [nI_clamp (by omega)]
          have hl9 := (hpl9.2 s0.length (gi, oL none) (by simp)).2
          refine j_eql (y := oL none) hl9 ?_
          refine j_l2i E 60 dX8_packTo_59 rfl ?_
          refine j_eqi (oL_i none) ?_
          refine j_istore E 62 dX8_packTo_60 (Nat.le_of_ble_eq_true rfl) rfl rfl ?_
          dsimp only [List.set]
          refine j_iload E 64 dX8_packTo_62 rfl rfl ?_
          refine j_if_ge E 80 67 dX8_packTo_64 (by decide) rfl (fun h64 => ?_) (fun h64 => ?_)
          · exact absurd h64 (by decide)
          · refine j_aload_n E 68 dX8_packTo_67 0 rfl rfl rfl ?_
            refine j_dup E 69 dX8_packTo_68 rfl rfl ?_
            refine j_getf E 72 dX8_packTo_69 fl_X8_186 (by repeat (first | with_reducible exact pick_0 | with_reducible apply pick_s)) (by rfl) rfl ?_
            refine j_iconst E (1) 73 dX8_packTo_72 (by decide) rfl ?_
            refine j_isub E 74 dX8_packTo_73 rfl ?_
            rw [nI_pred]
            refine j_putf E 77 dX8_packTo_74 fl_X8_186 (by repeat (first | with_reducible exact pick_0 | with_reducible apply pick_s)) rfl rfl (Nat.le_of_ble_eq_true rfl) rfl ?_
            dsimp only [List.set]
            refine j_goto E 112 dX8_packTo_77 (by decide) ?_
            refine j_goto E 37 dX8_packTo_112 (by decide) ?_
            refine j_close (by repeat (first | with_reducible exact pick_0 | with_reducible apply pick_s | exact sel_0 | apply sel_s)) (pl_of s0 ⟨by omega, fun j e he => ?_⟩) ?_
            · have hjl := (List.getElem?_eq_some_iff.mp he).1
              exact hpl9.2 j e (by rw [List.getElem?_append_left hjl]; exact he)
            exact j_sel (by repeat (first | with_reducible exact pick_0 | with_reducible apply pick_s | exact sel_0 | apply sel_s)) (kok p come mk (some (.int (oI none))) rfl hmk hco)
    | cons y ps ih =>
      intro s0 gi oo p come mk l4 hsf hch hps hmk hco kok kbad
      obtain ⟨k, rfl⟩ : ∃ k, oo = some k := by
        rcases oo with _ | k
        · exact hch.elim
        · exact ⟨k, rfl⟩
      obtain ⟨c1, c2, c3, c4⟩ := hch
      have hy : y < us.length := hps y List.mem_cons_self
      have hls : (s0 ++ [(gi, oL (some k))]).length = s0.length + 1 := by rw [List.length_append]; rfl
      have hls2 : (s0 ++ [(gi, oL (lkN R k))]).length = s0.length + 1 := by rw [List.length_append]; rfl
      rw [pkMany_cons rfl] at kok kbad
      rw [hls]
      refine j_iload_n E 38 dX8_packTo_37 3 rfl rfl rfl ?_
      refine j_if_eq E 115 41 dX8_packTo_38 (by decide) rfl (fun h38 => ?_) (fun h38 => ?_)
      · exact absurd h38 (by decide)
      · refine j_aload_n E 42 dX8_packTo_41 0 rfl rfl rfl ?_
        refine j_getf E 45 dX8_packTo_42 fl_X8_186 (by repeat (first | with_reducible exact pick_0 | with_reducible apply pick_s)) (by rfl) rfl ?_
        refine j_if_le E 115 48 dX8_packTo_45 (by decide) rfl (fun h45 => ?_) (fun h45 => ?_)
        · exact absurd h45 (nI_nle (by omega) (by omega))
        · refine j_open (by repeat (first | with_reducible exact pick_0 | with_reducible apply pick_s)) pl_open ?_
          rintro ⟨fv, fw⟩ hpl9
          dsimp only [List.cons_append, List.nil_append] at hpl9 ⊢
          refine j_aload_n E 49 dX8_packTo_48 0 rfl rfl rfl ?_
          refine j_getf E 52 dX8_packTo_49 fl_X8_65 (by repeat (first | with_reducible exact pick_0 | with_reducible apply pick_s)) (by rfl) rfl ?_
          refine j_aload_n E 53 dX8_packTo_52 0 rfl rfl rfl ?_
          refine j_getf E 56 dX8_packTo_53 fl_X8_186 (by repeat (first | with_reducible exact pick_0 | with_reducible apply pick_s)) (by rfl) rfl ?_
          refine j_iconst E (1) 57 dX8_packTo_56 (by decide) rfl ?_
          refine j_isub E 58 dX8_packTo_57 rfl ?_
          rw [nI_pred]
          refine j_lald E 59 dX8_packTo_58 (by repeat (first | with_reducible exact pick_0 | with_reducible apply pick_s)) (vp_in_nI (by omega) (by omega)) rfl ?_
          rw [nI_clamp (by omega)]
          have hl9 := (hpl9.2 s0.length (gi, oL (some k)) (by simp)).2
          refine j_eql (y := oL (some k)) hl9 ?_
          refine j_l2i E 60 dX8_packTo_59 rfl ?_
          refine j_eqi (oL_i (some k)) ?_
          refine j_istore E 62 dX8_packTo_60 (Nat.le_of_ble_eq_true rfl) rfl rfl ?_
          dsimp only [List.set]
          refine j_iload E 64 dX8_packTo_62 rfl rfl ?_
          refine j_if_ge E 80 67 dX8_packTo_64 (by decide) rfl (fun h64 => ?_) (fun h64 => ?_)
          · refine j_aload_n E 81 dX8_packTo_80 0 rfl rfl rfl ?_
            refine j_getf E 84 dX8_packTo_81 fl_X8_65 (by repeat (first | with_reducible exact pick_0 | with_reducible apply pick_s)) (by rfl) rfl ?_
            refine j_aload_n E 85 dX8_packTo_84 0 rfl rfl rfl ?_
            refine j_getf E 88 dX8_packTo_85 fl_X8_186 (by repeat (first | with_reducible exact pick_0 | with_reducible apply pick_s)) (by rfl) rfl ?_
            refine j_iconst E (1) 89 dX8_packTo_88 (by decide) rfl ?_
            refine j_isub E 90 dX8_packTo_89 rfl ?_
            rw [nI_pred]
            refine j_aload_n E 91 dX8_packTo_90 0 rfl rfl rfl ?_
            refine j_getf E 94 dX8_packTo_91 fl_X8_44 (by repeat (first | with_reducible exact pick_0 | with_reducible apply pick_s)) (by rfl) rfl ?_
            refine j_iload E 96 dX8_packTo_94 rfl rfl ?_
            refine j_tbNX E 97 dX8_packTo_96 (by repeat (first | with_reducible exact pick_0 | with_reducible apply pick_s)) c1 rfl ?_
            refine j_i2l E 98 dX8_packTo_97 rfl ?_
            refine j_last E 99 dX8_packTo_98 (by repeat (first | with_reducible exact pick_0 | with_reducible apply pick_s)) (vp_in_nI (by omega) (by omega)) rfl ?_
            rw [nI_clamp (by omega)]
            refine j_close (by repeat (first | with_reducible exact pick_0 | with_reducible apply pick_s | exact sel_0 | apply sel_s)) (pl_of (s0 ++ [(gi, oL (lkN R k))]) ⟨by rw [hls2]; omega, fun j e he => ?_⟩) ?_
            · by_cases q : j = s0.length
              · subst q
                rw [show (s0 ++ [(gi, oL (lkN R k))])[s0.length]? = some (gi, oL (lkN R k)) by simp] at he
                cases he
                exact ⟨(hpl9.2 s0.length (gi, oL (some k)) (by simp)).1, pk_uLs⟩
              · have hjl := (List.getElem?_eq_some_iff.mp he).1
                rw [List.getElem?_append_left (by omega)] at he
                have h8 := hpl9.2 j e (by rw [List.getElem?_append_left (by omega)]; exact he)
                exact ⟨h8.1, (pk_uLn q).trans h8.2⟩
            refine j_aload_n E 100 dX8_packTo_99 0 rfl rfl rfl ?_
            refine j_aload_n E 101 dX8_packTo_100 1 rfl rfl rfl ?_
            refine j_aload_n E 102 dX8_packTo_101 0 rfl rfl rfl ?_
            refine j_getf E 105 dX8_packTo_102 fl_X8_41 (by repeat (first | with_reducible exact pick_0 | with_reducible apply pick_s)) (by rfl) rfl ?_
            refine j_iload E 107 dX8_packTo_105 rfl rfl ?_
            refine j_tbLK E 108 dX8_packTo_107 (by repeat (first | with_reducible exact pick_0 | with_reducible apply pick_s)) c1 rfl ?_
            rw [c3, ← hls2]
            refine j_callV E (c_m_value hG (d-1) m r (th := th) (ts := ts) (os := os) (vc := vc) (lc := lc) (bc := bc) (fc := fc) (fp := fp) (at_ := at_) (bgc := bgc) (got := got) (pr := pr) pg a y (some p) come (s0 ++ [(gi, oL (lkN R k))]) us zs R nb mk (by omega) hy (hgood y hy).1 (hgood y hy).2.1 hmk hco.ok hpl) 111 dX8_packTo_108 _ _ _ iv_X8_256 rfl rfl rfl (by repeat (first | with_reducible exact pick_0 | with_reducible apply pick_s | exact sel_0 | apply sel_s)) (by omega) (by omega) (by omega) (Nat.le_of_ble_eq_true rfl) rfl ?_
            rintro o dc ds ws' hq
            have hd0 : dc = 0 ∧ ds = 0 := vtQ_0 hq
            obtain ⟨rfl, rfl⟩ := hd0
            refine Exists.elim (hvs (s0 ++ [(gi, oL (lkN R k))]) y p come mk (by rw [hls2]; exact hsf) hy hmk hco (fun p' come' mk' l5 e hm' hc' => ?_) (fun e => ?_) o 0 0 ws' hq) ?_
            · rw [e] at kok kbad
              exact ih s0 gi (lkN R k) p' come' mk' l5 hsf c4 (fun z hz => hps z (List.mem_cons_of_mem _ hz)) hm' hc' kok kbad
            · exact kbad (by
                rcases hz : pkV us 65536 f y (some p, come) with ⟨z1, z2⟩
                rw [hz] at e
                dsimp only at e
                subst e
                exact pkMany_n rfl _)
            · rintro v ⟨rfl, hv⟩
              dsimp only [List.cons_append, List.nil_append, Option.toList]
              refine j_istore_n E 112 dX8_packTo_111 3 rfl (Nat.le_of_ble_eq_true rfl) rfl rfl ?_
              dsimp only [List.set]
              refine j_goto E 37 dX8_packTo_112 (by decide) ?_
              exact hv _
          · exact absurd (show (0 : Int32) ≤ nI k from nI_pos' (by omega)) h64
  have all : ∀ f : Nat, ∀ (s : PIL) (x : Nat) (q : List UInt8) (come : List Nat) (mk : Nat → Nat), s.length + f = 24 → x < us.length → MKc us.length pg mk come → COg us come → (∀ (p' : List UInt8) (come' : List Nat) (mk' : Nat → Nat) (l4 : Option Value), pkV us 65536 f x (some q, come) = (some p', come') → MKc us.length pg mk' come' → COg us come' → J X 5 [MF m r th ts os vc lc bc (pkP (some p')) (nI pg) ((nI come'.length)) (fuP (some p')) ((nI s.length)) fc fp at_ bgc got pr, BF X.1 a (some p'), TB X.1 r us zs R nb mk', OD X.1 r come', PL X.1 r s, F] 0 0 37 [some (.ref m), some (.ref a), some (.int (nI i0)), some (.int 1), l4] []) → ((pkV us 65536 f x (some q, come)).1 = none → res = none) → ∀ (o : Option Value) (dc ds : Nat) (ws' : List Asn), vtQ X.1 m r th ts os vc lc bc fc fp at_ bgc got pr pg a us zs R nb (vT (vAt us x) x (lkF R x) (some q) come s) o dc ds ws' → ∃ v : Int32, o = some (.int v) ∧ ∀ l4 : Option Value, J X 5 (ws' ++ [F]) 0 0 37 [some (.ref m), some (.ref a), some (.int (nI i0)), some (.int v), l4] [] := by
    intro f
    induction f with
    | zero => exact vs 0 (fun f1 e => by cases e)
    | succ f ihf => exact vs (f + 1) (fun f1 e => by
        cases e
        exact pk f ihf)
  refine j_aload_n E 1 dX8_packTo_0 0 rfl rfl rfl ?_
  refine j_iconst E (0) 2 dX8_packTo_1 (by decide) rfl ?_
  refine j_putf E 5 dX8_packTo_2 fl_X8_202 (by repeat (first | with_reducible exact pick_0 | with_reducible apply pick_s)) rfl rfl (Nat.le_of_ble_eq_true rfl) rfl ?_
  dsimp only [List.set]
  refine j_aload_n E 6 dX8_packTo_5 0 rfl rfl rfl ?_
  refine j_iconst E (0) 7 dX8_packTo_6 (by decide) rfl ?_
  refine j_putf E 10 dX8_packTo_7 fl_X8_205 (by repeat (first | with_reducible exact pick_0 | with_reducible apply pick_s)) (by decide) (by decide) (Nat.le_of_ble_eq_true rfl) rfl ?_
  dsimp only [List.set]
  refine j_aload_n E 11 dX8_packTo_10 0 rfl rfl rfl ?_
  refine j_iconst E (0) 12 dX8_packTo_11 (by decide) rfl ?_
  refine j_putf E 15 dX8_packTo_12 fl_X8_253 (by repeat (first | with_reducible exact pick_0 | with_reducible apply pick_s)) rfl rfl (Nat.le_of_ble_eq_true rfl) rfl ?_
  dsimp only [List.set]
  refine j_aload_n E 16 dX8_packTo_15 0 rfl rfl rfl ?_
  refine j_dup E 17 dX8_packTo_16 rfl rfl ?_
  refine j_getf E 20 dX8_packTo_17 fl_X8_250 (by repeat (first | with_reducible exact pick_0 | with_reducible apply pick_s)) (by rfl) rfl ?_
  refine j_iconst E (1) 21 dX8_packTo_20 (by decide) rfl ?_
  refine j_iadd E 22 dX8_packTo_21 rfl ?_
  refine j_eqi (y := nI pg) (by rw [hpg]; exact nI_1 pg0) ?_
  refine j_putf E 25 dX8_packTo_22 fl_X8_250 (by repeat (first | with_reducible exact pick_0 | with_reducible apply pick_s)) rfl rfl (Nat.le_of_ble_eq_true rfl) rfl ?_
  dsimp only [List.set]
  refine j_aload_n E 26 dX8_packTo_25 0 rfl rfl rfl ?_
  refine j_iconst E (0) 27 dX8_packTo_26 (by decide) rfl ?_
  refine j_putf E 30 dX8_packTo_27 fl_X8_186 (by repeat (first | with_reducible exact pick_0 | with_reducible apply pick_s)) rfl rfl (Nat.le_of_ble_eq_true rfl) rfl ?_
  dsimp only [List.set]
  refine j_aload_n E 31 dX8_packTo_30 0 rfl rfl rfl ?_
  refine j_aload_n E 32 dX8_packTo_31 1 rfl rfl rfl ?_
  refine j_iload_n E 33 dX8_packTo_32 2 rfl rfl rfl ?_
  have hmkc : MKc us.length pg mk0 [] := fun j hj => ⟨⟨fun e => by have := hmk0 j hj; omega, fun e => absurd e List.not_mem_nil⟩, by have := hmk0 j hj; omega⟩
  change J X 5 [MF m r th ts os vc lc bc (pkP (some [])) (nI pg) ((nI ([] : List Nat).length)) (fuP (some [])) ((nI ([] : PIL).length)) fc fp at_ bgc got pr, BF X.1 a (some []), TB X.1 r us zs R nb mk0, OD X.1 r [], PL X.1 r [], F] 0 0 33 _ _
  refine j_callV E (c_m_value hG (d-1) m r (th := th) (ts := ts) (os := os) (vc := vc) (lc := lc) (bc := bc) (fc := fc) (fp := fp) (at_ := at_) (bgc := bgc) (got := got) (pr := pr) pg a i0 (some []) [] [] us zs R nb mk0 (by omega) hi0 (hgood i0 hi0).1 (hgood i0 hi0).2.1 hmkc (COg.nil us).ok hpl) 36 dX8_packTo_33 _ _ _ iv_X8_256 rfl rfl rfl (by repeat (first | with_reducible exact pick_0 | with_reducible apply pick_s | exact sel_0 | apply sel_s)) (by omega) (by omega) (by omega) (Nat.le_of_ble_eq_true rfl) rfl ?_
  rintro o dc ds ws' hq
  have hd0 : dc = 0 ∧ ds = 0 := vtQ_0 hq
  obtain ⟨rfl, rfl⟩ := hd0
  obtain ⟨v, rfl, hv⟩ := all 24 [] i0 [] [] mk0 rfl hi0 hmkc (COg.nil us) (fun p' come' mk' l5 e hm' hc' => good p' come' mk' l5 (by rw [hres, packU, e]) (fun j hj => (hm' j hj).2)) (fun e => by rw [hres, packU]; exact e) o 0 0 ws' hq
  dsimp only [List.cons_append, List.nil_append, Option.toList]
  refine j_istore_n E 37 dX8_packTo_36 3 rfl (Nat.le_of_ble_eq_true rfl) rfl rfl ?_
  dsimp only [List.set]
  exact hv _

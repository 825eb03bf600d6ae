/-! Reader: readValue, by readGroup -/
theorem rdQ_leaf2 {g : GT} {z : Nat → Nat} {rd ld gr tp vl i e m np nb capV capG cap2 k h b : Nat} {bs : List UInt8} {cd pl ty : Int32} {vs : List VE} {gs : List Nat} {R : RO} {o : Option Value} {dc ds : Nat} {ws' : List Asn} (hgs : ∀ j ∈ gs, j < vs.length) (hR : ∀ x, R = .inr x → x.2.2.2.2.2 = gs) (hv : vs.length ≤ 3000) (h1 : i < e) (hm : m ≤ e - i) (hq : leafQ g z rd ld gr e cd pl vl vs np nb capV m [LEA ld k h b ty, ROW g tp bs cap2] R o dc ds ws') : ∃ ws2, rdQ g z rd ld gr tp vl bs cap2 i cd pl vs capV capG R o dc ds ws2 ∧ ∀ (F : Asn) w, sepL (ws' ++ [LST g z gr (gad vs gs) capG, F]) w → sepL (ws2 ++ [F]) w := by
  have e8 : ∃ ws4, leafQ g z rd ld gr e cd pl vl vs np nb capV m [LEAx ld, ROW g tp bs cap2, LST g z gr (gad vs gs) capG] R o dc ds ws4 ∧ ∀ (F : Asn) w, sepL (ws' ++ [LST g z gr (gad vs gs) capG, F]) w → sepL (ws4 ++ [F]) w := by
    have key : ∀ (P Q : Asn) (F : Asn) w, sepL ([P, Q, LEA ld k h b ty, ROW g tp bs cap2] ++ [LST g z gr (gad vs gs) capG, F]) w → sepL ([P, Q, LEAx ld, ROW g tp bs cap2, LST g z gr (gad vs gs) capG] ++ [F]) w := by
      rintro P Q F w ⟨w1, w2, hp, a1, w3, w4, hp2, a2, w5, w6, hp3, a3, a4⟩
      exact ⟨w1, w2, hp, a1, w3, w4, hp2, a2, w5, w6, hp3, leax_of w5 (sep_sing a3), a4⟩
    rcases R with x | x
    · obtain ⟨rfl, rfl, rfl, rfl⟩ := hq
      exact ⟨_, ⟨rfl, rfl, rfl, rfl⟩, fun F w hw => key _ _ F w hw⟩
    · obtain ⟨ads, xcap, f1, rfl, f2, rfl, f3, f4, f5, f6⟩ := hq
      exact ⟨_, ⟨ads, xcap, f1, rfl, f2, rfl, f3, f4, f5, f6⟩, fun F w hw => key _ _ F w hw⟩
  obtain ⟨ws4, q1, q2⟩ := e8
  obtain ⟨ws2, q3, q4⟩ := rdQ_leaf hgs hR hv h1 hm q1
  refine ⟨ws2, q3, fun F w hw => ?_⟩
  obtain ⟨u1, u2, hp, b1, b2⟩ := q4 [F] w (q2 F w hw)
  have h3 : u2 = [] := b2
  subst h3
  rw [List.append_nil] at hp
  exact sepL_perm hp b1
theorem leafQ_dc {g : GT} {z : Nat → Nat} {rd ld gr e vl np nb cap m dc ds : Nat} {cd pl : Int32} {vs : List VE} {ex ws' : List Asn} {R : RO} {o : Option Value} (h : leafQ g z rd ld gr e cd pl vl vs np nb cap m ex R o dc ds ws') : dc ≤ 3 ∧ ds ≤ 20008 + m := by
  rcases R with x | x
  · obtain ⟨-, rfl, rfl, -⟩ := h
    omega
  · obtain ⟨ads, xcap, f1, -, f2, -, f3, f4, f5, f6⟩ := h
    exact ⟨f5, f6⟩
/-- what readGroup keeps -/
def RDG (g : GT) (z : Nat → Nat) (f : Nat) (sub : List UInt8 → Option (Nat → Nat → Nat → Nat → List Nat → RO)) : Prop :=
  ∀ (d M N rd ld gr tp vl i np nb capV capG cap2 k h b : Nat) (cd pl ty : Int32) (bs : List UInt8) (vs : List VE) (gs : List Nat), 2 * f + 13 ≤ d → OKs vs.length np nb gs → (k = 7 ∨ k = 8) → 1 ≤ h → i + h ≤ bs.length → b < 2 ^ 33 → bs.length ≤ 100000 →
    160200 + 50 * (bs.length - i) ≤ 20 * M + 4 * (capV + capG) → 200000 + 21 * (bs.length - i) ≤ N + 4 * (capV + capG) →
    CtrV g mX4_readGroup 3 d M N rd [.ref tp, .ref vl, .int (nI i), .int (nI (24 - f))] [RDR rd ld gr (i + h) cd pl, LEA ld k h b ty, ROW g tp bs cap2, LST g z gr (gad vs gs) capG, VLS g z vl vs np nb capV] (rdQ g z rd ld gr tp vl bs cap2 i cd pl vs capV capG (rdGroup (sub bs) i vs.length np nb gs k h b)) noX
def RDV (g : GT) (z : Nat → Nat) (f : Nat) : Prop :=
  ∀ (d M N rd ld gr tp vl i np nb capV capG cap2 : Nat) (cd pl : Int32) (bs : List UInt8) (vs : List VE) (gs : List Nat), 2 * f + 14 ≤ d → OKs vs.length np nb gs → i ≤ bs.length → bs.length ≤ 100000 →
    160200 + 50 * (bs.length - i) ≤ 20 * M + 4 * (capV + capG) → 200000 + 21 * (bs.length - i) ≤ N + 4 * (capV + capG) →
    CtrV g mX4_readValue 3 d M N rd [.ref tp, .ref vl, .int (nI (24 - f))] [RDR rd ld gr i cd pl, LEAx ld, ROW g tp bs cap2, LST g z gr (gad vs gs) capG, VLS g z vl vs np nb capV] (rdQ g z rd ld gr tp vl bs cap2 i cd pl vs capV capG (rdV bs f i vs.length np nb gs)) noX
theorem rdQ_inl {g : GT} {z : Nat → Nat} {rd ld gr tp vl e i np nb capV capG cap2 c p : Nat} {cd pl : Int32} {bs : List UInt8} {vs : List VE} {xs : List Nat} (hv : vs.length ≤ 3000) : rdQ g z rd ld gr tp vl bs cap2 i cd pl vs capV capG (.inl (c, p)) (some (.int (-1))) 0 0 [RDR rd ld gr e (nI c) (nI p), LEAx ld, ROW g tp bs cap2, LST g z gr xs capG, VLS g z vl vs np nb capV] :=
  ⟨e, [], np, nb, capV, capG, xs, rfl, by rw [List.append_nil], by rw [List.append_nil]; exact hv, by omega, by omega⟩
set_option maxHeartbeats 8000000 in
theorem c_rd_value {g : GT} {z : Nat → Nat} (hA : GA g z) {f : Nat} {sub : List UInt8 → Option (Nat → Nat → Nat → Nat → List Nat → RO)} (hf : ∀ bs, rdV bs f = rdOne (sub bs) bs) (hgrp : RDG g z f sub) : RDV g z f := by
  intro d M N rd ld gr tp vl i np nb capV capG cap2 cd pl bs vs gs hd hok hi hb hM hN
  refine ⟨rcv_pt, ?_⟩
  have hG := hA.1
  rw [hf bs]
  refine ctr_intro hG (by decide +kernel) (Nat.le_of_ble_eq_true rfl) ?_
  rintro X F rfl E B hI T
  replace E : JE X RX4 cX4_readValue 5 d M N := E
  show J X _ [RDR rd ld gr i cd pl, LEAx ld, ROW X.1 tp bs cap2, LST X.1 z gr (gad vs gs) capG, VLS X.1 z vl vs np nb capV, F] 0 0 0 [some (.ref rd), some (.ref tp), some (.ref vl), some (.int (nI (24 - f))), none] []
  have hcG : capG ≤ 20000 ∧ True := ⟨by first | assumption | exact Nat.le_of_not_lt (fun _ => by sorry), trivial⟩
  sorry

/-! Reader: readGroup -/
set_option maxHeartbeats 4000000 in
theorem c_rd_group0 {g : GT} {z : Nat → Nat} (hA : GA g z) : RDG g z 0 (fun _ => none) := by
  intro d M N rd ld gr tp vl i np nb capV capG cap2 k h b cd pl ty bs vs gs hd hok hk hh hi hb2 hb hM hN
  refine ⟨rcv_pt, ?_⟩
  have hG := hA.1
  refine ctr_intro hG (by decide +kernel) (Nat.le_of_ble_eq_true rfl) ?_
  rintro X F rfl E B hI T
  replace E : JE X RX4 cX4_readGroup 10 d M N := E
  show J X _ [RDR rd ld gr (i + h) cd pl, LEA ld k h b ty, ROW X.1 tp bs cap2, LST X.1 z gr (gad vs gs) capG, VLS X.1 z vl vs np nb capV, F] 0 0 0 [some (.ref rd), some (.ref tp), some (.ref vl), some (.int (nI i)), some (.int (nI (24 - 0))), none, none, none, none, none] []
  refine j_iload E 2 dX4_readGroup_0 rfl rfl ?_
  refine j_bipush E (24) 4 dX4_readGroup_2 (by decide) rfl ?_
  refine j_icmp_lt E 15 7 dX4_readGroup_4 (by decide) rfl (fun h4 => ?_) (fun h4 => ?_)
  · exact absurd h4 (by decide)
  · refine j_aload_n E 8 dX4_readGroup_7 0 rfl rfl rfl ?_
    refine j_bipush E (6) 10 dX4_readGroup_8 (by decide) rfl ?_
    refine j_iload_n E 11 dX4_readGroup_10 3 rfl rfl rfl ?_
    refine j_callV E (c_rd_refuse hG (d-1) rd ld gr (i + h) cd pl (nI 6) (nI i)) 14 dX4_readGroup_11 _ _ _ iv_X4_54 rfl rfl rfl (by repeat (first | with_reducible exact pick_0 | with_reducible apply pick_s | exact sel_0 | apply sel_s)) (by omega) (by omega) (by omega) (Nat.le_of_ble_eq_true rfl) rfl ?_
    rintro _ _ _ _ ⟨rfl, rfl, rfl, rfl⟩
    dsimp only [List.cons_append, List.nil_append, Option.toList]
    refine j_close (by repeat (first | with_reducible exact pick_0 | with_reducible apply pick_s | exact sel_0 | apply sel_s)) (leax_of (ld := ld) (k := k) (h := h) (b := b) (ty := ty)) ?_
    exact j_iret E B rfl 0 0 dX4_readGroup_14 (by repeat (first | with_reducible exact pick_0 | with_reducible apply pick_s | exact sel_0 | apply sel_s)) ⟨rdQ_inl hok.1, by omega, by omega⟩ (by omega) (by omega) (by omega) (by omega)
/-- a group out of what was done and of what follows -/
def comb (n k : Nat) (ps0 : List Nat) (new0 : List VT) (R : Sum (Nat × Nat) (List Nat × Nat × List VT × Nat × Nat × List Nat)) : RO :=
  match R with
  | .inl x => .inl x
  | .inr x => .inr (n, x.2.1, (k, 0, 0, [], ps0 ++ x.1) :: (new0 ++ x.2.2.1), x.2.2.2.1, x.2.2.2.2.1, x.2.2.2.2.2)
theorem comb_step {rd : Nat → Nat → Nat → Nat → List Nat → RO} {n k c i np nb n1 : Nat} {gs ps0 : List Nat} {new0 : List VT} {v i1 np1 nb1 : Nat} {new gs1} (e : rd i n1 np nb gs = .inr (v, i1, new, np1, nb1, gs1)) : comb n k ps0 new0 (rdMany rd (c + 1) i n1 np nb gs) = comb n k (ps0 ++ [v]) (new0 ++ new) (rdMany rd c i1 (n1 + new.length) np1 nb1 gs1) := by
  rw [rdMany, e]
  dsimp only
  rcases rdMany rd c i1 (n1 + new.length) np1 nb1 gs1 with x | ⟨ps, i2, new2, np2, nb2, gs2⟩
  · rfl
  · simp only [comb, List.append_assoc, List.singleton_append]
theorem comb_bad {rd : Nat → Nat → Nat → Nat → List Nat → RO} {n k c i np nb n1 : Nat} {gs ps0 : List Nat} {new0 : List VT} {x : Nat × Nat} (e : rd i n1 np nb gs = .inl x) : comb n k ps0 new0 (rdMany rd (c + 1) i n1 np nb gs) = .inl x := by
  rw [rdMany, e]
  rfl

/-! the model: isSamePacked -/
set_option maxHeartbeats 4000000 in
theorem c_m_isSame {g : GT} (hG : GLB g) (d m : Nat) (r : Nat → Nat) {th ts os vc lc bc pkd pkg cm fu op fc fp at_ bgc got : Int32} {pr : Int64} (p q : List UInt8) : CtrV g mX8_isSamePacked 7 d 0 0 m [.int (nI p.length), .int (nI q.length)] [MF m r th ts os vc lc bc pkd pkg cm fu op fc fp at_ bgc got pr, BA g (r 18) p, BA g (r 19) q] (fun o dc ds ws' => o = some (.int (if p = q then 1 else 0)) ∧ dc = 0 ∧ ds = 0 ∧ ws' = [MF m r th ts os vc lc bc pkd pkg cm fu op fc fp at_ bgc got pr, BA g (r 18) p, BA g (r 19) q]) noX := by
  refine ⟨rcv_pt, ?_⟩
  refine ctr_intro hG (by decide +kernel) (Nat.le_of_ble_eq_true rfl) ?_
  rintro X F rfl E B hI T
  replace E : JE X RX8 cX8_isSamePacked 5 d 0 0 := E
  show J X _ [MF m r th ts os vc lc bc pkd pkg cm fu op fc fp at_ bgc got pr, BA X.1 (r 18) p, BA X.1 (r 19) q, F] 0 0 0 [some (.ref m), some (.int (nI p.length)), some (.int (nI q.length)), none, none] []
  refine j_know (pick_know (P := BA X.1 (r 18) p) (by repeat (first | with_reducible exact pick_0 | with_reducible apply pick_s)) ba_know) (fun hbp => ?_)
  refine j_know (pick_know (P := BA X.1 (r 19) q) (by repeat (first | with_reducible exact pick_0 | with_reducible apply pick_s)) ba_know) (fun hbq => ?_)
  have no : ¬ p = q → ∀ k : Int32, J X 5 [MF m r th ts os vc lc bc pkd pkg cm fu op fc fp at_ bgc got pr, BA X.1 (r 18) p, BA X.1 (r 19) q, F] 0 0 14 [some (.ref m), some (.int (nI p.length)), some (.int (nI q.length)), some (.int 0), some (.int k)] [] := by
    intro hn k
    rw [if_neg hn] at B
    refine j_iload E 16 dX8_isSamePacked_14 rfl rfl ?_
    refine j_iload_n E 17 dX8_isSamePacked_16 1 rfl rfl rfl ?_
    refine j_icmp_ge E 53 20 dX8_isSamePacked_17 (by decide) rfl (fun h17 => ?_) (fun h17 => ?_)
    · refine j_iload_n E 54 dX8_isSamePacked_53 3 rfl rfl rfl ?_
      exact j_zret E B rfl (by first | exact Or.inl rfl | exact Or.inr rfl) 0 0 dX8_isSamePacked_54 (by repeat (first | with_reducible exact pick_0 | with_reducible apply pick_s | exact sel_0 | apply sel_s)) ⟨rfl, rfl, rfl, rfl⟩ (by omega) (by omega) (by omega) (by omega)
    · refine j_iload_n E 21 dX8_isSamePacked_20 3 rfl rfl rfl ?_
      refine j_if_eq E 53 24 dX8_isSamePacked_21 (by decide) rfl (fun h21 => ?_) (fun h21 => ?_)
      · refine j_iload_n E 54 dX8_isSamePacked_53 3 rfl rfl rfl ?_
        exact j_zret E B rfl (by first | exact Or.inl rfl | exact Or.inr rfl) 0 0 dX8_isSamePacked_54 (by repeat (first | with_reducible exact pick_0 | with_reducible apply pick_s | exact sel_0 | apply sel_s)) ⟨rfl, rfl, rfl, rfl⟩ (by omega) (by omega) (by omega) (by omega)
      · exact absurd rfl h21
  refine j_iload_n E 1 dX8_isSamePacked_0 1 rfl rfl rfl ?_
  refine j_iload_n E 2 dX8_isSamePacked_1 2 rfl rfl rfl ?_
  refine j_icmp_ne E 9 5 dX8_isSamePacked_2 (by decide) rfl (fun h2 => ?_) (fun h2 => ?_)
  · refine j_iconst E (0) 10 dX8_isSamePacked_9 (by decide) rfl ?_
    refine j_istore_n E 11 dX8_isSamePacked_10 3 rfl (Nat.le_of_ble_eq_true rfl) rfl rfl ?_
    dsimp only [List.set]
    refine j_iconst E (0) 12 dX8_isSamePacked_11 (by decide) rfl ?_
    refine j_istore E 14 dX8_isSamePacked_12 (Nat.le_of_ble_eq_true rfl) rfl rfl ?_
    dsimp only [List.set]
    exact no (fun e => h2 (by rw [e])) 0
  · have hl : p.length = q.length := (nI_eq (by omega) (by omega)).mp h2
    have loop : ∀ (n k : Nat), k + n = p.length → p.take k = q.take k → J X 5 [MF m r th ts os vc lc bc pkd pkg cm fu op fc fp at_ bgc got pr, BA X.1 (r 18) p, BA X.1 (r 19) q, F] 0 0 14 [some (.ref m), some (.int (nI p.length)), some (.int (nI q.length)), some (.int 1), some (.int (nI k))] [] := by
      intro n
      induction n with
      | zero =>
        intro k hk ht
        have e : p = q := by
          rw [show k = p.length by omega, List.take_length] at ht
          rw [hl, List.take_length] at ht
          exact ht
        rw [if_pos e] at B
        refine j_iload E 16 dX8_isSamePacked_14 rfl rfl ?_
        refine j_iload_n E 17 dX8_isSamePacked_16 1 rfl rfl rfl ?_
        refine j_icmp_ge E 53 20 dX8_isSamePacked_17 (by decide) rfl (fun h17 => ?_) (fun h17 => ?_)
        · refine j_iload_n E 54 dX8_isSamePacked_53 3 rfl rfl rfl ?_
          exact j_zret E B rfl (by first | exact Or.inl rfl | exact Or.inr rfl) 0 0 dX8_isSamePacked_54 (by repeat (first | with_reducible exact pick_0 | with_reducible apply pick_s | exact sel_0 | apply sel_s)) ⟨rfl, rfl, rfl, rfl⟩ (by omega) (by omega) (by omega) (by omega)
        · exact absurd (nI_le (by omega) (by omega)) h17
      | succ n ih =>
        intro k hk ht
        refine j_iload E 16 dX8_isSamePacked_14 rfl rfl ?_
        refine j_iload_n E 17 dX8_isSamePacked_16 1 rfl rfl rfl ?_
        refine j_icmp_ge E 53 20 dX8_isSamePacked_17 (by decide) rfl (fun h17 => ?_) (fun h17 => ?_)
        · exact absurd h17 (nI_ge (by omega) (by omega))
        · refine j_iload_n E 21 dX8_isSamePacked_20 3 rfl rfl rfl ?_
          refine j_if_eq E 53 24 dX8_isSamePacked_21 (by decide) rfl (fun h21 => ?_) (fun h21 => ?_)
          · exact absurd h21 (by decide)
          · refine j_aload_n E 25 dX8_isSamePacked_24 0 rfl rfl rfl ?_
            refine j_getf E 28 dX8_isSamePacked_25 fl_X8_50 (by repeat (first | with_reducible exact pick_0 | with_reducible apply pick_s)) (by rfl) rfl ?_
            refine j_iload E 30 dX8_isSamePacked_28 rfl rfl ?_
            refine j_baldBA E 31 dX8_isSamePacked_30 (by repeat (first | with_reducible exact pick_0 | with_reducible apply pick_s)) (by omega) rfl ?_
            refine j_aload_n E 32 dX8_isSamePacked_31 0 rfl rfl rfl ?_
            refine j_getf E 35 dX8_isSamePacked_32 fl_X8_53 (by repeat (first | with_reducible exact pick_0 | with_reducible apply pick_s)) (by rfl) rfl ?_
            refine j_iload E 37 dX8_isSamePacked_35 rfl rfl ?_
            refine j_baldBA E 38 dX8_isSamePacked_37 (by repeat (first | with_reducible exact pick_0 | with_reducible apply pick_s)) (by omega) rfl ?_
            refine j_icmp_ne E 45 41 dX8_isSamePacked_38 (by decide) rfl (fun h38 => ?_) (fun h38 => ?_)
            · refine j_iconst E (0) 46 dX8_isSamePacked_45 (by decide) rfl ?_
              refine j_istore_n E 47 dX8_isSamePacked_46 3 rfl (Nat.le_of_ble_eq_true rfl) rfl rfl ?_
              dsimp only [List.set]
              refine j_iinc E _ 50 dX8_isSamePacked_47 rfl rfl (Nat.le_of_ble_eq_true rfl) rfl rfl ?_
              dsimp only [List.set]
              refine j_goto E 14 dX8_isSamePacked_50 (by decide) ?_
              refine j_sel (by repeat (first | with_reducible exact pick_0 | with_reducible apply pick_s | exact sel_0 | apply sel_s)) (no (fun e => h38 (by rw [e])) _)
            · have hb := by8_inj.mp h38
              refine j_iconst E (1) 42 dX8_isSamePacked_41 (by decide) rfl ?_
              refine j_goto E 46 dX8_isSamePacked_42 (by decide) ?_
              refine j_istore_n E 47 dX8_isSamePacked_46 3 rfl (Nat.le_of_ble_eq_true rfl) rfl rfl ?_
              dsimp only [List.set]
              refine j_iinc E _ 50 dX8_isSamePacked_47 rfl rfl (Nat.le_of_ble_eq_true rfl) rfl rfl ?_
              dsimp only [List.set]
              refine j_goto E 14 dX8_isSamePacked_50 (by decide) ?_
              have hk1 : k < p.length := by omega
              have hk2 : k < q.length := by omega
              have hw := ih (k + 1) (by omega) (by
                rw [List.take_succ, List.take_succ, ht, List.getElem?_eq_getElem hk1, List.getElem?_eq_getElem hk2]
                rw [List.getD_eq_getElem?_getD, List.getD_eq_getElem?_getD, List.getElem?_eq_getElem hk1, List.getElem?_eq_getElem hk2] at hb
                have hb2 : p[k] = q[k] := hb
                rw [hb2])
              rw [← nI_1 k] at hw
              exact j_sel (by repeat (first | with_reducible exact pick_0 | with_reducible apply pick_s | exact sel_0 | apply sel_s)) hw
    refine j_iconst E (1) 6 dX8_isSamePacked_5 (by decide) rfl ?_
    refine j_goto E 10 dX8_isSamePacked_6 (by decide) ?_
    refine j_istore_n E 11 dX8_isSamePacked_10 3 rfl (Nat.le_of_ble_eq_true rfl) rfl rfl ?_
    dsimp only [List.set]
    refine j_iconst E (0) 12 dX8_isSamePacked_11 (by decide) rfl ?_
    refine j_istore E 14 dX8_isSamePacked_12 (Nat.le_of_ble_eq_true rfl) rfl rfl ?_
    dsimp only [List.set]
    exact loop p.length 0 (Nat.zero_add _) rfl

/-! the model: number -/
set_option maxHeartbeats 8000000 in
theorem c_mg_number {g : GT} (hG : GLB g) (d m : Nat) (th : Int32) (tape : List UInt8) (us : List VT) (np nb : Nat) (out : List UInt8) (cd pl pm : Nat) (v : Int32) (hok : AOk (tape, us, np, nb, out, cd, pl)) (hd : 2 ≤ d) : CtrV g mX8_number_ 7 d 0 0 m [.int v] [MGA g m th (tape, us, np, nb, out, cd, pl) pm] (fun o dc ds ws' => o = some (.long (sNumber v (tape, us, np, nb, out, cd, pl)).2.1) ∧ dc = 0 ∧ ds = 0 ∧ ws' = [MGA g m (nI (sNumber v (tape, us, np, nb, out, cd, pl)).1) (sNumber v (tape, us, np, nb, out, cd, pl)).2.2 (pm + 3001)]) noX := by
  refine ⟨mga_rcv, ?_⟩
  refine ctr_intro hG (by decide +kernel) (Nat.le_of_ble_eq_true rfl) ?_
  rintro X F rfl E B hI T
  replace E : JE X RX8 cX8_number_ 3 d 0 0 := E
  show J X _ [MGA X.1 m th (tape, us, np, nb, out, cd, pl) pm, F] 0 0 0 [some (.ref m), some (.int v), none] []
  refine mga_open (by repeat (first | with_reducible exact pick_0 | with_reducible apply pick_s)) ?_
  intro r pkd cm fu op at_ bgc got pr pg zs R mk gs hS
  dsimp only [MGL, List.cons_append, List.nil_append]
  obtain ⟨hgd, hRl, hmk, hpg⟩ := hS
  dsimp only at hgd hRl
  refine j_know (pick_know (P := TB X.1 r us zs R nb mk) (by repeat (first | with_reducible exact pick_0 | with_reducible apply pick_s)) tb_know) (fun hk9 => ?_)
  refine j_aload_n E 1 dX8_number__0 0 rfl rfl rfl ?_
  refine j_iload_n E 2 dX8_number__1 1 rfl rfl rfl ?_
  refine j_callV E (c_m_isValue hG (d-1) m r v us.length hk9.2.2.1) 5 dX8_number__2 _ _ _ iv_X8_131 rfl rfl rfl (by repeat (first | with_reducible exact pick_0 | with_reducible apply pick_s | exact sel_0 | apply sel_s)) (by omega) (by omega) (by omega) (Nat.le_of_ble_eq_true rfl) rfl ?_
  rintro _ _ _ _ ⟨rfl, rfl, rfl, rfl⟩
  dsimp only [List.cons_append, List.nil_append, Option.toList]
  rcases hin : inB v us.length with _ | _
  · rw [show sNumber v (tape, us, np, nb, out, cd, pl) = (1, 0, (tape, us, np, nb, out, cd, pl)) from if_pos (by dsimp only; rw [hin]; decide)] at B
    dsimp only at B
    refine j_if_eq E 53 8 dX8_number__5 (by decide) rfl (fun h5 => ?_) (fun h5 => ?_)
    · refine j_iconst E (0) 54 dX8_number__53 (by decide) rfl ?_
      refine j_istore_n E 55 dX8_number__54 2 rfl (Nat.le_of_ble_eq_true rfl) rfl rfl ?_
      dsimp only [List.set]
      refine j_aload_n E 56 dX8_number__55 0 rfl rfl rfl ?_
      refine j_aload_n E 57 dX8_number__56 0 rfl rfl rfl ?_
      refine j_iload_n E 58 dX8_number__57 1 rfl rfl rfl ?_
      refine j_callV E (c_m_isValue hG (d-1) m r v us.length hk9.2.2.1) 61 dX8_number__58 _ _ _ iv_X8_131 rfl rfl rfl (by repeat (first | with_reducible exact pick_0 | with_reducible apply pick_s | exact sel_0 | apply sel_s)) (by omega) (by omega) (by omega) (Nat.le_of_ble_eq_true rfl) rfl ?_
      rintro _ _ _ _ ⟨rfl, rfl, rfl, rfl⟩
      dsimp only [List.cons_append, List.nil_append, Option.toList]
      rw [hin]
      refine j_if_ne E 68 64 dX8_number__61 (by decide) rfl (fun h61 => ?_) (fun h61 => ?_)
      · exact absurd rfl h61
      · refine j_iconst E (1) 65 dX8_number__64 (by decide) rfl ?_
        refine j_goto E 90 dX8_number__65 (by decide) ?_
        refine j_putf E 93 dX8_number__90 fl_X8_71 (by repeat (first | with_reducible exact pick_0 | with_reducible apply pick_s)) rfl rfl (Nat.le_of_ble_eq_true rfl) rfl ?_
        dsimp only [List.set]
        refine j_aload_n E 94 dX8_number__93 0 rfl rfl rfl ?_
        refine j_getf E 97 dX8_number__94 fl_X8_71 (by repeat (first | with_reducible exact pick_0 | with_reducible apply pick_s)) (by rfl) rfl ?_
        refine j_if_le E 104 100 dX8_number__97 (by decide) rfl (fun h97 => ?_) (fun h97 => ?_)
        · exact absurd h97 (by decide)
        · refine j_lconst E 0 101 dX8_number__100 rfl rfl ?_
          refine j_goto E 110 dX8_number__101 (by decide) ?_
          refine mga_close r 1 np cd pl pg (pm + 3001) (by repeat (first | with_reducible exact pick_0 | with_reducible apply pick_s | exact sel_0 | apply sel_s)) ?_ ⟨hgd, hRl, hmk, by omega⟩ ?_
          · exact ⟨rfl, rfl, rfl, rfl, rfl, rfl, rfl, rfl, rfl⟩
          · exact j_lret E B rfl 0 0 dX8_number__110 (by repeat (first | with_reducible exact pick_0 | with_reducible apply pick_s | exact sel_0 | apply sel_s)) ⟨rfl, rfl, rfl, rfl⟩ (by omega) (by omega) (by omega) (by omega)
    · exact absurd rfl h5
  · obtain ⟨j, hj, rfl⟩ := inB_t (by omega) hin
    have hcl : (nI j).toNatClampNeg = j := nI_clamp (by omega)
    obtain ⟨V, hV⟩ : ∃ V, V = vAt us j := ⟨_, rfl⟩
    have e1 : sNumber (nI j) (tape, us, np, nb, out, cd, pl) = (if ¬ (V.1 = 2 ∨ V.1 = 3 ∨ V.1 = 4 ∨ V.1 = 10) then (2, 0, (tape, us, np, nb, out, cd, pl)) else if V.1 = 2 ∧ V.2.2.1 = 1 then (3, 0, (tape, us, np, nb, out, cd, pl)) else (0, V.2.1, (tape, us, np, nb, out, cd, pl))) := by
      unfold sNumber
      dsimp only
      rw [if_neg (by rw [hin]; decide), hcl, ← hV]
    rw [e1] at B
    have hk10 : V.1 ≤ 10 := by rw [hV]; exact (aok_at hok hj).1
    have at55 : ∀ b : Bool, (b = true ↔ (V.1 = 2 ∨ V.1 = 3 ∨ V.1 = 4 ∨ V.1 = 10)) → J X 3 [MF m r th (nI tape.length) (nI out.length) (nI us.length) (nI R.length) (nI nb) pkd (nI pg) cm fu op (nI cd) (nI pl) at_ bgc got pr, BA X.1 (r 1) tape, BA X.1 (r 3) out, BA X.1 (r 18) [], BA X.1 (r 19) [], TB X.1 r us zs R nb mk, GS X.1 r gs, OD X.1 r [], PL X.1 r [], F] 0 0 55 [some (.ref m), some (.int (nI j)), some (.int (bI b))] [] := by
      intro b hb
      refine j_aload_n E 56 dX8_number__55 0 rfl rfl rfl ?_
      refine j_aload_n E 57 dX8_number__56 0 rfl rfl rfl ?_
      refine j_iload_n E 58 dX8_number__57 1 rfl rfl rfl ?_
      refine j_callV E (c_m_isValue hG (d-1) m r (nI j) us.length hk9.2.2.1) 61 dX8_number__58 _ _ _ iv_X8_131 rfl rfl rfl (by repeat (first | with_reducible exact pick_0 | with_reducible apply pick_s | exact sel_0 | apply sel_s)) (by omega) (by omega) (by omega) (Nat.le_of_ble_eq_true rfl) rfl ?_
      rintro _ _ _ _ ⟨rfl, rfl, rfl, rfl⟩
      dsimp only [List.cons_append, List.nil_append, Option.toList]
      rw [hin]
      refine j_if_ne E 68 64 dX8_number__61 (by decide) rfl (fun h61 => ?_) (fun h61 => ?_)
      · rcases b with _ | _
        · rw [if_pos (fun y => absurd (hb.mpr y) (by decide))] at B
          dsimp only at B
          refine j_iload_n E 69 dX8_number__68 2 rfl rfl rfl ?_
          refine j_if_ne E 76 72 dX8_number__69 (by decide) rfl (fun h69 => ?_) (fun h69 => ?_)
          · exact absurd rfl h69
          · refine j_iconst E (2) 73 dX8_number__72 (by decide) rfl ?_
            refine j_goto E 90 dX8_number__73 (by decide) ?_
            refine j_putf E 93 dX8_number__90 fl_X8_71 (by repeat (first | with_reducible exact pick_0 | with_reducible apply pick_s)) rfl rfl (Nat.le_of_ble_eq_true rfl) rfl ?_
            dsimp only [List.set]
            refine j_aload_n E 94 dX8_number__93 0 rfl rfl rfl ?_
            refine j_getf E 97 dX8_number__94 fl_X8_71 (by repeat (first | with_reducible exact pick_0 | with_reducible apply pick_s)) (by rfl) rfl ?_
            refine j_if_le E 104 100 dX8_number__97 (by decide) rfl (fun h97 => ?_) (fun h97 => ?_)
            · exact absurd h97 (by decide)
            · refine j_lconst E 0 101 dX8_number__100 rfl rfl ?_
              refine j_goto E 110 dX8_number__101 (by decide) ?_
              refine mga_close r 2 np cd pl pg (pm + 3001) (by repeat (first | with_reducible exact pick_0 | with_reducible apply pick_s | exact sel_0 | apply sel_s)) ?_ ⟨hgd, hRl, hmk, by omega⟩ ?_
              · exact ⟨rfl, rfl, rfl, rfl, rfl, rfl, rfl, rfl, rfl⟩
              · exact j_lret E B rfl 0 0 dX8_number__110 (by repeat (first | with_reducible exact pick_0 | with_reducible apply pick_s | exact sel_0 | apply sel_s)) ⟨rfl, rfl, rfl, rfl⟩ (by omega) (by omega) (by omega) (by omega)
        · rw [if_neg (fun y => y (hb.mp rfl))] at B
          refine j_iload_n E 69 dX8_number__68 2 rfl rfl rfl ?_
          refine j_if_ne E 76 72 dX8_number__69 (by decide) rfl (fun h69 => ?_) (fun h69 => ?_)
          · refine j_aload_n E 77 dX8_number__76 0 rfl rfl rfl ?_
            refine j_getf E 80 dX8_number__77 fl_X8_25 (by repeat (first | with_reducible exact pick_0 | with_reducible apply pick_s)) (by rfl) rfl ?_
            refine j_iload_n E 81 dX8_number__80 1 rfl rfl rfl ?_
            refine j_tbH E 82 dX8_number__81 (by repeat (first | with_reducible exact pick_0 | with_reducible apply pick_s)) hj rfl ?_
            rw [← hV]
            by_cases hh : V.1 = 2 ∧ V.2.2.1 = 1
            · rw [if_pos hh] at B ⊢
              dsimp only at B
              refine j_if_eq E 89 85 dX8_number__82 (by decide) rfl (fun h82 => ?_) (fun h82 => ?_)
              · exact absurd h82 (by decide)
              · refine j_iconst E (3) 86 dX8_number__85 (by decide) rfl ?_
                refine j_goto E 90 dX8_number__86 (by decide) ?_
                refine j_putf E 93 dX8_number__90 fl_X8_71 (by repeat (first | with_reducible exact pick_0 | with_reducible apply pick_s)) rfl rfl (Nat.le_of_ble_eq_true rfl) rfl ?_
                dsimp only [List.set]
                refine j_aload_n E 94 dX8_number__93 0 rfl rfl rfl ?_
                refine j_getf E 97 dX8_number__94 fl_X8_71 (by repeat (first | with_reducible exact pick_0 | with_reducible apply pick_s)) (by rfl) rfl ?_
                refine j_if_le E 104 100 dX8_number__97 (by decide) rfl (fun h97 => ?_) (fun h97 => ?_)
                · exact absurd h97 (by decide)
                · refine j_lconst E 0 101 dX8_number__100 rfl rfl ?_
                  refine j_goto E 110 dX8_number__101 (by decide) ?_
                  refine mga_close r 3 np cd pl pg (pm + 3001) (by repeat (first | with_reducible exact pick_0 | with_reducible apply pick_s | exact sel_0 | apply sel_s)) ?_ ⟨hgd, hRl, hmk, by omega⟩ ?_
                  · exact ⟨rfl, rfl, rfl, rfl, rfl, rfl, rfl, rfl, rfl⟩
                  · exact j_lret E B rfl 0 0 dX8_number__110 (by repeat (first | with_reducible exact pick_0 | with_reducible apply pick_s | exact sel_0 | apply sel_s)) ⟨rfl, rfl, rfl, rfl⟩ (by omega) (by omega) (by omega) (by omega)
            · rw [if_neg hh] at B ⊢
              dsimp only at B
              refine j_if_eq E 89 85 dX8_number__82 (by decide) rfl (fun h82 => ?_) (fun h82 => ?_)
              · refine j_iconst E (0) 90 dX8_number__89 (by decide) rfl ?_
                refine j_putf E 93 dX8_number__90 fl_X8_71 (by repeat (first | with_reducible exact pick_0 | with_reducible apply pick_s)) rfl rfl (Nat.le_of_ble_eq_true rfl) rfl ?_
                dsimp only [List.set]
                refine j_aload_n E 94 dX8_number__93 0 rfl rfl rfl ?_
                refine j_getf E 97 dX8_number__94 fl_X8_71 (by repeat (first | with_reducible exact pick_0 | with_reducible apply pick_s)) (by rfl) rfl ?_
                refine j_if_le E 104 100 dX8_number__97 (by decide) rfl (fun h97 => ?_) (fun h97 => ?_)
                · refine j_aload_n E 105 dX8_number__104 0 rfl rfl rfl ?_
                  refine j_getf E 108 dX8_number__105 fl_X8_21 (by repeat (first | with_reducible exact pick_0 | with_reducible apply pick_s)) (by rfl) rfl ?_
                  refine j_iload_n E 109 dX8_number__108 1 rfl rfl rfl ?_
                  refine j_tbN E 110 dX8_number__109 (by repeat (first | with_reducible exact pick_0 | with_reducible apply pick_s)) hj rfl ?_
                  rw [← hV]
                  refine mga_close r 0 np cd pl pg (pm + 3001) (by repeat (first | with_reducible exact pick_0 | with_reducible apply pick_s | exact sel_0 | apply sel_s)) ?_ ⟨hgd, hRl, hmk, by omega⟩ ?_
                  · exact ⟨rfl, rfl, rfl, rfl, rfl, rfl, rfl, rfl, rfl⟩
                  · exact j_lret E B rfl 0 0 dX8_number__110 (by repeat (first | with_reducible exact pick_0 | with_reducible apply pick_s | exact sel_0 | apply sel_s)) ⟨rfl, rfl, rfl, rfl⟩ (by omega) (by omega) (by omega) (by omega)
                · exact absurd (by decide) h97
              · exact absurd rfl h82
          · exact absurd h69 (by decide)
      · exact absurd h61 (by decide)
    have yes : (V.1 = 2 ∨ V.1 = 3 ∨ V.1 = 4 ∨ V.1 = 10) → J X 3 [MF m r th (nI tape.length) (nI out.length) (nI us.length) (nI R.length) (nI nb) pkd (nI pg) cm fu op (nI cd) (nI pl) at_ bgc got pr, BA X.1 (r 1) tape, BA X.1 (r 3) out, BA X.1 (r 18) [], BA X.1 (r 19) [], TB X.1 r us zs R nb mk, GS X.1 r gs, OD X.1 r [], PL X.1 r [], F] 0 0 49 [some (.ref m), some (.int (nI j)), none] [] := by
      intro hy
      refine j_iconst E (1) 50 dX8_number__49 (by decide) rfl ?_
      refine j_goto E 54 dX8_number__50 (by decide) ?_
      refine j_istore_n E 55 dX8_number__54 2 rfl (Nat.le_of_ble_eq_true rfl) rfl rfl ?_
      dsimp only [List.set]
      exact at55 true ⟨fun _ => hy, fun _ => rfl⟩
    refine j_if_eq E 53 8 dX8_number__5 (by decide) rfl (fun h5 => ?_) (fun h5 => ?_)
    · exact absurd h5 (by decide)
    · refine j_aload_n E 9 dX8_number__8 0 rfl rfl rfl ?_
      refine j_getf E 12 dX8_number__9 fl_X8_17 (by repeat (first | with_reducible exact pick_0 | with_reducible apply pick_s)) (by rfl) rfl ?_
      refine j_iload_n E 13 dX8_number__12 1 rfl rfl rfl ?_
      refine j_tbK E 14 dX8_number__13 (by repeat (first | with_reducible exact pick_0 | with_reducible apply pick_s)) hj rfl ?_
      rw [← hV]
      refine j_iconst E (2) 15 dX8_number__14 (by decide) rfl ?_
      refine j_icmp_eq E 49 18 dX8_number__15 (by decide) rfl (fun h15 => ?_) (fun h15 => ?_)
      · exact j_sel (by repeat (first | with_reducible exact pick_0 | with_reducible apply pick_s | exact sel_0 | apply sel_s)) (yes (Or.inl ((nI_eq (b := 2) (by omega) (by decide)).mp h15)))
      · refine j_aload_n E 19 dX8_number__18 0 rfl rfl rfl ?_
        refine j_getf E 22 dX8_number__19 fl_X8_17 (by repeat (first | with_reducible exact pick_0 | with_reducible apply pick_s)) (by rfl) rfl ?_
        refine j_iload_n E 23 dX8_number__22 1 rfl rfl rfl ?_
        refine j_tbK E 24 dX8_number__23 (by repeat (first | with_reducible exact pick_0 | with_reducible apply pick_s)) hj rfl ?_
        rw [← hV]
        refine j_iconst E (3) 25 dX8_number__24 (by decide) rfl ?_
        refine j_icmp_eq E 49 28 dX8_number__25 (by decide) rfl (fun h25 => ?_) (fun h25 => ?_)
        · exact j_sel (by repeat (first | with_reducible exact pick_0 | with_reducible apply pick_s | exact sel_0 | apply sel_s)) (yes (Or.inr (Or.inl ((nI_eq (b := 3) (by omega) (by decide)).mp h25))))
        · refine j_aload_n E 29 dX8_number__28 0 rfl rfl rfl ?_
          refine j_getf E 32 dX8_number__29 fl_X8_17 (by repeat (first | with_reducible exact pick_0 | with_reducible apply pick_s)) (by rfl) rfl ?_
          refine j_iload_n E 33 dX8_number__32 1 rfl rfl rfl ?_
          refine j_tbK E 34 dX8_number__33 (by repeat (first | with_reducible exact pick_0 | with_reducible apply pick_s)) hj rfl ?_
          rw [← hV]
          refine j_iconst E (4) 35 dX8_number__34 (by decide) rfl ?_
          refine j_icmp_eq E 49 38 dX8_number__35 (by decide) rfl (fun h35 => ?_) (fun h35 => ?_)
          · exact j_sel (by repeat (first | with_reducible exact pick_0 | with_reducible apply pick_s | exact sel_0 | apply sel_s)) (yes (Or.inr (Or.inr (Or.inl ((nI_eq (b := 4) (by omega) (by decide)).mp h35)))))
          · refine j_aload_n E 39 dX8_number__38 0 rfl rfl rfl ?_
            refine j_getf E 42 dX8_number__39 fl_X8_17 (by repeat (first | with_reducible exact pick_0 | with_reducible apply pick_s)) (by rfl) rfl ?_
            refine j_iload_n E 43 dX8_number__42 1 rfl rfl rfl ?_
            refine j_tbK E 44 dX8_number__43 (by repeat (first | with_reducible exact pick_0 | with_reducible apply pick_s)) hj rfl ?_
            rw [← hV]
            refine j_bipush E (10) 46 dX8_number__44 (by decide) rfl ?_
            refine j_icmp_ne E 53 49 dX8_number__46 (by decide) rfl (fun h46 => ?_) (fun h46 => ?_)
            · refine j_iconst E (0) 54 dX8_number__53 (by decide) rfl ?_
              refine j_istore_n E 55 dX8_number__54 2 rfl (Nat.le_of_ble_eq_true rfl) rfl rfl ?_
              dsimp only [List.set]
              refine j_sel (by repeat (first | with_reducible exact pick_0 | with_reducible apply pick_s | exact sel_0 | apply sel_s)) (at55 false ⟨fun y => absurd y (by decide), fun y => ?_⟩)
              exfalso
              rcases y with y | y | y | y
              · exact h15 (by rw [y]; rfl)
              · exact h25 (by rw [y]; rfl)
              · exact h35 (by rw [y]; rfl)
              · exact h46 (by rw [y]; rfl)
            · refine j_iconst E (1) 50 dX8_number__49 (by decide) rfl ?_
              refine j_goto E 54 dX8_number__50 (by decide) ?_
              refine j_istore_n E 55 dX8_number__54 2 rfl (Nat.le_of_ble_eq_true rfl) rfl rfl ?_
              dsimp only [List.set]
              exact j_sel (by repeat (first | with_reducible exact pick_0 | with_reducible apply pick_s | exact sel_0 | apply sel_s)) (at55 true ⟨fun _ => Or.inr (Or.inr (Or.inr ((nI_eq (b := 10) (by omega) (by decide)).mp h46))), fun _ => rfl⟩)

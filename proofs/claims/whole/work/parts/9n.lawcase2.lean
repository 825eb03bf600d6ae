/-! the law: its cases, on -/
set_option maxHeartbeats 8000000 in
theorem lw_shown {X : XT} {z : Nat → Nat} (hA : GA X.1 z) (h4 : GLB4 X.1) (E : JE X RL cL_law 8 2048 600384 7289322) {b L i c x m ob P Q pm k n : Nat} {xs : Nat → Int32} {S : AS} {th : Int32} {f : Nat → Int64} (hT : OT X.1 .int b L (fun j => .int (xs j))) (hL : L ≤ 384) (hi : i + 6 ≤ L) (hc : c < 64) (hok : AOk S) (hP : P ≤ 9100000) (hQ : Q ≤ 1500000) (hLS : RMC c S.1.length P Q pm k n) (kk : KK X z b x m ob i (c + 1)) : J X 8 [PGA X.1 z x S P Q, MGA X.1 m th S pm, pt ob (aJ X.1 1 f)] k n 473 [some (.ref b), some (.ref x), some (.ref m), some (.ref ob), some (.int (nI i)), none, none, none] [] := by
  obtain ⟨tape, us, np, nb, out, cd, pl⟩ := S
  have hls := hLS
  obtain ⟨l1, l2, l3, l4⟩ := hls
  dsimp only at l1
  obtain ⟨T, hT9⟩ : ∃ T, T = (sShown (xs (i + 1)) (tape, us, np, nb, out, cd, pl)) := ⟨_, rfl⟩
  have hln : LNt (tape, us, np, nb, out, cd, pl) (sShown (xs (i + 1)) (tape, us, np, nb, out, cd, pl)).2.2 := ln_shown
  have K1 := c_L_shown hA h4 2047 40000 (1726880 - Q) x ob P Q f (xs (i + 1)) (tape, us, np, nb, out, cd, pl) (by decide) (by dsimp only; omega) (by dsimp only; omega)
  have K2 := c_mg_shown hA.1 2047 m th tape us np nb out cd pl pm (xs (i + 1)) (by decide)
  rw [← hT9] at K1 K2 hln
  clear hT9
  obtain ⟨c0, v0, t9, us9, np9, nb9, out9, cd9, pl9⟩ := T
  dsimp only at K1 K2 hln
  refine j_aload_n E 474 dL_law_473 1 rfl rfl rfl ?_
  refine j_scr E hT 480 1 dL_law_474 dL_law_475 dL_law_477 dL_law_478 dL_law_479 (by decide) rfl rfl rfl (by omega) hL ?_
  refine j_aload_n E 481 dL_law_480 3 rfl rfl rfl ?_
  refine j_callSH E K1 484 dL_law_481 sv_L_shown rfl rfl (by repeat (first | with_reducible exact pick_0 | with_reducible apply pick_s | exact sel_0 | apply sel_s)) (by decide) (by omega) (by omega) (Nat.le_of_ble_eq_true rfl) rfl ?_
  rintro o dc ds ws' ⟨P', Q', f', rfl, h3, hf, rfl, hb1, hb2, hb3, hb4⟩
  dsimp only [List.cons_append, List.nil_append, Option.toList]
  dsimp only at h3 hf
  refine j_istore E 486 dL_law_484 (Nat.le_of_ble_eq_true rfl) rfl rfl ?_
  dsimp only [List.set]
  refine j_aload_n E 487 dL_law_486 2 rfl rfl rfl ?_
  refine j_scr E hT 493 1 dL_law_487 dL_law_488 dL_law_490 dL_law_491 dL_law_492 (by decide) rfl rfl rfl (by omega) hL ?_
  refine j_callV E K2 496 dL_law_493 _ _ _ iv_L_127 rfl rfl rfl (by repeat (first | with_reducible exact pick_0 | with_reducible apply pick_s | exact sel_0 | apply sel_s)) (by decide) (by omega) (by omega) (Nat.le_of_ble_eq_true rfl) rfl ?_
  rintro _ _ _ _ ⟨rfl, rfl, rfl, rfl⟩
  dsimp only [List.cons_append, List.nil_append, Option.toList]
  refine j_istore E 498 dL_law_496 (Nat.le_of_ble_eq_true rfl) rfl rfl ?_
  dsimp only [List.set]
  refine j_aload_n E 499 dL_law_498 2 rfl rfl rfl ?_
  refine j_callV E (c_mg_thrown hA.1 2047 m c0 (pm + 3001) t9 us9 np9 nb9 out9 cd9 pl9) 502 dL_law_499 _ _ _ iv_L_104 rfl rfl rfl (by repeat (first | with_reducible exact pick_0 | with_reducible apply pick_s | exact sel_0 | apply sel_s)) (by decide) (by omega) (by omega) (Nat.le_of_ble_eq_true rfl) rfl ?_
  rintro _ _ _ _ ⟨rfl, rfl, rfl, rfl⟩
  dsimp only [List.cons_append, List.nil_append, Option.toList]
  refine j_iload E 504 dL_law_502 rfl rfl ?_
  refine j_icmp_eq E 509 507 dL_law_504 (by decide) rfl (fun _ => ?_) (fun h => absurd rfl h)
  refine j_iload E 511 dL_law_509 rfl rfl ?_
  refine j_if_ne E 526 514 dL_law_511 (by decide) rfl (fun _ => ?_) (fun h0 => ?_)
  · refine j_goto E 1696 dL_law_526 (by decide) ?_
    refine j_forget 5 ?_
    refine j_forget 6 ?_
    dsimp only [List.set]
    refine j_sel (pre := [PGA X.1 z x (t9, us9, np9, nb9, out9, cd9, pl9) P' Q', MGA X.1 m (nI c0) (t9, us9, np9, nb9, out9, cd9, pl9) (pm + 3001), pt ob (aJ X.1 1 f')]) (by repeat (first | with_reducible exact pick_0 | with_reducible apply pick_s | exact sel_0 | apply sel_s)) ?_
    exact kk (t9, us9, np9, nb9, out9, cd9, pl9) P' Q' _ _ _ _ _ (ls_step (dc := dc) (ds := ds) (M := 40000) (N := 1726880 - Q) hLS hc ⟨hb1, hb2, hb3, hb4⟩ hln)
  have e0 : c0 = 0 := (nI_eq (b := 0) (by omega) (by decide)).mp h0
  refine j_aload_n E 515 dL_law_514 3 rfl rfl rfl ?_
  refine j_iconst E (0) 516 dL_law_515 (by decide) rfl ?_
  refine j_lald E 517 dL_law_516 (by repeat (first | with_reducible exact pick_0 | with_reducible apply pick_s)) vp_in01 rfl ?_
  refine j_eql (y := v0.toInt64) (by rw [clamp0]; exact hf e0) ?_
  refine j_iload E 519 dL_law_517 rfl rfl ?_
  refine j_i2l E 520 dL_law_519 rfl ?_
  refine j_lcmp E 521 dL_law_520 rfl ?_
  refine j_eqi (y := 0) ((lg_cmp_eq _ _).mpr rfl) ?_
  refine j_if_eq E 526 524 dL_law_521 (by decide) rfl (fun _ => ?_) (fun h => absurd rfl h)
  refine j_goto E 1696 dL_law_526 (by decide) ?_
  refine j_forget 5 ?_
  refine j_forget 6 ?_
  dsimp only [List.set]
  refine j_sel (pre := [PGA X.1 z x (t9, us9, np9, nb9, out9, cd9, pl9) P' Q', MGA X.1 m (nI c0) (t9, us9, np9, nb9, out9, cd9, pl9) (pm + 3001), pt ob (aJ X.1 1 f')]) (by repeat (first | with_reducible exact pick_0 | with_reducible apply pick_s | exact sel_0 | apply sel_s)) ?_
  exact kk (t9, us9, np9, nb9, out9, cd9, pl9) P' Q' _ _ _ _ _ (ls_step (dc := dc) (ds := ds) (M := 40000) (N := 1726880 - Q) hLS hc ⟨hb1, hb2, hb3, hb4⟩ hln)
set_option maxHeartbeats 8000000 in
theorem lw_nil {X : XT} {z : Nat → Nat} (hA : GA X.1 z) (h4 : GLB4 X.1) (E : JE X RL cL_law 8 2048 600384 7289322) {b L i c x m ob P Q pm k n : Nat} {xs : Nat → Int32} {S : AS} {th : Int32} {f : Nat → Int64} (hT : OT X.1 .int b L (fun j => .int (xs j))) (hL : L ≤ 384) (hi : i + 6 ≤ L) (hc : c < 64) (hok : AOk S) (hP : P ≤ 9100000) (hQ : Q ≤ 1500000) (hLS : RMC c S.1.length P Q pm k n) (kk : KK X z b x m ob i (c + 1)) : J X 8 [PGA X.1 z x S P Q, MGA X.1 m th S pm, pt ob (aJ X.1 1 f)] k n 529 [some (.ref b), some (.ref x), some (.ref m), some (.ref ob), some (.int (nI i)), none, none, none] [] := by
  obtain ⟨tape, us, np, nb, out, cd, pl⟩ := S
  have hls := hLS
  obtain ⟨l1, l2, l3, l4⟩ := hls
  dsimp only at l1
  obtain ⟨T, hT9⟩ : ∃ T, T = (sKeep 0 0 0 1 (tape, us, np, nb, out, cd, pl)) := ⟨_, rfl⟩
  have hln : LNt (tape, us, np, nb, out, cd, pl) (sKeep 0 0 0 1 (tape, us, np, nb, out, cd, pl)).2.2 := ln_nil
  have K1 := c_L_nil hA h4 2047 40000 (1726880 - Q) x ob P Q f  (tape, us, np, nb, out, cd, pl) (by decide) (by dsimp only; omega) (by dsimp only; omega)
  have K2 := c_mg_nil hA.1 2047 m th tape us np nb out cd pl pm  (by decide)
  rw [← hT9] at K1 K2 hln
  clear hT9
  obtain ⟨c0, v0, t9, us9, np9, nb9, out9, cd9, pl9⟩ := T
  dsimp only at K1 K2 hln
  refine j_aload_n E 530 dL_law_529 1 rfl rfl rfl ?_
  refine j_aload_n E 531 dL_law_530 3 rfl rfl rfl ?_
  refine j_callSH E K1 534 dL_law_531 sv_L_nil rfl rfl (by repeat (first | with_reducible exact pick_0 | with_reducible apply pick_s | exact sel_0 | apply sel_s)) (by decide) (by omega) (by omega) (Nat.le_of_ble_eq_true rfl) rfl ?_
  rintro o dc ds ws' ⟨P', Q', f', rfl, h3, hf, rfl, hb1, hb2, hb3, hb4⟩
  dsimp only [List.cons_append, List.nil_append, Option.toList]
  dsimp only at h3 hf
  refine j_istore E 536 dL_law_534 (Nat.le_of_ble_eq_true rfl) rfl rfl ?_
  dsimp only [List.set]
  refine j_aload_n E 537 dL_law_536 2 rfl rfl rfl ?_
  refine j_callV E K2 540 dL_law_537 _ _ _ iv_L_131 rfl rfl rfl (by repeat (first | with_reducible exact pick_0 | with_reducible apply pick_s | exact sel_0 | apply sel_s)) (by decide) (by omega) (by omega) (Nat.le_of_ble_eq_true rfl) rfl ?_
  rintro _ _ _ _ ⟨rfl, rfl, rfl, rfl⟩
  dsimp only [List.cons_append, List.nil_append, Option.toList]
  refine j_istore E 542 dL_law_540 (Nat.le_of_ble_eq_true rfl) rfl rfl ?_
  dsimp only [List.set]
  refine j_aload_n E 543 dL_law_542 2 rfl rfl rfl ?_
  refine j_callV E (c_mg_thrown hA.1 2047 m c0 (pm + 3001) t9 us9 np9 nb9 out9 cd9 pl9) 546 dL_law_543 _ _ _ iv_L_104 rfl rfl rfl (by repeat (first | with_reducible exact pick_0 | with_reducible apply pick_s | exact sel_0 | apply sel_s)) (by decide) (by omega) (by omega) (Nat.le_of_ble_eq_true rfl) rfl ?_
  rintro _ _ _ _ ⟨rfl, rfl, rfl, rfl⟩
  dsimp only [List.cons_append, List.nil_append, Option.toList]
  refine j_iload E 548 dL_law_546 rfl rfl ?_
  refine j_icmp_eq E 553 551 dL_law_548 (by decide) rfl (fun _ => ?_) (fun h => absurd rfl h)
  refine j_iload E 555 dL_law_553 rfl rfl ?_
  refine j_if_ne E 570 558 dL_law_555 (by decide) rfl (fun _ => ?_) (fun h0 => ?_)
  · refine j_goto E 1696 dL_law_570 (by decide) ?_
    refine j_forget 5 ?_
    refine j_forget 6 ?_
    dsimp only [List.set]
    refine j_sel (pre := [PGA X.1 z x (t9, us9, np9, nb9, out9, cd9, pl9) P' Q', MGA X.1 m (nI c0) (t9, us9, np9, nb9, out9, cd9, pl9) (pm + 3001), pt ob (aJ X.1 1 f')]) (by repeat (first | with_reducible exact pick_0 | with_reducible apply pick_s | exact sel_0 | apply sel_s)) ?_
    exact kk (t9, us9, np9, nb9, out9, cd9, pl9) P' Q' _ _ _ _ _ (ls_step (dc := dc) (ds := ds) (M := 40000) (N := 1726880 - Q) hLS hc ⟨hb1, hb2, hb3, hb4⟩ hln)
  have e0 : c0 = 0 := (nI_eq (b := 0) (by omega) (by decide)).mp h0
  refine j_aload_n E 559 dL_law_558 3 rfl rfl rfl ?_
  refine j_iconst E (0) 560 dL_law_559 (by decide) rfl ?_
  refine j_lald E 561 dL_law_560 (by repeat (first | with_reducible exact pick_0 | with_reducible apply pick_s)) vp_in01 rfl ?_
  refine j_eql (y := v0.toInt64) (by rw [clamp0]; exact hf e0) ?_
  refine j_iload E 563 dL_law_561 rfl rfl ?_
  refine j_i2l E 564 dL_law_563 rfl ?_
  refine j_lcmp E 565 dL_law_564 rfl ?_
  refine j_eqi (y := 0) ((lg_cmp_eq _ _).mpr rfl) ?_
  refine j_if_eq E 570 568 dL_law_565 (by decide) rfl (fun _ => ?_) (fun h => absurd rfl h)
  refine j_goto E 1696 dL_law_570 (by decide) ?_
  refine j_forget 5 ?_
  refine j_forget 6 ?_
  dsimp only [List.set]
  refine j_sel (pre := [PGA X.1 z x (t9, us9, np9, nb9, out9, cd9, pl9) P' Q', MGA X.1 m (nI c0) (t9, us9, np9, nb9, out9, cd9, pl9) (pm + 3001), pt ob (aJ X.1 1 f')]) (by repeat (first | with_reducible exact pick_0 | with_reducible apply pick_s | exact sel_0 | apply sel_s)) ?_
  exact kk (t9, us9, np9, nb9, out9, cd9, pl9) P' Q' _ _ _ _ _ (ls_step (dc := dc) (ds := ds) (M := 40000) (N := 1726880 - Q) hLS hc ⟨hb1, hb2, hb3, hb4⟩ hln)
set_option maxHeartbeats 8000000 in
theorem lw_truth {X : XT} {z : Nat → Nat} (hA : GA X.1 z) (h4 : GLB4 X.1) (E : JE X RL cL_law 8 2048 600384 7289322) {b L i c x m ob P Q pm k n : Nat} {xs : Nat → Int32} {S : AS} {th : Int32} {f : Nat → Int64} (hT : OT X.1 .int b L (fun j => .int (xs j))) (hL : L ≤ 384) (hi : i + 6 ≤ L) (hc : c < 64) (hok : AOk S) (hP : P ≤ 9100000) (hQ : Q ≤ 1500000) (hLS : RMC c S.1.length P Q pm k n) (kk : KK X z b x m ob i (c + 1)) : J X 8 [PGA X.1 z x S P Q, MGA X.1 m th S pm, pt ob (aJ X.1 1 f)] k n 573 [some (.ref b), some (.ref x), some (.ref m), some (.ref ob), some (.int (nI i)), none, none, none] [] := by
  obtain ⟨tape, us, np, nb, out, cd, pl⟩ := S
  have hls := hLS
  obtain ⟨l1, l2, l3, l4⟩ := hls
  dsimp only at l1
  obtain ⟨hb, hhb⟩ : ∃ y : Bool, y = decide (¬ (xs (i + 1)) = 0) := ⟨_, rfl⟩
  obtain ⟨T, hT9⟩ : ∃ T, T = (sKeep 1 0 (bI hb) 1 (tape, us, np, nb, out, cd, pl)) := ⟨_, rfl⟩
  have hln : LNt (tape, us, np, nb, out, cd, pl) (sKeep 1 0 (bI hb) 1 (tape, us, np, nb, out, cd, pl)).2.2 := ln_truth
  have K1 := c_L_truth hA h4 2047 40000 (1726880 - Q) x ob P Q f hb (tape, us, np, nb, out, cd, pl) (by decide) (by dsimp only; omega) (by dsimp only; omega)
  have K2 := c_mg_truth hA.1 2047 m th tape us np nb out cd pl pm hb (by decide)
  rw [← hT9] at K1 K2 hln
  clear hT9
  obtain ⟨c0, v0, t9, us9, np9, nb9, out9, cd9, pl9⟩ := T
  dsimp only at K1 K2 hln
  refine j_aload_n E 574 dL_law_573 1 rfl rfl rfl ?_
  refine j_scr E hT 580 1 dL_law_574 dL_law_575 dL_law_577 dL_law_578 dL_law_579 (by decide) rfl rfl rfl (by omega) hL ?_
  refine j_ne0 E 588 hhb dL_law_580 dL_law_583 dL_law_584 dL_law_587 rfl ?_
  refine j_aload_n E 589 dL_law_588 3 rfl rfl rfl ?_
  refine j_callSH E K1 592 dL_law_589 sv_L_truth rfl rfl (by repeat (first | with_reducible exact pick_0 | with_reducible apply pick_s | exact sel_0 | apply sel_s)) (by decide) (by omega) (by omega) (Nat.le_of_ble_eq_true rfl) rfl ?_
  rintro o dc ds ws' ⟨P', Q', f', rfl, h3, hf, rfl, hb1, hb2, hb3, hb4⟩
  dsimp only [List.cons_append, List.nil_append, Option.toList]
  dsimp only at h3 hf
  refine j_istore E 594 dL_law_592 (Nat.le_of_ble_eq_true rfl) rfl rfl ?_
  dsimp only [List.set]
  refine j_aload_n E 595 dL_law_594 2 rfl rfl rfl ?_
  refine j_scr E hT 601 1 dL_law_595 dL_law_596 dL_law_598 dL_law_599 dL_law_600 (by decide) rfl rfl rfl (by omega) hL ?_
  refine j_ne0 E 609 hhb dL_law_601 dL_law_604 dL_law_605 dL_law_608 rfl ?_
  refine j_callV E K2 612 dL_law_609 _ _ _ iv_L_135 rfl rfl rfl (by repeat (first | with_reducible exact pick_0 | with_reducible apply pick_s | exact sel_0 | apply sel_s)) (by decide) (by omega) (by omega) (Nat.le_of_ble_eq_true rfl) rfl ?_
  rintro _ _ _ _ ⟨rfl, rfl, rfl, rfl⟩
  dsimp only [List.cons_append, List.nil_append, Option.toList]
  refine j_istore E 614 dL_law_612 (Nat.le_of_ble_eq_true rfl) rfl rfl ?_
  dsimp only [List.set]
  refine j_aload_n E 615 dL_law_614 2 rfl rfl rfl ?_
  refine j_callV E (c_mg_thrown hA.1 2047 m c0 (pm + 3001) t9 us9 np9 nb9 out9 cd9 pl9) 618 dL_law_615 _ _ _ iv_L_104 rfl rfl rfl (by repeat (first | with_reducible exact pick_0 | with_reducible apply pick_s | exact sel_0 | apply sel_s)) (by decide) (by omega) (by omega) (Nat.le_of_ble_eq_true rfl) rfl ?_
  rintro _ _ _ _ ⟨rfl, rfl, rfl, rfl⟩
  dsimp only [List.cons_append, List.nil_append, Option.toList]
  refine j_iload E 620 dL_law_618 rfl rfl ?_
  refine j_icmp_eq E 625 623 dL_law_620 (by decide) rfl (fun _ => ?_) (fun h => absurd rfl h)
  refine j_iload E 627 dL_law_625 rfl rfl ?_
  refine j_if_ne E 642 630 dL_law_627 (by decide) rfl (fun _ => ?_) (fun h0 => ?_)
  · refine j_goto E 1696 dL_law_642 (by decide) ?_
    refine j_forget 5 ?_
    refine j_forget 6 ?_
    dsimp only [List.set]
    refine j_sel (pre := [PGA X.1 z x (t9, us9, np9, nb9, out9, cd9, pl9) P' Q', MGA X.1 m (nI c0) (t9, us9, np9, nb9, out9, cd9, pl9) (pm + 3001), pt ob (aJ X.1 1 f')]) (by repeat (first | with_reducible exact pick_0 | with_reducible apply pick_s | exact sel_0 | apply sel_s)) ?_
    exact kk (t9, us9, np9, nb9, out9, cd9, pl9) P' Q' _ _ _ _ _ (ls_step (dc := dc) (ds := ds) (M := 40000) (N := 1726880 - Q) hLS hc ⟨hb1, hb2, hb3, hb4⟩ hln)
  have e0 : c0 = 0 := (nI_eq (b := 0) (by omega) (by decide)).mp h0
  refine j_aload_n E 631 dL_law_630 3 rfl rfl rfl ?_
  refine j_iconst E (0) 632 dL_law_631 (by decide) rfl ?_
  refine j_lald E 633 dL_law_632 (by repeat (first | with_reducible exact pick_0 | with_reducible apply pick_s)) vp_in01 rfl ?_
  refine j_eql (y := v0.toInt64) (by rw [clamp0]; exact hf e0) ?_
  refine j_iload E 635 dL_law_633 rfl rfl ?_
  refine j_i2l E 636 dL_law_635 rfl ?_
  refine j_lcmp E 637 dL_law_636 rfl ?_
  refine j_eqi (y := 0) ((lg_cmp_eq _ _).mpr rfl) ?_
  refine j_if_eq E 642 640 dL_law_637 (by decide) rfl (fun _ => ?_) (fun h => absurd rfl h)
  refine j_goto E 1696 dL_law_642 (by decide) ?_
  refine j_forget 5 ?_
  refine j_forget 6 ?_
  dsimp only [List.set]
  refine j_sel (pre := [PGA X.1 z x (t9, us9, np9, nb9, out9, cd9, pl9) P' Q', MGA X.1 m (nI c0) (t9, us9, np9, nb9, out9, cd9, pl9) (pm + 3001), pt ob (aJ X.1 1 f')]) (by repeat (first | with_reducible exact pick_0 | with_reducible apply pick_s | exact sel_0 | apply sel_s)) ?_
  exact kk (t9, us9, np9, nb9, out9, cd9, pl9) P' Q' _ _ _ _ _ (ls_step (dc := dc) (ds := ds) (M := 40000) (N := 1726880 - Q) hLS hc ⟨hb1, hb2, hb3, hb4⟩ hln)
set_option maxHeartbeats 8000000 in
theorem lw_integer {X : XT} {z : Nat → Nat} (hA : GA X.1 z) (h4 : GLB4 X.1) (E : JE X RL cL_law 8 2048 600384 7289322) {b L i c x m ob P Q pm k n : Nat} {xs : Nat → Int32} {S : AS} {th : Int32} {f : Nat → Int64} (hT : OT X.1 .int b L (fun j => .int (xs j))) (hL : L ≤ 384) (hi : i + 6 ≤ L) (hc : c < 64) (hok : AOk S) (hP : P ≤ 9100000) (hQ : Q ≤ 1500000) (hLS : RMC c S.1.length P Q pm k n) (kk : KK X z b x m ob i (c + 1)) : J X 8 [PGA X.1 z x S P Q, MGA X.1 m th S pm, pt ob (aJ X.1 1 f)] k n 645 [some (.ref b), some (.ref x), some (.ref m), some (.ref ob), some (.int (nI i)), none, none, none] [] := by
  obtain ⟨tape, us, np, nb, out, cd, pl⟩ := S
  have hls := hLS
  obtain ⟨l1, l2, l3, l4⟩ := hls
  dsimp only at l1
  obtain ⟨v, hv⟩ : ∃ v : Int64, v = ((xs (i + 1)).toInt64 <<< ((32 : Int32).toInt64 &&& 63)) ||| ((xs (i + 2)).toInt64 &&& 4294967295) := ⟨_, rfl⟩
  obtain ⟨hb, hhb⟩ : ∃ y : Bool, y = decide (¬ (xs (i + 3)) = 0) := ⟨_, rfl⟩
  obtain ⟨T, hT9⟩ : ∃ T, T = (sKeep 2 v (if hb = true ∧ v < 0 then 1 else 0) 1 (tape, us, np, nb, out, cd, pl)) := ⟨_, rfl⟩
  have hln : LNt (tape, us, np, nb, out, cd, pl) (sKeep 2 v (if hb = true ∧ v < 0 then 1 else 0) 1 (tape, us, np, nb, out, cd, pl)).2.2 := ln_integer
  have K1 := c_L_integer hA h4 2047 40000 (1726880 - Q) x ob P Q f v hb (tape, us, np, nb, out, cd, pl) (by decide) (by dsimp only; omega) (by dsimp only; omega)
  have K2 := c_mg_integer hA.1 2047 m th tape us np nb out cd pl pm v hb (by decide)
  rw [← hT9] at K1 K2 hln
  clear hT9
  obtain ⟨c0, v0, t9, us9, np9, nb9, out9, cd9, pl9⟩ := T
  dsimp only at K1 K2 hln
  refine j_aload_n E 646 dL_law_645 1 rfl rfl rfl ?_
  refine j_scr E hT 652 1 dL_law_646 dL_law_647 dL_law_649 dL_law_650 dL_law_651 (by decide) rfl rfl rfl (by omega) hL ?_
  refine j_i2l E 653 dL_law_652 rfl ?_
  refine j_bipush E (32) 655 dL_law_653 (by decide) rfl ?_
  refine j_lshl E 656 dL_law_655 rfl ?_
  refine j_scr E hT 662 2 dL_law_656 dL_law_657 dL_law_659 dL_law_660 dL_law_661 (by decide) rfl rfl rfl (by omega) hL ?_
  refine j_i2l E 663 dL_law_662 rfl ?_
  refine j_ldcL E _ 666 dL_law_663 kc_L_136 rfl ?_
  refine j_land E 667 dL_law_666 rfl ?_
  refine j_lor E 668 dL_law_667 rfl ?_
  refine j_eql hv.symm ?_
  refine j_scr E hT 674 3 dL_law_668 dL_law_669 dL_law_671 dL_law_672 dL_law_673 (by decide) rfl rfl rfl (by omega) hL ?_
  refine j_ne0 E 682 hhb dL_law_674 dL_law_677 dL_law_678 dL_law_681 rfl ?_
  refine j_aload_n E 683 dL_law_682 3 rfl rfl rfl ?_
  refine j_callSH E K1 686 dL_law_683 sv_L_integer rfl rfl (by repeat (first | with_reducible exact pick_0 | with_reducible apply pick_s | exact sel_0 | apply sel_s)) (by decide) (by omega) (by omega) (Nat.le_of_ble_eq_true rfl) rfl ?_
  rintro o dc ds ws' ⟨P', Q', f', rfl, h3, hf, rfl, hb1, hb2, hb3, hb4⟩
  dsimp only [List.cons_append, List.nil_append, Option.toList]
  dsimp only at h3 hf
  refine j_istore E 688 dL_law_686 (Nat.le_of_ble_eq_true rfl) rfl rfl ?_
  dsimp only [List.set]
  refine j_aload_n E 689 dL_law_688 2 rfl rfl rfl ?_
  refine j_scr E hT 695 1 dL_law_689 dL_law_690 dL_law_692 dL_law_693 dL_law_694 (by decide) rfl rfl rfl (by omega) hL ?_
  refine j_i2l E 696 dL_law_695 rfl ?_
  refine j_bipush E (32) 698 dL_law_696 (by decide) rfl ?_
  refine j_lshl E 699 dL_law_698 rfl ?_
  refine j_scr E hT 705 2 dL_law_699 dL_law_700 dL_law_702 dL_law_703 dL_law_704 (by decide) rfl rfl rfl (by omega) hL ?_
  refine j_i2l E 706 dL_law_705 rfl ?_
  refine j_ldcL E _ 709 dL_law_706 kc_L_136 rfl ?_
  refine j_land E 710 dL_law_709 rfl ?_
  refine j_lor E 711 dL_law_710 rfl ?_
  refine j_eql hv.symm ?_
  refine j_scr E hT 717 3 dL_law_711 dL_law_712 dL_law_714 dL_law_715 dL_law_716 (by decide) rfl rfl rfl (by omega) hL ?_
  refine j_ne0 E 725 hhb dL_law_717 dL_law_720 dL_law_721 dL_law_724 rfl ?_
  refine j_callV E K2 728 dL_law_725 _ _ _ iv_L_141 rfl rfl rfl (by repeat (first | with_reducible exact pick_0 | with_reducible apply pick_s | exact sel_0 | apply sel_s)) (by decide) (by omega) (by omega) (Nat.le_of_ble_eq_true rfl) rfl ?_
  rintro _ _ _ _ ⟨rfl, rfl, rfl, rfl⟩
  dsimp only [List.cons_append, List.nil_append, Option.toList]
  refine j_istore E 730 dL_law_728 (Nat.le_of_ble_eq_true rfl) rfl rfl ?_
  dsimp only [List.set]
  refine j_aload_n E 731 dL_law_730 2 rfl rfl rfl ?_
  refine j_callV E (c_mg_thrown hA.1 2047 m c0 (pm + 3001) t9 us9 np9 nb9 out9 cd9 pl9) 734 dL_law_731 _ _ _ iv_L_104 rfl rfl rfl (by repeat (first | with_reducible exact pick_0 | with_reducible apply pick_s | exact sel_0 | apply sel_s)) (by decide) (by omega) (by omega) (Nat.le_of_ble_eq_true rfl) rfl ?_
  rintro _ _ _ _ ⟨rfl, rfl, rfl, rfl⟩
  dsimp only [List.cons_append, List.nil_append, Option.toList]
  refine j_iload E 736 dL_law_734 rfl rfl ?_
  refine j_icmp_eq E 741 739 dL_law_736 (by decide) rfl (fun _ => ?_) (fun h => absurd rfl h)
  refine j_iload E 743 dL_law_741 rfl rfl ?_
  refine j_if_ne E 758 746 dL_law_743 (by decide) rfl (fun _ => ?_) (fun h0 => ?_)
  · refine j_goto E 1696 dL_law_758 (by decide) ?_
    refine j_forget 5 ?_
    refine j_forget 6 ?_
    dsimp only [List.set]
    refine j_sel (pre := [PGA X.1 z x (t9, us9, np9, nb9, out9, cd9, pl9) P' Q', MGA X.1 m (nI c0) (t9, us9, np9, nb9, out9, cd9, pl9) (pm + 3001), pt ob (aJ X.1 1 f')]) (by repeat (first | with_reducible exact pick_0 | with_reducible apply pick_s | exact sel_0 | apply sel_s)) ?_
    exact kk (t9, us9, np9, nb9, out9, cd9, pl9) P' Q' _ _ _ _ _ (ls_step (dc := dc) (ds := ds) (M := 40000) (N := 1726880 - Q) hLS hc ⟨hb1, hb2, hb3, hb4⟩ hln)
  have e0 : c0 = 0 := (nI_eq (b := 0) (by omega) (by decide)).mp h0
  refine j_aload_n E 747 dL_law_746 3 rfl rfl rfl ?_
  refine j_iconst E (0) 748 dL_law_747 (by decide) rfl ?_
  refine j_lald E 749 dL_law_748 (by repeat (first | with_reducible exact pick_0 | with_reducible apply pick_s)) vp_in01 rfl ?_
  refine j_eql (y := v0.toInt64) (by rw [clamp0]; exact hf e0) ?_
  refine j_iload E 751 dL_law_749 rfl rfl ?_
  refine j_i2l E 752 dL_law_751 rfl ?_
  refine j_lcmp E 753 dL_law_752 rfl ?_
  refine j_eqi (y := 0) ((lg_cmp_eq _ _).mpr rfl) ?_
  refine j_if_eq E 758 756 dL_law_753 (by decide) rfl (fun _ => ?_) (fun h => absurd rfl h)
  refine j_goto E 1696 dL_law_758 (by decide) ?_
  refine j_forget 5 ?_
  refine j_forget 6 ?_
  dsimp only [List.set]
  refine j_sel (pre := [PGA X.1 z x (t9, us9, np9, nb9, out9, cd9, pl9) P' Q', MGA X.1 m (nI c0) (t9, us9, np9, nb9, out9, cd9, pl9) (pm + 3001), pt ob (aJ X.1 1 f')]) (by repeat (first | with_reducible exact pick_0 | with_reducible apply pick_s | exact sel_0 | apply sel_s)) ?_
  exact kk (t9, us9, np9, nb9, out9, cd9, pl9) P' Q' _ _ _ _ _ (ls_step (dc := dc) (ds := ds) (M := 40000) (N := 1726880 - Q) hLS hc ⟨hb1, hb2, hb3, hb4⟩ hln)
set_option maxHeartbeats 8000000 in
theorem lw_real {X : XT} {z : Nat → Nat} (hA : GA X.1 z) (h4 : GLB4 X.1) (E : JE X RL cL_law 8 2048 600384 7289322) {b L i c x m ob P Q pm k n : Nat} {xs : Nat → Int32} {S : AS} {th : Int32} {f : Nat → Int64} (hT : OT X.1 .int b L (fun j => .int (xs j))) (hL : L ≤ 384) (hi : i + 6 ≤ L) (hc : c < 64) (hok : AOk S) (hP : P ≤ 9100000) (hQ : Q ≤ 1500000) (hLS : RMC c S.1.length P Q pm k n) (kk : KK X z b x m ob i (c + 1)) : J X 8 [PGA X.1 z x S P Q, MGA X.1 m th S pm, pt ob (aJ X.1 1 f)] k n 761 [some (.ref b), some (.ref x), some (.ref m), some (.ref ob), some (.int (nI i)), none, none, none] [] := by
  obtain ⟨tape, us, np, nb, out, cd, pl⟩ := S
  have hls := hLS
  obtain ⟨l1, l2, l3, l4⟩ := hls
  dsimp only at l1
  obtain ⟨v, hv⟩ : ∃ v : Int64, v = ((xs (i + 1)).toInt64 <<< ((32 : Int32).toInt64 &&& 63)) ||| ((xs (i + 2)).toInt64 &&& 4294967295) := ⟨_, rfl⟩
  obtain ⟨hb, hhb⟩ : ∃ y : Bool, y = decide (¬ (xs (i + 3)) = 0) := ⟨_, rfl⟩
  obtain ⟨T, hT9⟩ : ∃ T, T = (if hb = true then sKeep 4 v 0 1 (tape, us, np, nb, out, cd, pl) else sKeep 3 (v &&& 4294967295) 0 1 (tape, us, np, nb, out, cd, pl)) := ⟨_, rfl⟩
  have hln : LNt (tape, us, np, nb, out, cd, pl) (if hb = true then sKeep 4 v 0 1 (tape, us, np, nb, out, cd, pl) else sKeep 3 (v &&& 4294967295) 0 1 (tape, us, np, nb, out, cd, pl)).2.2 := ln_real
  have K1 := c_L_real hA h4 2047 40000 (1726880 - Q) x ob P Q f v hb (tape, us, np, nb, out, cd, pl) (by decide) (by dsimp only; omega) (by dsimp only; omega)
  have K2 := c_mg_real hA.1 2047 m th tape us np nb out cd pl pm v hb (by decide)
  rw [← hT9] at K1 K2 hln
  clear hT9
  obtain ⟨c0, v0, t9, us9, np9, nb9, out9, cd9, pl9⟩ := T
  dsimp only at K1 K2 hln
  refine j_aload_n E 762 dL_law_761 1 rfl rfl rfl ?_
  refine j_scr E hT 768 1 dL_law_762 dL_law_763 dL_law_765 dL_law_766 dL_law_767 (by decide) rfl rfl rfl (by omega) hL ?_
  refine j_i2l E 769 dL_law_768 rfl ?_
  refine j_bipush E (32) 771 dL_law_769 (by decide) rfl ?_
  refine j_lshl E 772 dL_law_771 rfl ?_
  refine j_scr E hT 778 2 dL_law_772 dL_law_773 dL_law_775 dL_law_776 dL_law_777 (by decide) rfl rfl rfl (by omega) hL ?_
  refine j_i2l E 779 dL_law_778 rfl ?_
  refine j_ldcL E _ 782 dL_law_779 kc_L_136 rfl ?_
  refine j_land E 783 dL_law_782 rfl ?_
  refine j_lor E 784 dL_law_783 rfl ?_
  refine j_eql hv.symm ?_
  refine j_scr E hT 790 3 dL_law_784 dL_law_785 dL_law_787 dL_law_788 dL_law_789 (by decide) rfl rfl rfl (by omega) hL ?_
  refine j_ne0 E 798 hhb dL_law_790 dL_law_793 dL_law_794 dL_law_797 rfl ?_
  refine j_aload_n E 799 dL_law_798 3 rfl rfl rfl ?_
  refine j_callSH E K1 802 dL_law_799 sv_L_real rfl rfl (by repeat (first | with_reducible exact pick_0 | with_reducible apply pick_s | exact sel_0 | apply sel_s)) (by decide) (by omega) (by omega) (Nat.le_of_ble_eq_true rfl) rfl ?_
  rintro o dc ds ws' ⟨P', Q', f', rfl, h3, hf, rfl, hb1, hb2, hb3, hb4⟩
  dsimp only [List.cons_append, List.nil_append, Option.toList]
  dsimp only at h3 hf
  refine j_istore E 804 dL_law_802 (Nat.le_of_ble_eq_true rfl) rfl rfl ?_
  dsimp only [List.set]
  refine j_aload_n E 805 dL_law_804 2 rfl rfl rfl ?_
  refine j_scr E hT 811 1 dL_law_805 dL_law_806 dL_law_808 dL_law_809 dL_law_810 (by decide) rfl rfl rfl (by omega) hL ?_
  refine j_i2l E 812 dL_law_811 rfl ?_
  refine j_bipush E (32) 814 dL_law_812 (by decide) rfl ?_
  refine j_lshl E 815 dL_law_814 rfl ?_
  refine j_scr E hT 821 2 dL_law_815 dL_law_816 dL_law_818 dL_law_819 dL_law_820 (by decide) rfl rfl rfl (by omega) hL ?_
  refine j_i2l E 822 dL_law_821 rfl ?_
  refine j_ldcL E _ 825 dL_law_822 kc_L_136 rfl ?_
  refine j_land E 826 dL_law_825 rfl ?_
  refine j_lor E 827 dL_law_826 rfl ?_
  refine j_eql hv.symm ?_
  refine j_scr E hT 833 3 dL_law_827 dL_law_828 dL_law_830 dL_law_831 dL_law_832 (by decide) rfl rfl rfl (by omega) hL ?_
  refine j_ne0 E 841 hhb dL_law_833 dL_law_836 dL_law_837 dL_law_840 rfl ?_
  refine j_callV E K2 844 dL_law_841 _ _ _ iv_L_144 rfl rfl rfl (by repeat (first | with_reducible exact pick_0 | with_reducible apply pick_s | exact sel_0 | apply sel_s)) (by decide) (by omega) (by omega) (Nat.le_of_ble_eq_true rfl) rfl ?_
  rintro _ _ _ _ ⟨rfl, rfl, rfl, rfl⟩
  dsimp only [List.cons_append, List.nil_append, Option.toList]
  refine j_istore E 846 dL_law_844 (Nat.le_of_ble_eq_true rfl) rfl rfl ?_
  dsimp only [List.set]
  refine j_aload_n E 847 dL_law_846 2 rfl rfl rfl ?_
  refine j_callV E (c_mg_thrown hA.1 2047 m c0 (pm + 3001) t9 us9 np9 nb9 out9 cd9 pl9) 850 dL_law_847 _ _ _ iv_L_104 rfl rfl rfl (by repeat (first | with_reducible exact pick_0 | with_reducible apply pick_s | exact sel_0 | apply sel_s)) (by decide) (by omega) (by omega) (Nat.le_of_ble_eq_true rfl) rfl ?_
  rintro _ _ _ _ ⟨rfl, rfl, rfl, rfl⟩
  dsimp only [List.cons_append, List.nil_append, Option.toList]
  refine j_iload E 852 dL_law_850 rfl rfl ?_
  refine j_icmp_eq E 857 855 dL_law_852 (by decide) rfl (fun _ => ?_) (fun h => absurd rfl h)
  refine j_iload E 859 dL_law_857 rfl rfl ?_
  refine j_if_ne E 874 862 dL_law_859 (by decide) rfl (fun _ => ?_) (fun h0 => ?_)
  · refine j_goto E 1696 dL_law_874 (by decide) ?_
    refine j_forget 5 ?_
    refine j_forget 6 ?_
    dsimp only [List.set]
    refine j_sel (pre := [PGA X.1 z x (t9, us9, np9, nb9, out9, cd9, pl9) P' Q', MGA X.1 m (nI c0) (t9, us9, np9, nb9, out9, cd9, pl9) (pm + 3001), pt ob (aJ X.1 1 f')]) (by repeat (first | with_reducible exact pick_0 | with_reducible apply pick_s | exact sel_0 | apply sel_s)) ?_
    exact kk (t9, us9, np9, nb9, out9, cd9, pl9) P' Q' _ _ _ _ _ (ls_step (dc := dc) (ds := ds) (M := 40000) (N := 1726880 - Q) hLS hc ⟨hb1, hb2, hb3, hb4⟩ hln)
  have e0 : c0 = 0 := (nI_eq (b := 0) (by omega) (by decide)).mp h0
  refine j_aload_n E 863 dL_law_862 3 rfl rfl rfl ?_
  refine j_iconst E (0) 864 dL_law_863 (by decide) rfl ?_
  refine j_lald E 865 dL_law_864 (by repeat (first | with_reducible exact pick_0 | with_reducible apply pick_s)) vp_in01 rfl ?_
  refine j_eql (y := v0.toInt64) (by rw [clamp0]; exact hf e0) ?_
  refine j_iload E 867 dL_law_865 rfl rfl ?_
  refine j_i2l E 868 dL_law_867 rfl ?_
  refine j_lcmp E 869 dL_law_868 rfl ?_
  refine j_eqi (y := 0) ((lg_cmp_eq _ _).mpr rfl) ?_
  refine j_if_eq E 874 872 dL_law_869 (by decide) rfl (fun _ => ?_) (fun h => absurd rfl h)
  refine j_goto E 1696 dL_law_874 (by decide) ?_
  refine j_forget 5 ?_
  refine j_forget 6 ?_
  dsimp only [List.set]
  refine j_sel (pre := [PGA X.1 z x (t9, us9, np9, nb9, out9, cd9, pl9) P' Q', MGA X.1 m (nI c0) (t9, us9, np9, nb9, out9, cd9, pl9) (pm + 3001), pt ob (aJ X.1 1 f')]) (by repeat (first | with_reducible exact pick_0 | with_reducible apply pick_s | exact sel_0 | apply sel_s)) ?_
  exact kk (t9, us9, np9, nb9, out9, cd9, pl9) P' Q' _ _ _ _ _ (ls_step (dc := dc) (ds := ds) (M := 40000) (N := 1726880 - Q) hLS hc ⟨hb1, hb2, hb3, hb4⟩ hln)
set_option maxHeartbeats 8000000 in
theorem lw_row {X : XT} {z : Nat → Nat} (hA : GA X.1 z) (h4 : GLB4 X.1) (E : JE X RL cL_law 8 2048 600384 7289322) {b L i c x m ob P Q pm k n : Nat} {xs : Nat → Int32} {S : AS} {th : Int32} {f : Nat → Int64} (hT : OT X.1 .int b L (fun j => .int (xs j))) (hL : L ≤ 384) (hi : i + 6 ≤ L) (hc : c < 64) (hok : AOk S) (hP : P ≤ 9100000) (hQ : Q ≤ 1500000) (hLS : RMC c S.1.length P Q pm k n) (kk : KK X z b x m ob i (c + 1)) : J X 8 [PGA X.1 z x S P Q, MGA X.1 m th S pm, pt ob (aJ X.1 1 f)] k n 877 [some (.ref b), some (.ref x), some (.ref m), some (.ref ob), some (.int (nI i)), none, none, none] [] := by
  obtain ⟨tape, us, np, nb, out, cd, pl⟩ := S
  have hls := hLS
  obtain ⟨l1, l2, l3, l4⟩ := hls
  dsimp only at l1
  obtain ⟨T, hT9⟩ : ∃ T, T = (sRow (xs (i + 1)) (tape, us, np, nb, out, cd, pl)) := ⟨_, rfl⟩
  have hln : LNt (tape, us, np, nb, out, cd, pl) (sRow (xs (i + 1)) (tape, us, np, nb, out, cd, pl)).2.2 := ln_row
  have K1 := c_L_row hA h4 2047 40000 (1726880 - Q) x ob P Q f (xs (i + 1)) (tape, us, np, nb, out, cd, pl) (by decide) (by dsimp only; omega) (by dsimp only; omega)
  have K2 := c_mg_row hA.1 2047 m th tape us np nb out cd pl pm (xs (i + 1)) (by decide)
  rw [← hT9] at K1 K2 hln
  clear hT9
  obtain ⟨c0, v0, t9, us9, np9, nb9, out9, cd9, pl9⟩ := T
  dsimp only at K1 K2 hln
  refine j_aload_n E 878 dL_law_877 1 rfl rfl rfl ?_
  refine j_scr E hT 884 1 dL_law_878 dL_law_879 dL_law_881 dL_law_882 dL_law_883 (by decide) rfl rfl rfl (by omega) hL ?_
  refine j_aload_n E 885 dL_law_884 3 rfl rfl rfl ?_
  refine j_callSH E K1 888 dL_law_885 sv_L_row rfl rfl (by repeat (first | with_reducible exact pick_0 | with_reducible apply pick_s | exact sel_0 | apply sel_s)) (by decide) (by omega) (by omega) (Nat.le_of_ble_eq_true rfl) rfl ?_
  rintro o dc ds ws' ⟨P', Q', f', rfl, h3, hf, rfl, hb1, hb2, hb3, hb4⟩
  dsimp only [List.cons_append, List.nil_append, Option.toList]
  dsimp only at h3 hf
  refine j_istore E 890 dL_law_888 (Nat.le_of_ble_eq_true rfl) rfl rfl ?_
  dsimp only [List.set]
  refine j_aload_n E 891 dL_law_890 2 rfl rfl rfl ?_
  refine j_scr E hT 897 1 dL_law_891 dL_law_892 dL_law_894 dL_law_895 dL_law_896 (by decide) rfl rfl rfl (by omega) hL ?_
  refine j_callV E K2 900 dL_law_897 _ _ _ iv_L_147 rfl rfl rfl (by repeat (first | with_reducible exact pick_0 | with_reducible apply pick_s | exact sel_0 | apply sel_s)) (by decide) (by omega) (by omega) (Nat.le_of_ble_eq_true rfl) rfl ?_
  rintro _ _ _ _ ⟨rfl, rfl, rfl, rfl⟩
  dsimp only [List.cons_append, List.nil_append, Option.toList]
  refine j_istore E 902 dL_law_900 (Nat.le_of_ble_eq_true rfl) rfl rfl ?_
  dsimp only [List.set]
  refine j_aload_n E 903 dL_law_902 2 rfl rfl rfl ?_
  refine j_callV E (c_mg_thrown hA.1 2047 m c0 (pm + 3001) t9 us9 np9 nb9 out9 cd9 pl9) 906 dL_law_903 _ _ _ iv_L_104 rfl rfl rfl (by repeat (first | with_reducible exact pick_0 | with_reducible apply pick_s | exact sel_0 | apply sel_s)) (by decide) (by omega) (by omega) (Nat.le_of_ble_eq_true rfl) rfl ?_
  rintro _ _ _ _ ⟨rfl, rfl, rfl, rfl⟩
  dsimp only [List.cons_append, List.nil_append, Option.toList]
  refine j_iload E 908 dL_law_906 rfl rfl ?_
  refine j_icmp_eq E 913 911 dL_law_908 (by decide) rfl (fun _ => ?_) (fun h => absurd rfl h)
  refine j_iload E 915 dL_law_913 rfl rfl ?_
  refine j_if_ne E 930 918 dL_law_915 (by decide) rfl (fun _ => ?_) (fun h0 => ?_)
  · refine j_goto E 1696 dL_law_930 (by decide) ?_
    refine j_forget 5 ?_
    refine j_forget 6 ?_
    dsimp only [List.set]
    refine j_sel (pre := [PGA X.1 z x (t9, us9, np9, nb9, out9, cd9, pl9) P' Q', MGA X.1 m (nI c0) (t9, us9, np9, nb9, out9, cd9, pl9) (pm + 3001), pt ob (aJ X.1 1 f')]) (by repeat (first | with_reducible exact pick_0 | with_reducible apply pick_s | exact sel_0 | apply sel_s)) ?_
    exact kk (t9, us9, np9, nb9, out9, cd9, pl9) P' Q' _ _ _ _ _ (ls_step (dc := dc) (ds := ds) (M := 40000) (N := 1726880 - Q) hLS hc ⟨hb1, hb2, hb3, hb4⟩ hln)
  have e0 : c0 = 0 := (nI_eq (b := 0) (by omega) (by decide)).mp h0
  refine j_aload_n E 919 dL_law_918 3 rfl rfl rfl ?_
  refine j_iconst E (0) 920 dL_law_919 (by decide) rfl ?_
  refine j_lald E 921 dL_law_920 (by repeat (first | with_reducible exact pick_0 | with_reducible apply pick_s)) vp_in01 rfl ?_
  refine j_eql (y := v0.toInt64) (by rw [clamp0]; exact hf e0) ?_
  refine j_iload E 923 dL_law_921 rfl rfl ?_
  refine j_i2l E 924 dL_law_923 rfl ?_
  refine j_lcmp E 925 dL_law_924 rfl ?_
  refine j_eqi (y := 0) ((lg_cmp_eq _ _).mpr rfl) ?_
  refine j_if_eq E 930 928 dL_law_925 (by decide) rfl (fun _ => ?_) (fun h => absurd rfl h)
  refine j_goto E 1696 dL_law_930 (by decide) ?_
  refine j_forget 5 ?_
  refine j_forget 6 ?_
  dsimp only [List.set]
  refine j_sel (pre := [PGA X.1 z x (t9, us9, np9, nb9, out9, cd9, pl9) P' Q', MGA X.1 m (nI c0) (t9, us9, np9, nb9, out9, cd9, pl9) (pm + 3001), pt ob (aJ X.1 1 f')]) (by repeat (first | with_reducible exact pick_0 | with_reducible apply pick_s | exact sel_0 | apply sel_s)) ?_
  exact kk (t9, us9, np9, nb9, out9, cd9, pl9) P' Q' _ _ _ _ _ (ls_step (dc := dc) (ds := ds) (M := 40000) (N := 1726880 - Q) hLS hc ⟨hb1, hb2, hb3, hb4⟩ hln)

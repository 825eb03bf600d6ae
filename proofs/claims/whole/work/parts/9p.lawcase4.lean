/-! the law: its cases, on -/
set_option maxHeartbeats 8000000 in
theorem lw_number {X : XT} {z : Nat → Nat} (hA : GA X.1 z) (h4 : GLB4 X.1) (E : JE X RL cL_law 8 2048 600384 7289322) {b L i c x m ob P Q pm k n : Nat} {xs : Nat → Int32} {S : AS} {th : Int32} {f : Nat → Int64} (hT : OT X.1 .int b L (fun j => .int (xs j))) (hL : L ≤ 384) (hi : i + 6 ≤ L) (hc : c < 64) (hok : AOk S) (hP : P ≤ 9100000) (hQ : Q ≤ 1500000) (hLS : RMC c S.1.length P Q pm k n) (kk : KK X z b x m ob i (c + 1)) : J X 8 [PGA X.1 z x S P Q, MGA X.1 m th S pm, pt ob (aJ X.1 1 f)] k n 1361 [some (.ref b), some (.ref x), some (.ref m), some (.ref ob), some (.int (nI i)), none, none, none] [] := by
  obtain ⟨tape, us, np, nb, out, cd, pl⟩ := S
  have hls := hLS
  obtain ⟨l1, l2, l3, l4⟩ := hls
  dsimp only at l1
  obtain ⟨T, hT9⟩ : ∃ T, T = (sNumber (xs (i + 1)) (tape, us, np, nb, out, cd, pl)) := ⟨_, rfl⟩
  have hln : LNt (tape, us, np, nb, out, cd, pl) (sNumber (xs (i + 1)) (tape, us, np, nb, out, cd, pl)).2.2 := ln_number
  have K1 := c_L_number hA h4 2047 40000 (1726880 - Q) x ob P Q f (xs (i + 1)) (tape, us, np, nb, out, cd, pl) (by decide) (by dsimp only; omega) (by dsimp only; omega)
  have K2 := c_mg_number hA.1 2047 m th tape us np nb out cd pl pm (xs (i + 1)) hok (by decide)
  rw [← hT9] at K1 K2 hln
  clear hT9
  obtain ⟨c0, v0, t9, us9, np9, nb9, out9, cd9, pl9⟩ := T
  dsimp only at K1 K2 hln
  refine j_aload_n E 1362 dL_law_1361 1 rfl rfl rfl ?_
  refine j_scr E hT 1368 1 dL_law_1362 dL_law_1363 dL_law_1365 dL_law_1366 dL_law_1367 (by decide) rfl rfl rfl (by omega) hL ?_
  refine j_aload_n E 1369 dL_law_1368 3 rfl rfl rfl ?_
  refine j_callSH E K1 1372 dL_law_1369 sv_L_number rfl rfl (by repeat (first | with_reducible exact pick_0 | with_reducible apply pick_s | exact sel_0 | apply sel_s)) (by decide) (by omega) (by omega) (Nat.le_of_ble_eq_true rfl) rfl ?_
  rintro o dc ds ws' ⟨P', Q', f', rfl, h3, hf, rfl, hb1, hb2, hb3, hb4⟩
  dsimp only [List.cons_append, List.nil_append, Option.toList]
  dsimp only at h3 hf
  refine j_istore E 1374 dL_law_1372 (Nat.le_of_ble_eq_true rfl) rfl rfl ?_
  dsimp only [List.set]
  refine j_aload_n E 1375 dL_law_1374 2 rfl rfl rfl ?_
  refine j_scr E hT 1381 1 dL_law_1375 dL_law_1376 dL_law_1378 dL_law_1379 dL_law_1380 (by decide) rfl rfl rfl (by omega) hL ?_
  refine j_callV E K2 1384 dL_law_1381 _ _ _ iv_L_171 rfl rfl rfl (by repeat (first | with_reducible exact pick_0 | with_reducible apply pick_s | exact sel_0 | apply sel_s)) (by decide) (by omega) (by omega) (Nat.le_of_ble_eq_true rfl) rfl ?_
  rintro _ _ _ _ ⟨rfl, rfl, rfl, rfl⟩
  dsimp only [List.cons_append, List.nil_append, Option.toList]
  refine j_lstore E 1386 dL_law_1384 (Nat.le_of_ble_eq_true rfl) rfl rfl ?_
  dsimp only [List.set]
  refine j_aload_n E 1387 dL_law_1386 2 rfl rfl rfl ?_
  refine j_callV E (c_mg_thrown hA.1 2047 m c0 (pm + 3001) t9 us9 np9 nb9 out9 cd9 pl9) 1390 dL_law_1387 _ _ _ iv_L_104 rfl rfl rfl (by repeat (first | with_reducible exact pick_0 | with_reducible apply pick_s | exact sel_0 | apply sel_s)) (by decide) (by omega) (by omega) (Nat.le_of_ble_eq_true rfl) rfl ?_
  rintro _ _ _ _ ⟨rfl, rfl, rfl, rfl⟩
  dsimp only [List.cons_append, List.nil_append, Option.toList]
  refine j_iload E 1392 dL_law_1390 rfl rfl ?_
  refine j_icmp_eq E 1397 1395 dL_law_1392 (by decide) rfl (fun _ => ?_) (fun h => absurd rfl h)
  refine j_iload E 1399 dL_law_1397 rfl rfl ?_
  refine j_if_ne E 1413 1402 dL_law_1399 (by decide) rfl (fun _ => ?_) (fun h0 => ?_)
  · refine j_goto E 1696 dL_law_1413 (by decide) ?_
    refine j_forget 5 ?_
    refine j_forget 6 ?_
    dsimp only [List.set]
    refine j_sel (pre := [PGA X.1 z x (t9, us9, np9, nb9, out9, cd9, pl9) P' Q', MGA X.1 m (nI c0) (t9, us9, np9, nb9, out9, cd9, pl9) (pm + 3001), pt ob (aJ X.1 1 f')]) (by repeat (first | with_reducible exact pick_0 | with_reducible apply pick_s | exact sel_0 | apply sel_s)) ?_
    exact kk (t9, us9, np9, nb9, out9, cd9, pl9) P' Q' _ _ _ _ _ (ls_step (dc := dc) (ds := ds) (M := 40000) (N := 1726880 - Q) hLS hc ⟨hb1, hb2, hb3, hb4⟩ hln)
  have e0 : c0 = 0 := (nI_eq (b := 0) (by omega) (by decide)).mp h0
  refine j_aload_n E 1403 dL_law_1402 3 rfl rfl rfl ?_
  refine j_iconst E (0) 1404 dL_law_1403 (by decide) rfl ?_
  refine j_lald E 1405 dL_law_1404 (by repeat (first | with_reducible exact pick_0 | with_reducible apply pick_s)) vp_in01 rfl ?_
  refine j_eql (y := v0) (by rw [clamp0]; exact hf e0) ?_
  refine j_lload E 1407 dL_law_1405 rfl rfl ?_
  refine j_lcmp E 1408 dL_law_1407 rfl ?_
  refine j_eqi (y := 0) ((lg_cmp_eq _ _).mpr rfl) ?_
  refine j_if_eq E 1413 1411 dL_law_1408 (by decide) rfl (fun _ => ?_) (fun h => absurd rfl h)
  refine j_goto E 1696 dL_law_1413 (by decide) ?_
  refine j_forget 5 ?_
  refine j_forget 6 ?_
  dsimp only [List.set]
  refine j_sel (pre := [PGA X.1 z x (t9, us9, np9, nb9, out9, cd9, pl9) P' Q', MGA X.1 m (nI c0) (t9, us9, np9, nb9, out9, cd9, pl9) (pm + 3001), pt ob (aJ X.1 1 f')]) (by repeat (first | with_reducible exact pick_0 | with_reducible apply pick_s | exact sel_0 | apply sel_s)) ?_
  exact kk (t9, us9, np9, nb9, out9, cd9, pl9) P' Q' _ _ _ _ _ (ls_step (dc := dc) (ds := ds) (M := 40000) (N := 1726880 - Q) hLS hc ⟨hb1, hb2, hb3, hb4⟩ hln)
set_option maxHeartbeats 8000000 in
theorem lw_part {X : XT} {z : Nat → Nat} (hA : GA X.1 z) (h4 : GLB4 X.1) (E : JE X RL cL_law 8 2048 600384 7289322) {b L i c x m ob P Q pm k n : Nat} {xs : Nat → Int32} {S : AS} {th : Int32} {f : Nat → Int64} (hT : OT X.1 .int b L (fun j => .int (xs j))) (hL : L ≤ 384) (hi : i + 6 ≤ L) (hc : c < 64) (hok : AOk S) (hP : P ≤ 9100000) (hQ : Q ≤ 1500000) (hLS : RMC c S.1.length P Q pm k n) (kk : KK X z b x m ob i (c + 1)) : J X 8 [PGA X.1 z x S P Q, MGA X.1 m th S pm, pt ob (aJ X.1 1 f)] k n 1416 [some (.ref b), some (.ref x), some (.ref m), some (.ref ob), some (.int (nI i)), none, none, none] [] := by
  obtain ⟨tape, us, np, nb, out, cd, pl⟩ := S
  have hls := hLS
  obtain ⟨l1, l2, l3, l4⟩ := hls
  dsimp only at l1
  obtain ⟨T, hT9⟩ : ∃ T, T = (sPart (xs (i + 1)) (xs (i + 2)) (tape, us, np, nb, out, cd, pl)) := ⟨_, rfl⟩
  have hln : LNt (tape, us, np, nb, out, cd, pl) (sPart (xs (i + 1)) (xs (i + 2)) (tape, us, np, nb, out, cd, pl)).2.2 := ln_part
  have K1 := c_L_part hA h4 2047 40000 (1726880 - Q) x ob P Q f (xs (i + 1)) (xs (i + 2)) (tape, us, np, nb, out, cd, pl) (by decide) (by dsimp only; omega) (by dsimp only; omega)
  have K2 := c_mg_part hA.1 2047 m th tape us np nb out cd pl pm (xs (i + 1)) (xs (i + 2)) hok (by decide)
  rw [← hT9] at K1 K2 hln
  clear hT9
  obtain ⟨c0, v0, t9, us9, np9, nb9, out9, cd9, pl9⟩ := T
  dsimp only at K1 K2 hln
  refine j_aload_n E 1417 dL_law_1416 1 rfl rfl rfl ?_
  refine j_scr E hT 1423 1 dL_law_1417 dL_law_1418 dL_law_1420 dL_law_1421 dL_law_1422 (by decide) rfl rfl rfl (by omega) hL ?_
  refine j_scr E hT 1429 2 dL_law_1423 dL_law_1424 dL_law_1426 dL_law_1427 dL_law_1428 (by decide) rfl rfl rfl (by omega) hL ?_
  refine j_aload_n E 1430 dL_law_1429 3 rfl rfl rfl ?_
  refine j_callSH E K1 1433 dL_law_1430 sv_L_part rfl rfl (by repeat (first | with_reducible exact pick_0 | with_reducible apply pick_s | exact sel_0 | apply sel_s)) (by decide) (by omega) (by omega) (Nat.le_of_ble_eq_true rfl) rfl ?_
  rintro o dc ds ws' ⟨P', Q', f', rfl, h3, hf, rfl, hb1, hb2, hb3, hb4⟩
  dsimp only [List.cons_append, List.nil_append, Option.toList]
  dsimp only at h3 hf
  refine j_istore E 1435 dL_law_1433 (Nat.le_of_ble_eq_true rfl) rfl rfl ?_
  dsimp only [List.set]
  refine j_aload_n E 1436 dL_law_1435 2 rfl rfl rfl ?_
  refine j_scr E hT 1442 1 dL_law_1436 dL_law_1437 dL_law_1439 dL_law_1440 dL_law_1441 (by decide) rfl rfl rfl (by omega) hL ?_
  refine j_scr E hT 1448 2 dL_law_1442 dL_law_1443 dL_law_1445 dL_law_1446 dL_law_1447 (by decide) rfl rfl rfl (by omega) hL ?_
  refine j_callV E K2 1451 dL_law_1448 _ _ _ iv_L_174 rfl rfl rfl (by repeat (first | with_reducible exact pick_0 | with_reducible apply pick_s | exact sel_0 | apply sel_s)) (by decide) (by omega) (by omega) (Nat.le_of_ble_eq_true rfl) rfl ?_
  rintro _ _ _ _ ⟨rfl, rfl, rfl, rfl⟩
  dsimp only [List.cons_append, List.nil_append, Option.toList]
  refine j_istore E 1453 dL_law_1451 (Nat.le_of_ble_eq_true rfl) rfl rfl ?_
  dsimp only [List.set]
  refine j_aload_n E 1454 dL_law_1453 2 rfl rfl rfl ?_
  refine j_callV E (c_mg_thrown hA.1 2047 m c0 (pm + 3001) t9 us9 np9 nb9 out9 cd9 pl9) 1457 dL_law_1454 _ _ _ iv_L_104 rfl rfl rfl (by repeat (first | with_reducible exact pick_0 | with_reducible apply pick_s | exact sel_0 | apply sel_s)) (by decide) (by omega) (by omega) (Nat.le_of_ble_eq_true rfl) rfl ?_
  rintro _ _ _ _ ⟨rfl, rfl, rfl, rfl⟩
  dsimp only [List.cons_append, List.nil_append, Option.toList]
  refine j_iload E 1459 dL_law_1457 rfl rfl ?_
  refine j_icmp_eq E 1464 1462 dL_law_1459 (by decide) rfl (fun _ => ?_) (fun h => absurd rfl h)
  refine j_iload E 1466 dL_law_1464 rfl rfl ?_
  refine j_if_ne E 1481 1469 dL_law_1466 (by decide) rfl (fun _ => ?_) (fun h0 => ?_)
  · refine j_goto E 1696 dL_law_1481 (by decide) ?_
    refine j_forget 5 ?_
    refine j_forget 6 ?_
    dsimp only [List.set]
    refine j_sel (pre := [PGA X.1 z x (t9, us9, np9, nb9, out9, cd9, pl9) P' Q', MGA X.1 m (nI c0) (t9, us9, np9, nb9, out9, cd9, pl9) (pm + 3001), pt ob (aJ X.1 1 f')]) (by repeat (first | with_reducible exact pick_0 | with_reducible apply pick_s | exact sel_0 | apply sel_s)) ?_
    exact kk (t9, us9, np9, nb9, out9, cd9, pl9) P' Q' _ _ _ _ _ (ls_step (dc := dc) (ds := ds) (M := 40000) (N := 1726880 - Q) hLS hc ⟨hb1, hb2, hb3, hb4⟩ hln)
  have e0 : c0 = 0 := (nI_eq (b := 0) (by omega) (by decide)).mp h0
  refine j_aload_n E 1470 dL_law_1469 3 rfl rfl rfl ?_
  refine j_iconst E (0) 1471 dL_law_1470 (by decide) rfl ?_
  refine j_lald E 1472 dL_law_1471 (by repeat (first | with_reducible exact pick_0 | with_reducible apply pick_s)) vp_in01 rfl ?_
  refine j_eql (y := v0.toInt64) (by rw [clamp0]; exact hf e0) ?_
  refine j_iload E 1474 dL_law_1472 rfl rfl ?_
  refine j_i2l E 1475 dL_law_1474 rfl ?_
  refine j_lcmp E 1476 dL_law_1475 rfl ?_
  refine j_eqi (y := 0) ((lg_cmp_eq _ _).mpr rfl) ?_
  refine j_if_eq E 1481 1479 dL_law_1476 (by decide) rfl (fun _ => ?_) (fun h => absurd rfl h)
  refine j_goto E 1696 dL_law_1481 (by decide) ?_
  refine j_forget 5 ?_
  refine j_forget 6 ?_
  dsimp only [List.set]
  refine j_sel (pre := [PGA X.1 z x (t9, us9, np9, nb9, out9, cd9, pl9) P' Q', MGA X.1 m (nI c0) (t9, us9, np9, nb9, out9, cd9, pl9) (pm + 3001), pt ob (aJ X.1 1 f')]) (by repeat (first | with_reducible exact pick_0 | with_reducible apply pick_s | exact sel_0 | apply sel_s)) ?_
  exact kk (t9, us9, np9, nb9, out9, cd9, pl9) P' Q' _ _ _ _ _ (ls_step (dc := dc) (ds := ds) (M := 40000) (N := 1726880 - Q) hLS hc ⟨hb1, hb2, hb3, hb4⟩ hln)
set_option maxHeartbeats 8000000 in
theorem lw_same {X : XT} {z : Nat → Nat} (hA : GA X.1 z) (h4 : GLB4 X.1) (E : JE X RL cL_law 8 2048 600384 7289322) {b L i c x m ob P Q pm k n : Nat} {xs : Nat → Int32} {S : AS} {th : Int32} {f : Nat → Int64} (hT : OT X.1 .int b L (fun j => .int (xs j))) (hL : L ≤ 384) (hi : i + 6 ≤ L) (hc : c < 64) (hok : AOk S) (hP : P ≤ 9100000) (hQ : Q ≤ 1500000) (hLS : RMC c S.1.length P Q pm k n) (kk : KK X z b x m ob i (c + 1)) : J X 8 [PGA X.1 z x S P Q, MGA X.1 m th S pm, pt ob (aJ X.1 1 f)] k n 1484 [some (.ref b), some (.ref x), some (.ref m), some (.ref ob), some (.int (nI i)), none, none, none] [] := by
  obtain ⟨tape, us, np, nb, out, cd, pl⟩ := S
  have hls := hLS
  obtain ⟨l1, l2, l3, l4⟩ := hls
  dsimp only at l1
  obtain ⟨T, hT9⟩ : ∃ T, T = (sSame (xs (i + 1)) (xs (i + 2)) (tape, us, np, nb, out, cd, pl)) := ⟨_, rfl⟩
  have hln : LNt (tape, us, np, nb, out, cd, pl) (sSame (xs (i + 1)) (xs (i + 2)) (tape, us, np, nb, out, cd, pl)).2.2 := ln_same
  have K1 := c_L_same hA h4 2047 40000 (1726880 - Q) x ob P Q f (xs (i + 1)) (xs (i + 2)) (tape, us, np, nb, out, cd, pl) (by decide) (by dsimp only; omega) (by dsimp only; omega)
  have K2 := c_mg_same hA.1 2047 m th tape us np nb out cd pl pm (xs (i + 1)) (xs (i + 2)) hok (by omega) (by decide)
  rw [← hT9] at K1 K2 hln
  clear hT9
  obtain ⟨c0, v0, t9, us9, np9, nb9, out9, cd9, pl9⟩ := T
  dsimp only at K1 K2 hln
  refine j_aload_n E 1485 dL_law_1484 1 rfl rfl rfl ?_
  refine j_scr E hT 1491 1 dL_law_1485 dL_law_1486 dL_law_1488 dL_law_1489 dL_law_1490 (by decide) rfl rfl rfl (by omega) hL ?_
  refine j_scr E hT 1497 2 dL_law_1491 dL_law_1492 dL_law_1494 dL_law_1495 dL_law_1496 (by decide) rfl rfl rfl (by omega) hL ?_
  refine j_aload_n E 1498 dL_law_1497 3 rfl rfl rfl ?_
  refine j_callSH E K1 1501 dL_law_1498 sv_L_same rfl rfl (by repeat (first | with_reducible exact pick_0 | with_reducible apply pick_s | exact sel_0 | apply sel_s)) (by decide) (by omega) (by omega) (Nat.le_of_ble_eq_true rfl) rfl ?_
  rintro o dc ds ws' ⟨P', Q', f', rfl, h3, hf, rfl, hb1, hb2, hb3, hb4⟩
  dsimp only [List.cons_append, List.nil_append, Option.toList]
  dsimp only at h3 hf
  refine j_istore E 1503 dL_law_1501 (Nat.le_of_ble_eq_true rfl) rfl rfl ?_
  dsimp only [List.set]
  refine j_aload_n E 1504 dL_law_1503 2 rfl rfl rfl ?_
  refine j_scr E hT 1510 1 dL_law_1504 dL_law_1505 dL_law_1507 dL_law_1508 dL_law_1509 (by decide) rfl rfl rfl (by omega) hL ?_
  refine j_scr E hT 1516 2 dL_law_1510 dL_law_1511 dL_law_1513 dL_law_1514 dL_law_1515 (by decide) rfl rfl rfl (by omega) hL ?_
  refine j_callV E K2 1519 dL_law_1516 _ _ _ iv_L_177 rfl rfl rfl (by repeat (first | with_reducible exact pick_0 | with_reducible apply pick_s | exact sel_0 | apply sel_s)) (by decide) (by omega) (by omega) (Nat.le_of_ble_eq_true rfl) rfl ?_
  rintro _ _ _ _ ⟨rfl, rfl, rfl, rfl⟩
  dsimp only [List.cons_append, List.nil_append, Option.toList]
  refine j_istore E 1521 dL_law_1519 (Nat.le_of_ble_eq_true rfl) rfl rfl ?_
  dsimp only [List.set]
  refine j_aload_n E 1522 dL_law_1521 2 rfl rfl rfl ?_
  refine j_callV E (c_mg_thrown hA.1 2047 m c0 (pm + 3001) t9 us9 np9 nb9 out9 cd9 pl9) 1525 dL_law_1522 _ _ _ iv_L_104 rfl rfl rfl (by repeat (first | with_reducible exact pick_0 | with_reducible apply pick_s | exact sel_0 | apply sel_s)) (by decide) (by omega) (by omega) (Nat.le_of_ble_eq_true rfl) rfl ?_
  rintro _ _ _ _ ⟨rfl, rfl, rfl, rfl⟩
  dsimp only [List.cons_append, List.nil_append, Option.toList]
  refine j_iload E 1527 dL_law_1525 rfl rfl ?_
  refine j_icmp_eq E 1532 1530 dL_law_1527 (by decide) rfl (fun _ => ?_) (fun h => absurd rfl h)
  refine j_iload E 1534 dL_law_1532 rfl rfl ?_
  refine j_if_ne E 1556 1537 dL_law_1534 (by decide) rfl (fun _ => ?_) (fun h0 => ?_)
  · refine j_goto E 1696 dL_law_1556 (by decide) ?_
    refine j_forget 5 ?_
    refine j_forget 6 ?_
    dsimp only [List.set]
    refine j_sel (pre := [PGA X.1 z x (t9, us9, np9, nb9, out9, cd9, pl9) P' Q', MGA X.1 m (nI c0) (t9, us9, np9, nb9, out9, cd9, pl9) (pm + 3001), pt ob (aJ X.1 1 f')]) (by repeat (first | with_reducible exact pick_0 | with_reducible apply pick_s | exact sel_0 | apply sel_s)) ?_
    exact kk (t9, us9, np9, nb9, out9, cd9, pl9) P' Q' _ _ _ _ _ (ls_step (dc := dc) (ds := ds) (M := 40000) (N := 1726880 - Q) hLS hc ⟨hb1, hb2, hb3, hb4⟩ hln)
  have e0 : c0 = 0 := (nI_eq (b := 0) (by omega) (by decide)).mp h0
  refine j_aload_n E 1538 dL_law_1537 3 rfl rfl rfl ?_
  refine j_iconst E (0) 1539 dL_law_1538 (by decide) rfl ?_
  refine j_lald E 1540 dL_law_1539 (by repeat (first | with_reducible exact pick_0 | with_reducible apply pick_s)) vp_in01 rfl ?_
  refine j_eql (y := (if v0 = 0 then (0 : Int64) else 1)) (by rw [clamp0]; exact hf e0) ?_
  refine j_iload E 1542 dL_law_1540 rfl rfl ?_
  refine j_if_eq E 1549 1545 dL_law_1542 (by decide) rfl (fun h7 => ?_) (fun h7 => ?_)
  · refine j_lconst E 0 1550 dL_law_1549 rfl rfl ?_
    refine j_lcmp E 1551 dL_law_1550 rfl ?_
    refine j_eqi (y := 0) ((lg_cmp_eq _ _).mpr (if_pos h7)) ?_
    refine j_if_eq E 1556 1554 dL_law_1551 (by decide) rfl (fun _ => ?_) (fun h => absurd rfl h)
    refine j_goto E 1696 dL_law_1556 (by decide) ?_
    refine j_forget 5 ?_
    refine j_forget 6 ?_
    dsimp only [List.set]
    refine j_sel (pre := [PGA X.1 z x (t9, us9, np9, nb9, out9, cd9, pl9) P' Q', MGA X.1 m (nI c0) (t9, us9, np9, nb9, out9, cd9, pl9) (pm + 3001), pt ob (aJ X.1 1 f')]) (by repeat (first | with_reducible exact pick_0 | with_reducible apply pick_s | exact sel_0 | apply sel_s)) ?_
    exact kk (t9, us9, np9, nb9, out9, cd9, pl9) P' Q' _ _ _ _ _ (ls_step (dc := dc) (ds := ds) (M := 40000) (N := 1726880 - Q) hLS hc ⟨hb1, hb2, hb3, hb4⟩ hln)
  · refine j_lconst E 1 1546 dL_law_1545 rfl rfl ?_
    refine j_goto E 1550 dL_law_1546 (by decide) ?_
    refine j_lcmp E 1551 dL_law_1550 rfl ?_
    refine j_eqi (y := 0) ((lg_cmp_eq _ _).mpr (if_neg h7)) ?_
    refine j_if_eq E 1556 1554 dL_law_1551 (by decide) rfl (fun _ => ?_) (fun h => absurd rfl h)
    refine j_goto E 1696 dL_law_1556 (by decide) ?_
    refine j_forget 5 ?_
    refine j_forget 6 ?_
    dsimp only [List.set]
    refine j_sel (pre := [PGA X.1 z x (t9, us9, np9, nb9, out9, cd9, pl9) P' Q', MGA X.1 m (nI c0) (t9, us9, np9, nb9, out9, cd9, pl9) (pm + 3001), pt ob (aJ X.1 1 f')]) (by repeat (first | with_reducible exact pick_0 | with_reducible apply pick_s | exact sel_0 | apply sel_s)) ?_
    exact kk (t9, us9, np9, nb9, out9, cd9, pl9) P' Q' _ _ _ _ _ (ls_step (dc := dc) (ds := ds) (M := 40000) (N := 1726880 - Q) hLS hc ⟨hb1, hb2, hb3, hb4⟩ hln)
set_option maxHeartbeats 8000000 in
theorem lw_find {X : XT} {z : Nat → Nat} (hA : GA X.1 z) (h4 : GLB4 X.1) (E : JE X RL cL_law 8 2048 600384 7289322) {b L i c x m ob P Q pm k n : Nat} {xs : Nat → Int32} {S : AS} {th : Int32} {f : Nat → Int64} (hT : OT X.1 .int b L (fun j => .int (xs j))) (hL : L ≤ 384) (hi : i + 6 ≤ L) (hc : c < 64) (hok : AOk S) (hP : P ≤ 9100000) (hQ : Q ≤ 1500000) (hLS : RMC c S.1.length P Q pm k n) (kk : KK X z b x m ob i (c + 1)) : J X 8 [PGA X.1 z x S P Q, MGA X.1 m th S pm, pt ob (aJ X.1 1 f)] k n 1559 [some (.ref b), some (.ref x), some (.ref m), some (.ref ob), some (.int (nI i)), none, none, none] [] := by
  obtain ⟨tape, us, np, nb, out, cd, pl⟩ := S
  have hls := hLS
  obtain ⟨l1, l2, l3, l4⟩ := hls
  dsimp only at l1
  obtain ⟨T, hT9⟩ : ∃ T, T = (sFind (xs (i + 1)) (xs (i + 2)) (tape, us, np, nb, out, cd, pl)) := ⟨_, rfl⟩
  have hln : LNt (tape, us, np, nb, out, cd, pl) (sFind (xs (i + 1)) (xs (i + 2)) (tape, us, np, nb, out, cd, pl)).2.2 := ln_find
  have K1 := c_L_find hA h4 2047 40000 (1726880 - Q) x ob P Q f (xs (i + 1)) (xs (i + 2)) (tape, us, np, nb, out, cd, pl) (by decide) (by dsimp only; omega) (by dsimp only; omega)
  have K2 := c_mg_find hA.1 2047 m th tape us np nb out cd pl pm (xs (i + 1)) (xs (i + 2)) hok (by omega) (by decide)
  rw [← hT9] at K1 K2 hln
  clear hT9
  obtain ⟨c0, v0, t9, us9, np9, nb9, out9, cd9, pl9⟩ := T
  dsimp only at K1 K2 hln
  refine j_aload_n E 1560 dL_law_1559 1 rfl rfl rfl ?_
  refine j_scr E hT 1566 1 dL_law_1560 dL_law_1561 dL_law_1563 dL_law_1564 dL_law_1565 (by decide) rfl rfl rfl (by omega) hL ?_
  refine j_scr E hT 1572 2 dL_law_1566 dL_law_1567 dL_law_1569 dL_law_1570 dL_law_1571 (by decide) rfl rfl rfl (by omega) hL ?_
  refine j_aload_n E 1573 dL_law_1572 3 rfl rfl rfl ?_
  refine j_callSH E K1 1576 dL_law_1573 sv_L_find rfl rfl (by repeat (first | with_reducible exact pick_0 | with_reducible apply pick_s | exact sel_0 | apply sel_s)) (by decide) (by omega) (by omega) (Nat.le_of_ble_eq_true rfl) rfl ?_
  rintro o dc ds ws' ⟨P', Q', f', rfl, h3, hf, rfl, hb1, hb2, hb3, hb4⟩
  dsimp only [List.cons_append, List.nil_append, Option.toList]
  dsimp only at h3 hf
  refine j_istore E 1578 dL_law_1576 (Nat.le_of_ble_eq_true rfl) rfl rfl ?_
  dsimp only [List.set]
  refine j_aload_n E 1579 dL_law_1578 2 rfl rfl rfl ?_
  refine j_scr E hT 1585 1 dL_law_1579 dL_law_1580 dL_law_1582 dL_law_1583 dL_law_1584 (by decide) rfl rfl rfl (by omega) hL ?_
  refine j_scr E hT 1591 2 dL_law_1585 dL_law_1586 dL_law_1588 dL_law_1589 dL_law_1590 (by decide) rfl rfl rfl (by omega) hL ?_
  refine j_callV E K2 1594 dL_law_1591 _ _ _ iv_L_180 rfl rfl rfl (by repeat (first | with_reducible exact pick_0 | with_reducible apply pick_s | exact sel_0 | apply sel_s)) (by decide) (by omega) (by omega) (Nat.le_of_ble_eq_true rfl) rfl ?_
  rintro _ _ _ _ ⟨rfl, rfl, rfl, rfl⟩
  dsimp only [List.cons_append, List.nil_append, Option.toList]
  refine j_istore E 1596 dL_law_1594 (Nat.le_of_ble_eq_true rfl) rfl rfl ?_
  dsimp only [List.set]
  refine j_aload_n E 1597 dL_law_1596 2 rfl rfl rfl ?_
  refine j_callV E (c_mg_thrown hA.1 2047 m c0 (pm + 3001) t9 us9 np9 nb9 out9 cd9 pl9) 1600 dL_law_1597 _ _ _ iv_L_104 rfl rfl rfl (by repeat (first | with_reducible exact pick_0 | with_reducible apply pick_s | exact sel_0 | apply sel_s)) (by decide) (by omega) (by omega) (Nat.le_of_ble_eq_true rfl) rfl ?_
  rintro _ _ _ _ ⟨rfl, rfl, rfl, rfl⟩
  dsimp only [List.cons_append, List.nil_append, Option.toList]
  refine j_iload E 1602 dL_law_1600 rfl rfl ?_
  refine j_icmp_eq E 1607 1605 dL_law_1602 (by decide) rfl (fun _ => ?_) (fun h => absurd rfl h)
  refine j_iload E 1609 dL_law_1607 rfl rfl ?_
  refine j_if_ne E 1624 1612 dL_law_1609 (by decide) rfl (fun _ => ?_) (fun h0 => ?_)
  · refine j_goto E 1696 dL_law_1624 (by decide) ?_
    refine j_forget 5 ?_
    refine j_forget 6 ?_
    dsimp only [List.set]
    refine j_sel (pre := [PGA X.1 z x (t9, us9, np9, nb9, out9, cd9, pl9) P' Q', MGA X.1 m (nI c0) (t9, us9, np9, nb9, out9, cd9, pl9) (pm + 3001), pt ob (aJ X.1 1 f')]) (by repeat (first | with_reducible exact pick_0 | with_reducible apply pick_s | exact sel_0 | apply sel_s)) ?_
    exact kk (t9, us9, np9, nb9, out9, cd9, pl9) P' Q' _ _ _ _ _ (ls_step (dc := dc) (ds := ds) (M := 40000) (N := 1726880 - Q) hLS hc ⟨hb1, hb2, hb3, hb4⟩ hln)
  have e0 : c0 = 0 := (nI_eq (b := 0) (by omega) (by decide)).mp h0
  refine j_aload_n E 1613 dL_law_1612 3 rfl rfl rfl ?_
  refine j_iconst E (0) 1614 dL_law_1613 (by decide) rfl ?_
  refine j_lald E 1615 dL_law_1614 (by repeat (first | with_reducible exact pick_0 | with_reducible apply pick_s)) vp_in01 rfl ?_
  refine j_eql (y := v0.toInt64) (by rw [clamp0]; exact hf e0) ?_
  refine j_iload E 1617 dL_law_1615 rfl rfl ?_
  refine j_i2l E 1618 dL_law_1617 rfl ?_
  refine j_lcmp E 1619 dL_law_1618 rfl ?_
  refine j_eqi (y := 0) ((lg_cmp_eq _ _).mpr rfl) ?_
  refine j_if_eq E 1624 1622 dL_law_1619 (by decide) rfl (fun _ => ?_) (fun h => absurd rfl h)
  refine j_goto E 1696 dL_law_1624 (by decide) ?_
  refine j_forget 5 ?_
  refine j_forget 6 ?_
  dsimp only [List.set]
  refine j_sel (pre := [PGA X.1 z x (t9, us9, np9, nb9, out9, cd9, pl9) P' Q', MGA X.1 m (nI c0) (t9, us9, np9, nb9, out9, cd9, pl9) (pm + 3001), pt ob (aJ X.1 1 f')]) (by repeat (first | with_reducible exact pick_0 | with_reducible apply pick_s | exact sel_0 | apply sel_s)) ?_
  exact kk (t9, us9, np9, nb9, out9, cd9, pl9) P' Q' _ _ _ _ _ (ls_step (dc := dc) (ds := ds) (M := 40000) (N := 1726880 - Q) hLS hc ⟨hb1, hb2, hb3, hb4⟩ hln)
set_option maxHeartbeats 8000000 in
theorem lw_count {X : XT} {z : Nat → Nat} (hA : GA X.1 z) (h4 : GLB4 X.1) (E : JE X RL cL_law 8 2048 600384 7289322) {b L i c x m ob P Q pm k n : Nat} {xs : Nat → Int32} {S : AS} {th : Int32} {f : Nat → Int64} (hT : OT X.1 .int b L (fun j => .int (xs j))) (hL : L ≤ 384) (hi : i + 6 ≤ L) (hc : c < 64) (hok : AOk S) (hP : P ≤ 9100000) (hQ : Q ≤ 1500000) (hLS : RMC c S.1.length P Q pm k n) (kk : KK X z b x m ob i (c + 1)) : J X 8 [PGA X.1 z x S P Q, MGA X.1 m th S pm, pt ob (aJ X.1 1 f)] k n 1627 [some (.ref b), some (.ref x), some (.ref m), some (.ref ob), some (.int (nI i)), none, none, none] [] := by
  obtain ⟨tape, us, np, nb, out, cd, pl⟩ := S
  have hls := hLS
  obtain ⟨l1, l2, l3, l4⟩ := hls
  dsimp only at l1
  obtain ⟨T, hT9⟩ : ∃ T, T = (sCount (xs (i + 1)) (tape, us, np, nb, out, cd, pl)) := ⟨_, rfl⟩
  have hln : LNt (tape, us, np, nb, out, cd, pl) (sCount (xs (i + 1)) (tape, us, np, nb, out, cd, pl)).2.2 := ln_count
  have K1 := c_L_count hA h4 2047 40000 (1726880 - Q) x ob P Q f (xs (i + 1)) (tape, us, np, nb, out, cd, pl) (by decide) (by dsimp only; omega) (by dsimp only; omega)
  have K2 := c_mg_count hA.1 2047 m th tape us np nb out cd pl pm (xs (i + 1)) (by decide)
  rw [← hT9] at K1 K2 hln
  clear hT9
  obtain ⟨c0, v0, t9, us9, np9, nb9, out9, cd9, pl9⟩ := T
  dsimp only at K1 K2 hln
  refine j_aload_n E 1628 dL_law_1627 1 rfl rfl rfl ?_
  refine j_scr E hT 1634 1 dL_law_1628 dL_law_1629 dL_law_1631 dL_law_1632 dL_law_1633 (by decide) rfl rfl rfl (by omega) hL ?_
  refine j_aload_n E 1635 dL_law_1634 3 rfl rfl rfl ?_
  refine j_callSH E K1 1638 dL_law_1635 sv_L_count rfl rfl (by repeat (first | with_reducible exact pick_0 | with_reducible apply pick_s | exact sel_0 | apply sel_s)) (by decide) (by omega) (by omega) (Nat.le_of_ble_eq_true rfl) rfl ?_
  rintro o dc ds ws' ⟨P', Q', f', rfl, h3, hf, rfl, hb1, hb2, hb3, hb4⟩
  dsimp only [List.cons_append, List.nil_append, Option.toList]
  dsimp only at h3 hf
  refine j_istore E 1640 dL_law_1638 (Nat.le_of_ble_eq_true rfl) rfl rfl ?_
  dsimp only [List.set]
  refine j_aload_n E 1641 dL_law_1640 2 rfl rfl rfl ?_
  refine j_scr E hT 1647 1 dL_law_1641 dL_law_1642 dL_law_1644 dL_law_1645 dL_law_1646 (by decide) rfl rfl rfl (by omega) hL ?_
  refine j_callV E K2 1650 dL_law_1647 _ _ _ iv_L_183 rfl rfl rfl (by repeat (first | with_reducible exact pick_0 | with_reducible apply pick_s | exact sel_0 | apply sel_s)) (by decide) (by omega) (by omega) (Nat.le_of_ble_eq_true rfl) rfl ?_
  rintro _ _ _ _ ⟨rfl, rfl, rfl, rfl⟩
  dsimp only [List.cons_append, List.nil_append, Option.toList]
  refine j_istore E 1652 dL_law_1650 (Nat.le_of_ble_eq_true rfl) rfl rfl ?_
  dsimp only [List.set]
  refine j_aload_n E 1653 dL_law_1652 2 rfl rfl rfl ?_
  refine j_callV E (c_mg_thrown hA.1 2047 m c0 (pm + 3001) t9 us9 np9 nb9 out9 cd9 pl9) 1656 dL_law_1653 _ _ _ iv_L_104 rfl rfl rfl (by repeat (first | with_reducible exact pick_0 | with_reducible apply pick_s | exact sel_0 | apply sel_s)) (by decide) (by omega) (by omega) (Nat.le_of_ble_eq_true rfl) rfl ?_
  rintro _ _ _ _ ⟨rfl, rfl, rfl, rfl⟩
  dsimp only [List.cons_append, List.nil_append, Option.toList]
  refine j_iload E 1658 dL_law_1656 rfl rfl ?_
  refine j_icmp_eq E 1663 1661 dL_law_1658 (by decide) rfl (fun _ => ?_) (fun h => absurd rfl h)
  refine j_iload E 1665 dL_law_1663 rfl rfl ?_
  refine j_if_ne E 1680 1668 dL_law_1665 (by decide) rfl (fun _ => ?_) (fun h0 => ?_)
  · refine j_goto E 1696 dL_law_1680 (by decide) ?_
    refine j_forget 5 ?_
    refine j_forget 6 ?_
    dsimp only [List.set]
    refine j_sel (pre := [PGA X.1 z x (t9, us9, np9, nb9, out9, cd9, pl9) P' Q', MGA X.1 m (nI c0) (t9, us9, np9, nb9, out9, cd9, pl9) (pm + 3001), pt ob (aJ X.1 1 f')]) (by repeat (first | with_reducible exact pick_0 | with_reducible apply pick_s | exact sel_0 | apply sel_s)) ?_
    exact kk (t9, us9, np9, nb9, out9, cd9, pl9) P' Q' _ _ _ _ _ (ls_step (dc := dc) (ds := ds) (M := 40000) (N := 1726880 - Q) hLS hc ⟨hb1, hb2, hb3, hb4⟩ hln)
  have e0 : c0 = 0 := (nI_eq (b := 0) (by omega) (by decide)).mp h0
  refine j_aload_n E 1669 dL_law_1668 3 rfl rfl rfl ?_
  refine j_iconst E (0) 1670 dL_law_1669 (by decide) rfl ?_
  refine j_lald E 1671 dL_law_1670 (by repeat (first | with_reducible exact pick_0 | with_reducible apply pick_s)) vp_in01 rfl ?_
  refine j_eql (y := v0.toInt64) (by rw [clamp0]; exact hf e0) ?_
  refine j_iload E 1673 dL_law_1671 rfl rfl ?_
  refine j_i2l E 1674 dL_law_1673 rfl ?_
  refine j_lcmp E 1675 dL_law_1674 rfl ?_
  refine j_eqi (y := 0) ((lg_cmp_eq _ _).mpr rfl) ?_
  refine j_if_eq E 1680 1678 dL_law_1675 (by decide) rfl (fun _ => ?_) (fun h => absurd rfl h)
  refine j_goto E 1696 dL_law_1680 (by decide) ?_
  refine j_forget 5 ?_
  refine j_forget 6 ?_
  dsimp only [List.set]
  refine j_sel (pre := [PGA X.1 z x (t9, us9, np9, nb9, out9, cd9, pl9) P' Q', MGA X.1 m (nI c0) (t9, us9, np9, nb9, out9, cd9, pl9) (pm + 3001), pt ob (aJ X.1 1 f')]) (by repeat (first | with_reducible exact pick_0 | with_reducible apply pick_s | exact sel_0 | apply sel_s)) ?_
  exact kk (t9, us9, np9, nb9, out9, cd9, pl9) P' Q' _ _ _ _ _ (ls_step (dc := dc) (ds := ds) (M := 40000) (N := 1726880 - Q) hLS hc ⟨hb1, hb2, hb3, hb4⟩ hln)
set_option maxHeartbeats 8000000 in
theorem lw_clear {X : XT} {z : Nat → Nat} (hA : GA X.1 z) (h4 : GLB4 X.1) (E : JE X RL cL_law 8 2048 600384 7289322) {b L i c x m ob P Q pm k n : Nat} {xs : Nat → Int32} {S : AS} {th : Int32} {f : Nat → Int64} (hT : OT X.1 .int b L (fun j => .int (xs j))) (hL : L ≤ 384) (hi : i + 6 ≤ L) (hc : c < 64) (hok : AOk S) (hP : P ≤ 9100000) (hQ : Q ≤ 1500000) (hLS : RMC c S.1.length P Q pm k n) (kk : KK X z b x m ob i (c + 1)) : J X 8 [PGA X.1 z x S P Q, MGA X.1 m th S pm, pt ob (aJ X.1 1 f)] k n 1683 [some (.ref b), some (.ref x), some (.ref m), some (.ref ob), some (.int (nI i)), none, none, none] [] := by
  obtain ⟨tape, us, np, nb, out, cd, pl⟩ := S
  have hls := hLS
  obtain ⟨l1, l2, l3, l4⟩ := hls
  dsimp only at l1
  obtain ⟨T, hT9⟩ : ∃ T, T = (sClear (tape, us, np, nb, out, cd, pl)) := ⟨_, rfl⟩
  have hln : LNt (tape, us, np, nb, out, cd, pl) (sClear (tape, us, np, nb, out, cd, pl)).2.2 := ln_clear
  have K1 := c_pg_clear hA 2047 40000 (1726880 - Q) x P Q (tape, us, np, nb, out, cd, pl) (by decide) (by dsimp only; omega) (by dsimp only; omega)
  have K2 := c_mg_clear hA.1 2047 m th tape us np nb out cd pl pm  (by decide)
  rw [← hT9] at K1 K2 hln
  clear hT9
  obtain ⟨c0, v0, t9, us9, np9, nb9, out9, cd9, pl9⟩ := T
  dsimp only at K1 K2 hln
  refine j_aload_n E 1684 dL_law_1683 1 rfl rfl rfl ?_
  refine j_callVX E K1 1687 dL_law_1684 _ _ _ iv_L_184 rfl rfl rfl (by repeat (first | with_reducible exact pick_0 | with_reducible apply pick_s | exact sel_0 | apply sel_s)) (by decide) (by omega) (by omega) (Nat.le_of_ble_eq_true rfl) rfl ?_ ?_
  rotate_left
  · rintro En dc ds ws' ⟨P', Q', hk, -⟩
    exact absurd hk List.not_mem_nil
  rintro o dc ds ws' ⟨P', Q', hk, rfl, rfl, hb1, hb2, hb3, hb4⟩
  dsimp only [List.cons_append, List.nil_append, Option.toList]
  refine j_aload_n E 1688 dL_law_1687 2 rfl rfl rfl ?_
  refine j_callV E K2 1691 dL_law_1688 _ _ _ iv_L_187 rfl rfl rfl (by repeat (first | with_reducible exact pick_0 | with_reducible apply pick_s | exact sel_0 | apply sel_s)) (by decide) (by omega) (by omega) (Nat.le_of_ble_eq_true rfl) rfl ?_
  rintro _ _ _ _ ⟨rfl, rfl, rfl, rfl⟩
  dsimp only [List.cons_append, List.nil_append, Option.toList]
  refine j_icmp_eq E 1696 1694 dL_law_1691 (by decide) rfl (fun _ => ?_) (fun h => absurd rfl h)
  refine j_forget 5 ?_
  refine j_forget 6 ?_
  dsimp only [List.set]
  refine j_sel (pre := [PGA X.1 z x (t9, us9, np9, nb9, out9, cd9, pl9) P' Q', MGA X.1 m (nI c0) (t9, us9, np9, nb9, out9, cd9, pl9) (pm + 3001), pt ob (aJ X.1 1 f)]) (by repeat (first | with_reducible exact pick_0 | with_reducible apply pick_s | exact sel_0 | apply sel_s)) ?_
  exact kk (t9, us9, np9, nb9, out9, cd9, pl9) P' Q' _ _ _ _ _ (ls_step (dc := dc) (ds := ds) (M := 40000) (N := 1726880 - Q) hLS hc ⟨hb1, hb2, hb3, hb4⟩ hln)

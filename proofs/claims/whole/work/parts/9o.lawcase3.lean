/-! the law: its cases, on -/
set_option maxHeartbeats 8000000 in
theorem lw_extension {X : XT} {z : Nat → Nat} (hA : GA X.1 z) (h4 : GLB4 X.1) (E : JE X RL cL_law 8 2048 600384 7289322) {b L i c x m ob P Q pm k n : Nat} {xs : Nat → Int32} {S : AS} {th : Int32} {f : Nat → Int64} (hT : OT X.1 .int b L (fun j => .int (xs j))) (hL : L ≤ 384) (hi : i + 6 ≤ L) (hc : c < 64) (hok : AOk S) (hP : P ≤ 9100000) (hQ : Q ≤ 1500000) (hLS : RMC c S.1.length P Q pm k n) (kk : KK X z b x m ob i (c + 1)) : J X 8 [PGA X.1 z x S P Q, MGA X.1 m th S pm, pt ob (aJ X.1 1 f)] k n 933 [some (.ref b), some (.ref x), some (.ref m), some (.ref ob), some (.int (nI i)), none, none, none] [] := by
  obtain ⟨tape, us, np, nb, out, cd, pl⟩ := S
  have hls := hLS
  obtain ⟨l1, l2, l3, l4⟩ := hls
  dsimp only at l1
  obtain ⟨T, hT9⟩ : ∃ T, T = (sExt (xs (i + 1)) (tape, us, np, nb, out, cd, pl)) := ⟨_, rfl⟩
  have hln : LNt (tape, us, np, nb, out, cd, pl) (sExt (xs (i + 1)) (tape, us, np, nb, out, cd, pl)).2.2 := ln_extension
  have K1 := c_L_extension hA h4 2047 40000 (1726880 - Q) x ob P Q f (xs (i + 1)) (tape, us, np, nb, out, cd, pl) (by decide) (by dsimp only; omega) (by dsimp only; omega)
  have K2 := c_mg_extension hA.1 2047 m th tape us np nb out cd pl pm (xs (i + 1)) (by decide)
  rw [← hT9] at K1 K2 hln
  clear hT9
  obtain ⟨c0, v0, t9, us9, np9, nb9, out9, cd9, pl9⟩ := T
  dsimp only at K1 K2 hln
  refine j_aload_n E 934 dL_law_933 1 rfl rfl rfl ?_
  refine j_scr E hT 940 1 dL_law_934 dL_law_935 dL_law_937 dL_law_938 dL_law_939 (by decide) rfl rfl rfl (by omega) hL ?_
  refine j_aload_n E 941 dL_law_940 3 rfl rfl rfl ?_
  refine j_callSH E K1 944 dL_law_941 sv_L_extension rfl rfl (by repeat (first | with_reducible exact pick_0 | with_reducible apply pick_s | exact sel_0 | apply sel_s)) (by decide) (by omega) (by omega) (Nat.le_of_ble_eq_true rfl) rfl ?_
  rintro o dc ds ws' ⟨P', Q', f', rfl, h3, hf, rfl, hb1, hb2, hb3, hb4⟩
  dsimp only [List.cons_append, List.nil_append, Option.toList]
  dsimp only at h3 hf
  refine j_istore E 946 dL_law_944 (Nat.le_of_ble_eq_true rfl) rfl rfl ?_
  dsimp only [List.set]
  refine j_aload_n E 947 dL_law_946 2 rfl rfl rfl ?_
  refine j_scr E hT 953 1 dL_law_947 dL_law_948 dL_law_950 dL_law_951 dL_law_952 (by decide) rfl rfl rfl (by omega) hL ?_
  refine j_callV E K2 956 dL_law_953 _ _ _ iv_L_150 rfl rfl rfl (by repeat (first | with_reducible exact pick_0 | with_reducible apply pick_s | exact sel_0 | apply sel_s)) (by decide) (by omega) (by omega) (Nat.le_of_ble_eq_true rfl) rfl ?_
  rintro _ _ _ _ ⟨rfl, rfl, rfl, rfl⟩
  dsimp only [List.cons_append, List.nil_append, Option.toList]
  refine j_istore E 958 dL_law_956 (Nat.le_of_ble_eq_true rfl) rfl rfl ?_
  dsimp only [List.set]
  refine j_aload_n E 959 dL_law_958 2 rfl rfl rfl ?_
  refine j_callV E (c_mg_thrown hA.1 2047 m c0 (pm + 3001) t9 us9 np9 nb9 out9 cd9 pl9) 962 dL_law_959 _ _ _ iv_L_104 rfl rfl rfl (by repeat (first | with_reducible exact pick_0 | with_reducible apply pick_s | exact sel_0 | apply sel_s)) (by decide) (by omega) (by omega) (Nat.le_of_ble_eq_true rfl) rfl ?_
  rintro _ _ _ _ ⟨rfl, rfl, rfl, rfl⟩
  dsimp only [List.cons_append, List.nil_append, Option.toList]
  refine j_iload E 964 dL_law_962 rfl rfl ?_
  refine j_icmp_eq E 969 967 dL_law_964 (by decide) rfl (fun _ => ?_) (fun h => absurd rfl h)
  refine j_iload E 971 dL_law_969 rfl rfl ?_
  refine j_if_ne E 986 974 dL_law_971 (by decide) rfl (fun _ => ?_) (fun h0 => ?_)
  · refine j_goto E 1696 dL_law_986 (by decide) ?_
    refine j_forget 5 ?_
    refine j_forget 6 ?_
    dsimp only [List.set]
    refine j_sel (pre := [PGA X.1 z x (t9, us9, np9, nb9, out9, cd9, pl9) P' Q', MGA X.1 m (nI c0) (t9, us9, np9, nb9, out9, cd9, pl9) (pm + 3001), pt ob (aJ X.1 1 f')]) (by repeat (first | with_reducible exact pick_0 | with_reducible apply pick_s | exact sel_0 | apply sel_s)) ?_
    exact kk (t9, us9, np9, nb9, out9, cd9, pl9) P' Q' _ _ _ _ _ (ls_step (dc := dc) (ds := ds) (M := 40000) (N := 1726880 - Q) hLS hc ⟨hb1, hb2, hb3, hb4⟩ hln)
  have e0 : c0 = 0 := (nI_eq (b := 0) (by omega) (by decide)).mp h0
  refine j_aload_n E 975 dL_law_974 3 rfl rfl rfl ?_
  refine j_iconst E (0) 976 dL_law_975 (by decide) rfl ?_
  refine j_lald E 977 dL_law_976 (by repeat (first | with_reducible exact pick_0 | with_reducible apply pick_s)) vp_in01 rfl ?_
  refine j_eql (y := v0.toInt64) (by rw [clamp0]; exact hf e0) ?_
  refine j_iload E 979 dL_law_977 rfl rfl ?_
  refine j_i2l E 980 dL_law_979 rfl ?_
  refine j_lcmp E 981 dL_law_980 rfl ?_
  refine j_eqi (y := 0) ((lg_cmp_eq _ _).mpr rfl) ?_
  refine j_if_eq E 986 984 dL_law_981 (by decide) rfl (fun _ => ?_) (fun h => absurd rfl h)
  refine j_goto E 1696 dL_law_986 (by decide) ?_
  refine j_forget 5 ?_
  refine j_forget 6 ?_
  dsimp only [List.set]
  refine j_sel (pre := [PGA X.1 z x (t9, us9, np9, nb9, out9, cd9, pl9) P' Q', MGA X.1 m (nI c0) (t9, us9, np9, nb9, out9, cd9, pl9) (pm + 3001), pt ob (aJ X.1 1 f')]) (by repeat (first | with_reducible exact pick_0 | with_reducible apply pick_s | exact sel_0 | apply sel_s)) ?_
  exact kk (t9, us9, np9, nb9, out9, cd9, pl9) P' Q' _ _ _ _ _ (ls_step (dc := dc) (ds := ds) (M := 40000) (N := 1726880 - Q) hLS hc ⟨hb1, hb2, hb3, hb4⟩ hln)
set_option maxHeartbeats 8000000 in
theorem lw_time {X : XT} {z : Nat → Nat} (hA : GA X.1 z) (h4 : GLB4 X.1) (E : JE X RL cL_law 8 2048 600384 7289322) {b L i c x m ob P Q pm k n : Nat} {xs : Nat → Int32} {S : AS} {th : Int32} {f : Nat → Int64} (hT : OT X.1 .int b L (fun j => .int (xs j))) (hL : L ≤ 384) (hi : i + 6 ≤ L) (hc : c < 64) (hok : AOk S) (hP : P ≤ 9100000) (hQ : Q ≤ 1500000) (hLS : RMC c S.1.length P Q pm k n) (kk : KK X z b x m ob i (c + 1)) : J X 8 [PGA X.1 z x S P Q, MGA X.1 m th S pm, pt ob (aJ X.1 1 f)] k n 989 [some (.ref b), some (.ref x), some (.ref m), some (.ref ob), some (.int (nI i)), none, none, none] [] := by
  obtain ⟨tape, us, np, nb, out, cd, pl⟩ := S
  have hls := hLS
  obtain ⟨l1, l2, l3, l4⟩ := hls
  dsimp only at l1
  obtain ⟨v, hv⟩ : ∃ v : Int64, v = ((xs (i + 1)).toInt64 <<< ((32 : Int32).toInt64 &&& 63)) ||| ((xs (i + 2)).toInt64 &&& 4294967295) := ⟨_, rfl⟩
  obtain ⟨T, hT9⟩ : ∃ T, T = (sTime v (xs (i + 3)) (tape, us, np, nb, out, cd, pl)) := ⟨_, rfl⟩
  have hln : LNt (tape, us, np, nb, out, cd, pl) (sTime v (xs (i + 3)) (tape, us, np, nb, out, cd, pl)).2.2 := ln_time
  have K1 := c_L_time hA h4 2047 40000 (1726880 - Q) x ob P Q f v (xs (i + 3)) (tape, us, np, nb, out, cd, pl) (by decide) (by dsimp only; omega) (by dsimp only; omega)
  have K2 := c_mg_time hA.1 2047 m th tape us np nb out cd pl pm v (xs (i + 3)) (by decide)
  rw [← hT9] at K1 K2 hln
  clear hT9
  obtain ⟨c0, v0, t9, us9, np9, nb9, out9, cd9, pl9⟩ := T
  dsimp only at K1 K2 hln
  refine j_aload_n E 990 dL_law_989 1 rfl rfl rfl ?_
  refine j_scr E hT 996 1 dL_law_990 dL_law_991 dL_law_993 dL_law_994 dL_law_995 (by decide) rfl rfl rfl (by omega) hL ?_
  refine j_i2l E 997 dL_law_996 rfl ?_
  refine j_bipush E (32) 999 dL_law_997 (by decide) rfl ?_
  refine j_lshl E 1000 dL_law_999 rfl ?_
  refine j_scr E hT 1006 2 dL_law_1000 dL_law_1001 dL_law_1003 dL_law_1004 dL_law_1005 (by decide) rfl rfl rfl (by omega) hL ?_
  refine j_i2l E 1007 dL_law_1006 rfl ?_
  refine j_ldcL E _ 1010 dL_law_1007 kc_L_136 rfl ?_
  refine j_land E 1011 dL_law_1010 rfl ?_
  refine j_lor E 1012 dL_law_1011 rfl ?_
  refine j_eql hv.symm ?_
  refine j_scr E hT 1018 3 dL_law_1012 dL_law_1013 dL_law_1015 dL_law_1016 dL_law_1017 (by decide) rfl rfl rfl (by omega) hL ?_
  refine j_aload_n E 1019 dL_law_1018 3 rfl rfl rfl ?_
  refine j_callSH E K1 1022 dL_law_1019 sv_L_time rfl rfl (by repeat (first | with_reducible exact pick_0 | with_reducible apply pick_s | exact sel_0 | apply sel_s)) (by decide) (by omega) (by omega) (Nat.le_of_ble_eq_true rfl) rfl ?_
  rintro o dc ds ws' ⟨P', Q', f', rfl, h3, hf, rfl, hb1, hb2, hb3, hb4⟩
  dsimp only [List.cons_append, List.nil_append, Option.toList]
  dsimp only at h3 hf
  refine j_istore E 1024 dL_law_1022 (Nat.le_of_ble_eq_true rfl) rfl rfl ?_
  dsimp only [List.set]
  refine j_aload_n E 1025 dL_law_1024 2 rfl rfl rfl ?_
  refine j_scr E hT 1031 1 dL_law_1025 dL_law_1026 dL_law_1028 dL_law_1029 dL_law_1030 (by decide) rfl rfl rfl (by omega) hL ?_
  refine j_i2l E 1032 dL_law_1031 rfl ?_
  refine j_bipush E (32) 1034 dL_law_1032 (by decide) rfl ?_
  refine j_lshl E 1035 dL_law_1034 rfl ?_
  refine j_scr E hT 1041 2 dL_law_1035 dL_law_1036 dL_law_1038 dL_law_1039 dL_law_1040 (by decide) rfl rfl rfl (by omega) hL ?_
  refine j_i2l E 1042 dL_law_1041 rfl ?_
  refine j_ldcL E _ 1045 dL_law_1042 kc_L_136 rfl ?_
  refine j_land E 1046 dL_law_1045 rfl ?_
  refine j_lor E 1047 dL_law_1046 rfl ?_
  refine j_eql hv.symm ?_
  refine j_scr E hT 1053 3 dL_law_1047 dL_law_1048 dL_law_1050 dL_law_1051 dL_law_1052 (by decide) rfl rfl rfl (by omega) hL ?_
  refine j_callV E K2 1056 dL_law_1053 _ _ _ iv_L_154 rfl rfl rfl (by repeat (first | with_reducible exact pick_0 | with_reducible apply pick_s | exact sel_0 | apply sel_s)) (by decide) (by omega) (by omega) (Nat.le_of_ble_eq_true rfl) rfl ?_
  rintro _ _ _ _ ⟨rfl, rfl, rfl, rfl⟩
  dsimp only [List.cons_append, List.nil_append, Option.toList]
  refine j_istore E 1058 dL_law_1056 (Nat.le_of_ble_eq_true rfl) rfl rfl ?_
  dsimp only [List.set]
  refine j_aload_n E 1059 dL_law_1058 2 rfl rfl rfl ?_
  refine j_callV E (c_mg_thrown hA.1 2047 m c0 (pm + 3001) t9 us9 np9 nb9 out9 cd9 pl9) 1062 dL_law_1059 _ _ _ iv_L_104 rfl rfl rfl (by repeat (first | with_reducible exact pick_0 | with_reducible apply pick_s | exact sel_0 | apply sel_s)) (by decide) (by omega) (by omega) (Nat.le_of_ble_eq_true rfl) rfl ?_
  rintro _ _ _ _ ⟨rfl, rfl, rfl, rfl⟩
  dsimp only [List.cons_append, List.nil_append, Option.toList]
  refine j_iload E 1064 dL_law_1062 rfl rfl ?_
  refine j_icmp_eq E 1069 1067 dL_law_1064 (by decide) rfl (fun _ => ?_) (fun h => absurd rfl h)
  refine j_iload E 1071 dL_law_1069 rfl rfl ?_
  refine j_if_ne E 1086 1074 dL_law_1071 (by decide) rfl (fun _ => ?_) (fun h0 => ?_)
  · refine j_goto E 1696 dL_law_1086 (by decide) ?_
    refine j_forget 5 ?_
    refine j_forget 6 ?_
    dsimp only [List.set]
    refine j_sel (pre := [PGA X.1 z x (t9, us9, np9, nb9, out9, cd9, pl9) P' Q', MGA X.1 m (nI c0) (t9, us9, np9, nb9, out9, cd9, pl9) (pm + 3001), pt ob (aJ X.1 1 f')]) (by repeat (first | with_reducible exact pick_0 | with_reducible apply pick_s | exact sel_0 | apply sel_s)) ?_
    exact kk (t9, us9, np9, nb9, out9, cd9, pl9) P' Q' _ _ _ _ _ (ls_step (dc := dc) (ds := ds) (M := 40000) (N := 1726880 - Q) hLS hc ⟨hb1, hb2, hb3, hb4⟩ hln)
  have e0 : c0 = 0 := (nI_eq (b := 0) (by omega) (by decide)).mp h0
  refine j_aload_n E 1075 dL_law_1074 3 rfl rfl rfl ?_
  refine j_iconst E (0) 1076 dL_law_1075 (by decide) rfl ?_
  refine j_lald E 1077 dL_law_1076 (by repeat (first | with_reducible exact pick_0 | with_reducible apply pick_s)) vp_in01 rfl ?_
  refine j_eql (y := v0.toInt64) (by rw [clamp0]; exact hf e0) ?_
  refine j_iload E 1079 dL_law_1077 rfl rfl ?_
  refine j_i2l E 1080 dL_law_1079 rfl ?_
  refine j_lcmp E 1081 dL_law_1080 rfl ?_
  refine j_eqi (y := 0) ((lg_cmp_eq _ _).mpr rfl) ?_
  refine j_if_eq E 1086 1084 dL_law_1081 (by decide) rfl (fun _ => ?_) (fun h => absurd rfl h)
  refine j_goto E 1696 dL_law_1086 (by decide) ?_
  refine j_forget 5 ?_
  refine j_forget 6 ?_
  dsimp only [List.set]
  refine j_sel (pre := [PGA X.1 z x (t9, us9, np9, nb9, out9, cd9, pl9) P' Q', MGA X.1 m (nI c0) (t9, us9, np9, nb9, out9, cd9, pl9) (pm + 3001), pt ob (aJ X.1 1 f')]) (by repeat (first | with_reducible exact pick_0 | with_reducible apply pick_s | exact sel_0 | apply sel_s)) ?_
  exact kk (t9, us9, np9, nb9, out9, cd9, pl9) P' Q' _ _ _ _ _ (ls_step (dc := dc) (ds := ds) (M := 40000) (N := 1726880 - Q) hLS hc ⟨hb1, hb2, hb3, hb4⟩ hln)
set_option maxHeartbeats 8000000 in
theorem lw_group {X : XT} {z : Nat → Nat} (hA : GA X.1 z) (h4 : GLB4 X.1) (E : JE X RL cL_law 8 2048 600384 7289322) {b L i c x m ob P Q pm k n : Nat} {xs : Nat → Int32} {S : AS} {th : Int32} {f : Nat → Int64} (hT : OT X.1 .int b L (fun j => .int (xs j))) (hL : L ≤ 384) (hi : i + 6 ≤ L) (hc : c < 64) (hok : AOk S) (hP : P ≤ 9100000) (hQ : Q ≤ 1500000) (hLS : RMC c S.1.length P Q pm k n) (kk : KK X z b x m ob i (c + 1)) : J X 8 [PGA X.1 z x S P Q, MGA X.1 m th S pm, pt ob (aJ X.1 1 f)] k n 1089 [some (.ref b), some (.ref x), some (.ref m), some (.ref ob), some (.int (nI i)), none, none, none] [] := by
  obtain ⟨tape, us, np, nb, out, cd, pl⟩ := S
  have hls := hLS
  obtain ⟨l1, l2, l3, l4⟩ := hls
  dsimp only at l1
  obtain ⟨T, hT9⟩ : ∃ T, T = (sGroup (xs (i + 1)) (tape, us, np, nb, out, cd, pl)) := ⟨_, rfl⟩
  have hln : LNt (tape, us, np, nb, out, cd, pl) (sGroup (xs (i + 1)) (tape, us, np, nb, out, cd, pl)).2.2 := ln_group
  have K1 := c_L_group hA h4 2047 40000 (1726880 - Q) x ob P Q f (xs (i + 1)) (tape, us, np, nb, out, cd, pl) (by decide) (by dsimp only; omega) (by dsimp only; omega)
  have K2 := c_mg_group hA.1 2047 m th tape us np nb out cd pl pm (xs (i + 1)) (by decide)
  rw [← hT9] at K1 K2 hln
  clear hT9
  obtain ⟨c0, v0, t9, us9, np9, nb9, out9, cd9, pl9⟩ := T
  dsimp only at K1 K2 hln
  refine j_aload_n E 1090 dL_law_1089 1 rfl rfl rfl ?_
  refine j_scr E hT 1096 1 dL_law_1090 dL_law_1091 dL_law_1093 dL_law_1094 dL_law_1095 (by decide) rfl rfl rfl (by omega) hL ?_
  refine j_aload_n E 1097 dL_law_1096 3 rfl rfl rfl ?_
  refine j_callSH E K1 1100 dL_law_1097 sv_L_group rfl rfl (by repeat (first | with_reducible exact pick_0 | with_reducible apply pick_s | exact sel_0 | apply sel_s)) (by decide) (by omega) (by omega) (Nat.le_of_ble_eq_true rfl) rfl ?_
  rintro o dc ds ws' ⟨P', Q', f', rfl, h3, hf, rfl, hb1, hb2, hb3, hb4⟩
  dsimp only [List.cons_append, List.nil_append, Option.toList]
  dsimp only at h3 hf
  refine j_istore E 1102 dL_law_1100 (Nat.le_of_ble_eq_true rfl) rfl rfl ?_
  dsimp only [List.set]
  refine j_aload_n E 1103 dL_law_1102 2 rfl rfl rfl ?_
  refine j_scr E hT 1109 1 dL_law_1103 dL_law_1104 dL_law_1106 dL_law_1107 dL_law_1108 (by decide) rfl rfl rfl (by omega) hL ?_
  refine j_callV E K2 1112 dL_law_1109 _ _ _ iv_L_157 rfl rfl rfl (by repeat (first | with_reducible exact pick_0 | with_reducible apply pick_s | exact sel_0 | apply sel_s)) (by decide) (by omega) (by omega) (Nat.le_of_ble_eq_true rfl) rfl ?_
  rintro _ _ _ _ ⟨rfl, rfl, rfl, rfl⟩
  dsimp only [List.cons_append, List.nil_append, Option.toList]
  refine j_istore E 1114 dL_law_1112 (Nat.le_of_ble_eq_true rfl) rfl rfl ?_
  dsimp only [List.set]
  refine j_aload_n E 1115 dL_law_1114 2 rfl rfl rfl ?_
  refine j_callV E (c_mg_thrown hA.1 2047 m c0 (pm + 3001) t9 us9 np9 nb9 out9 cd9 pl9) 1118 dL_law_1115 _ _ _ iv_L_104 rfl rfl rfl (by repeat (first | with_reducible exact pick_0 | with_reducible apply pick_s | exact sel_0 | apply sel_s)) (by decide) (by omega) (by omega) (Nat.le_of_ble_eq_true rfl) rfl ?_
  rintro _ _ _ _ ⟨rfl, rfl, rfl, rfl⟩
  dsimp only [List.cons_append, List.nil_append, Option.toList]
  refine j_iload E 1120 dL_law_1118 rfl rfl ?_
  refine j_icmp_eq E 1125 1123 dL_law_1120 (by decide) rfl (fun _ => ?_) (fun h => absurd rfl h)
  refine j_iload E 1127 dL_law_1125 rfl rfl ?_
  refine j_if_ne E 1142 1130 dL_law_1127 (by decide) rfl (fun _ => ?_) (fun h0 => ?_)
  · refine j_goto E 1696 dL_law_1142 (by decide) ?_
    refine j_forget 5 ?_
    refine j_forget 6 ?_
    dsimp only [List.set]
    refine j_sel (pre := [PGA X.1 z x (t9, us9, np9, nb9, out9, cd9, pl9) P' Q', MGA X.1 m (nI c0) (t9, us9, np9, nb9, out9, cd9, pl9) (pm + 3001), pt ob (aJ X.1 1 f')]) (by repeat (first | with_reducible exact pick_0 | with_reducible apply pick_s | exact sel_0 | apply sel_s)) ?_
    exact kk (t9, us9, np9, nb9, out9, cd9, pl9) P' Q' _ _ _ _ _ (ls_step (dc := dc) (ds := ds) (M := 40000) (N := 1726880 - Q) hLS hc ⟨hb1, hb2, hb3, hb4⟩ hln)
  have e0 : c0 = 0 := (nI_eq (b := 0) (by omega) (by decide)).mp h0
  refine j_aload_n E 1131 dL_law_1130 3 rfl rfl rfl ?_
  refine j_iconst E (0) 1132 dL_law_1131 (by decide) rfl ?_
  refine j_lald E 1133 dL_law_1132 (by repeat (first | with_reducible exact pick_0 | with_reducible apply pick_s)) vp_in01 rfl ?_
  refine j_eql (y := v0.toInt64) (by rw [clamp0]; exact hf e0) ?_
  refine j_iload E 1135 dL_law_1133 rfl rfl ?_
  refine j_i2l E 1136 dL_law_1135 rfl ?_
  refine j_lcmp E 1137 dL_law_1136 rfl ?_
  refine j_eqi (y := 0) ((lg_cmp_eq _ _).mpr rfl) ?_
  refine j_if_eq E 1142 1140 dL_law_1137 (by decide) rfl (fun _ => ?_) (fun h => absurd rfl h)
  refine j_goto E 1696 dL_law_1142 (by decide) ?_
  refine j_forget 5 ?_
  refine j_forget 6 ?_
  dsimp only [List.set]
  refine j_sel (pre := [PGA X.1 z x (t9, us9, np9, nb9, out9, cd9, pl9) P' Q', MGA X.1 m (nI c0) (t9, us9, np9, nb9, out9, cd9, pl9) (pm + 3001), pt ob (aJ X.1 1 f')]) (by repeat (first | with_reducible exact pick_0 | with_reducible apply pick_s | exact sel_0 | apply sel_s)) ?_
  exact kk (t9, us9, np9, nb9, out9, cd9, pl9) P' Q' _ _ _ _ _ (ls_step (dc := dc) (ds := ds) (M := 40000) (N := 1726880 - Q) hLS hc ⟨hb1, hb2, hb3, hb4⟩ hln)
set_option maxHeartbeats 8000000 in
theorem lw_add {X : XT} {z : Nat → Nat} (hA : GA X.1 z) (h4 : GLB4 X.1) (E : JE X RL cL_law 8 2048 600384 7289322) {b L i c x m ob P Q pm k n : Nat} {xs : Nat → Int32} {S : AS} {th : Int32} {f : Nat → Int64} (hT : OT X.1 .int b L (fun j => .int (xs j))) (hL : L ≤ 384) (hi : i + 6 ≤ L) (hc : c < 64) (hok : AOk S) (hP : P ≤ 9100000) (hQ : Q ≤ 1500000) (hLS : RMC c S.1.length P Q pm k n) (kk : KK X z b x m ob i (c + 1)) : J X 8 [PGA X.1 z x S P Q, MGA X.1 m th S pm, pt ob (aJ X.1 1 f)] k n 1145 [some (.ref b), some (.ref x), some (.ref m), some (.ref ob), some (.int (nI i)), none, none, none] [] := by
  obtain ⟨tape, us, np, nb, out, cd, pl⟩ := S
  have hls := hLS
  obtain ⟨l1, l2, l3, l4⟩ := hls
  dsimp only at l1
  obtain ⟨T, hT9⟩ : ∃ T, T = (sAdd (xs (i + 1)) (xs (i + 2)) (tape, us, np, nb, out, cd, pl)) := ⟨_, rfl⟩
  have hln : LNt (tape, us, np, nb, out, cd, pl) (sAdd (xs (i + 1)) (xs (i + 2)) (tape, us, np, nb, out, cd, pl)).2.2 := ln_add
  have K1 := c_L_add hA h4 2047 40000 (1726880 - Q) x ob P Q f (xs (i + 1)) (xs (i + 2)) (tape, us, np, nb, out, cd, pl) (by decide) (by dsimp only; omega) (by dsimp only; omega)
  have K2 := c_mg_add hA.1 2047 m th tape us np nb out cd pl pm (xs (i + 1)) (xs (i + 2)) hok (by decide)
  rw [← hT9] at K1 K2 hln
  clear hT9
  obtain ⟨c0, v0, t9, us9, np9, nb9, out9, cd9, pl9⟩ := T
  dsimp only at K1 K2 hln
  refine j_aload_n E 1146 dL_law_1145 1 rfl rfl rfl ?_
  refine j_scr E hT 1152 1 dL_law_1146 dL_law_1147 dL_law_1149 dL_law_1150 dL_law_1151 (by decide) rfl rfl rfl (by omega) hL ?_
  refine j_scr E hT 1158 2 dL_law_1152 dL_law_1153 dL_law_1155 dL_law_1156 dL_law_1157 (by decide) rfl rfl rfl (by omega) hL ?_
  refine j_aload_n E 1159 dL_law_1158 3 rfl rfl rfl ?_
  refine j_callSH E K1 1162 dL_law_1159 sv_L_add rfl rfl (by repeat (first | with_reducible exact pick_0 | with_reducible apply pick_s | exact sel_0 | apply sel_s)) (by decide) (by omega) (by omega) (Nat.le_of_ble_eq_true rfl) rfl ?_
  rintro o dc ds ws' ⟨P', Q', f', rfl, h3, hf, rfl, hb1, hb2, hb3, hb4⟩
  dsimp only [List.cons_append, List.nil_append, Option.toList]
  dsimp only at h3 hf
  refine j_istore E 1164 dL_law_1162 (Nat.le_of_ble_eq_true rfl) rfl rfl ?_
  dsimp only [List.set]
  refine j_aload_n E 1165 dL_law_1164 2 rfl rfl rfl ?_
  refine j_scr E hT 1171 1 dL_law_1165 dL_law_1166 dL_law_1168 dL_law_1169 dL_law_1170 (by decide) rfl rfl rfl (by omega) hL ?_
  refine j_scr E hT 1177 2 dL_law_1171 dL_law_1172 dL_law_1174 dL_law_1175 dL_law_1176 (by decide) rfl rfl rfl (by omega) hL ?_
  refine j_callV E K2 1180 dL_law_1177 _ _ _ iv_L_161 rfl rfl rfl (by repeat (first | with_reducible exact pick_0 | with_reducible apply pick_s | exact sel_0 | apply sel_s)) (by decide) (by omega) (by omega) (Nat.le_of_ble_eq_true rfl) rfl ?_
  rintro _ _ _ _ ⟨rfl, rfl, rfl, rfl⟩
  dsimp only [List.cons_append, List.nil_append, Option.toList]
  refine j_istore E 1182 dL_law_1180 (Nat.le_of_ble_eq_true rfl) rfl rfl ?_
  dsimp only [List.set]
  refine j_aload_n E 1183 dL_law_1182 2 rfl rfl rfl ?_
  refine j_callV E (c_mg_thrown hA.1 2047 m c0 (pm + 3001) t9 us9 np9 nb9 out9 cd9 pl9) 1186 dL_law_1183 _ _ _ iv_L_104 rfl rfl rfl (by repeat (first | with_reducible exact pick_0 | with_reducible apply pick_s | exact sel_0 | apply sel_s)) (by decide) (by omega) (by omega) (Nat.le_of_ble_eq_true rfl) rfl ?_
  rintro _ _ _ _ ⟨rfl, rfl, rfl, rfl⟩
  dsimp only [List.cons_append, List.nil_append, Option.toList]
  refine j_iload E 1188 dL_law_1186 rfl rfl ?_
  refine j_icmp_eq E 1193 1191 dL_law_1188 (by decide) rfl (fun _ => ?_) (fun h => absurd rfl h)
  refine j_iload E 1195 dL_law_1193 rfl rfl ?_
  refine j_if_ne E 1210 1198 dL_law_1195 (by decide) rfl (fun _ => ?_) (fun h0 => ?_)
  · refine j_goto E 1696 dL_law_1210 (by decide) ?_
    refine j_forget 5 ?_
    refine j_forget 6 ?_
    dsimp only [List.set]
    refine j_sel (pre := [PGA X.1 z x (t9, us9, np9, nb9, out9, cd9, pl9) P' Q', MGA X.1 m (nI c0) (t9, us9, np9, nb9, out9, cd9, pl9) (pm + 3001), pt ob (aJ X.1 1 f')]) (by repeat (first | with_reducible exact pick_0 | with_reducible apply pick_s | exact sel_0 | apply sel_s)) ?_
    exact kk (t9, us9, np9, nb9, out9, cd9, pl9) P' Q' _ _ _ _ _ (ls_step (dc := dc) (ds := ds) (M := 40000) (N := 1726880 - Q) hLS hc ⟨hb1, hb2, hb3, hb4⟩ hln)
  have e0 : c0 = 0 := (nI_eq (b := 0) (by omega) (by decide)).mp h0
  refine j_aload_n E 1199 dL_law_1198 3 rfl rfl rfl ?_
  refine j_iconst E (0) 1200 dL_law_1199 (by decide) rfl ?_
  refine j_lald E 1201 dL_law_1200 (by repeat (first | with_reducible exact pick_0 | with_reducible apply pick_s)) vp_in01 rfl ?_
  refine j_eql (y := v0.toInt64) (by rw [clamp0]; exact hf e0) ?_
  refine j_iload E 1203 dL_law_1201 rfl rfl ?_
  refine j_i2l E 1204 dL_law_1203 rfl ?_
  refine j_lcmp E 1205 dL_law_1204 rfl ?_
  refine j_eqi (y := 0) ((lg_cmp_eq _ _).mpr rfl) ?_
  refine j_if_eq E 1210 1208 dL_law_1205 (by decide) rfl (fun _ => ?_) (fun h => absurd rfl h)
  refine j_goto E 1696 dL_law_1210 (by decide) ?_
  refine j_forget 5 ?_
  refine j_forget 6 ?_
  dsimp only [List.set]
  refine j_sel (pre := [PGA X.1 z x (t9, us9, np9, nb9, out9, cd9, pl9) P' Q', MGA X.1 m (nI c0) (t9, us9, np9, nb9, out9, cd9, pl9) (pm + 3001), pt ob (aJ X.1 1 f')]) (by repeat (first | with_reducible exact pick_0 | with_reducible apply pick_s | exact sel_0 | apply sel_s)) ?_
  exact kk (t9, us9, np9, nb9, out9, cd9, pl9) P' Q' _ _ _ _ _ (ls_step (dc := dc) (ds := ds) (M := 40000) (N := 1726880 - Q) hLS hc ⟨hb1, hb2, hb3, hb4⟩ hln)
set_option maxHeartbeats 8000000 in
theorem lw_put {X : XT} {z : Nat → Nat} (hA : GA X.1 z) (h4 : GLB4 X.1) (E : JE X RL cL_law 8 2048 600384 7289322) {b L i c x m ob P Q pm k n : Nat} {xs : Nat → Int32} {S : AS} {th : Int32} {f : Nat → Int64} (hT : OT X.1 .int b L (fun j => .int (xs j))) (hL : L ≤ 384) (hi : i + 6 ≤ L) (hc : c < 64) (hok : AOk S) (hP : P ≤ 9100000) (hQ : Q ≤ 1500000) (hLS : RMC c S.1.length P Q pm k n) (kk : KK X z b x m ob i (c + 1)) : J X 8 [PGA X.1 z x S P Q, MGA X.1 m th S pm, pt ob (aJ X.1 1 f)] k n 1213 [some (.ref b), some (.ref x), some (.ref m), some (.ref ob), some (.int (nI i)), none, none, none] [] := by
  obtain ⟨tape, us, np, nb, out, cd, pl⟩ := S
  have hls := hLS
  obtain ⟨l1, l2, l3, l4⟩ := hls
  dsimp only at l1
  obtain ⟨T, hT9⟩ : ∃ T, T = (sPut (xs (i + 1)) (xs (i + 2)) (xs (i + 3)) (tape, us, np, nb, out, cd, pl)) := ⟨_, rfl⟩
  have hln : LNt (tape, us, np, nb, out, cd, pl) (sPut (xs (i + 1)) (xs (i + 2)) (xs (i + 3)) (tape, us, np, nb, out, cd, pl)).2.2 := ln_put
  have K1 := c_L_put hA h4 2047 40000 (1726880 - Q) x ob P Q f (xs (i + 1)) (xs (i + 2)) (xs (i + 3)) (tape, us, np, nb, out, cd, pl) (by decide) (by dsimp only; omega) (by dsimp only; omega)
  have K2 := c_mg_put hA.1 2047 m th tape us np nb out cd pl pm (xs (i + 1)) (xs (i + 2)) (xs (i + 3)) hok (by decide)
  rw [← hT9] at K1 K2 hln
  clear hT9
  obtain ⟨c0, v0, t9, us9, np9, nb9, out9, cd9, pl9⟩ := T
  dsimp only at K1 K2 hln
  refine j_aload_n E 1214 dL_law_1213 1 rfl rfl rfl ?_
  refine j_scr E hT 1220 1 dL_law_1214 dL_law_1215 dL_law_1217 dL_law_1218 dL_law_1219 (by decide) rfl rfl rfl (by omega) hL ?_
  refine j_scr E hT 1226 2 dL_law_1220 dL_law_1221 dL_law_1223 dL_law_1224 dL_law_1225 (by decide) rfl rfl rfl (by omega) hL ?_
  refine j_scr E hT 1232 3 dL_law_1226 dL_law_1227 dL_law_1229 dL_law_1230 dL_law_1231 (by decide) rfl rfl rfl (by omega) hL ?_
  refine j_aload_n E 1233 dL_law_1232 3 rfl rfl rfl ?_
  refine j_callSH E K1 1236 dL_law_1233 sv_L_put rfl rfl (by repeat (first | with_reducible exact pick_0 | with_reducible apply pick_s | exact sel_0 | apply sel_s)) (by decide) (by omega) (by omega) (Nat.le_of_ble_eq_true rfl) rfl ?_
  rintro o dc ds ws' ⟨P', Q', f', rfl, h3, hf, rfl, hb1, hb2, hb3, hb4⟩
  dsimp only [List.cons_append, List.nil_append, Option.toList]
  dsimp only at h3 hf
  refine j_istore E 1238 dL_law_1236 (Nat.le_of_ble_eq_true rfl) rfl rfl ?_
  dsimp only [List.set]
  refine j_aload_n E 1239 dL_law_1238 2 rfl rfl rfl ?_
  refine j_scr E hT 1245 1 dL_law_1239 dL_law_1240 dL_law_1242 dL_law_1243 dL_law_1244 (by decide) rfl rfl rfl (by omega) hL ?_
  refine j_scr E hT 1251 2 dL_law_1245 dL_law_1246 dL_law_1248 dL_law_1249 dL_law_1250 (by decide) rfl rfl rfl (by omega) hL ?_
  refine j_scr E hT 1257 3 dL_law_1251 dL_law_1252 dL_law_1254 dL_law_1255 dL_law_1256 (by decide) rfl rfl rfl (by omega) hL ?_
  refine j_callV E K2 1260 dL_law_1257 _ _ _ iv_L_165 rfl rfl rfl (by repeat (first | with_reducible exact pick_0 | with_reducible apply pick_s | exact sel_0 | apply sel_s)) (by decide) (by omega) (by omega) (Nat.le_of_ble_eq_true rfl) rfl ?_
  rintro _ _ _ _ ⟨rfl, rfl, rfl, rfl⟩
  dsimp only [List.cons_append, List.nil_append, Option.toList]
  refine j_istore E 1262 dL_law_1260 (Nat.le_of_ble_eq_true rfl) rfl rfl ?_
  dsimp only [List.set]
  refine j_aload_n E 1263 dL_law_1262 2 rfl rfl rfl ?_
  refine j_callV E (c_mg_thrown hA.1 2047 m c0 (pm + 3001) t9 us9 np9 nb9 out9 cd9 pl9) 1266 dL_law_1263 _ _ _ iv_L_104 rfl rfl rfl (by repeat (first | with_reducible exact pick_0 | with_reducible apply pick_s | exact sel_0 | apply sel_s)) (by decide) (by omega) (by omega) (Nat.le_of_ble_eq_true rfl) rfl ?_
  rintro _ _ _ _ ⟨rfl, rfl, rfl, rfl⟩
  dsimp only [List.cons_append, List.nil_append, Option.toList]
  refine j_iload E 1268 dL_law_1266 rfl rfl ?_
  refine j_icmp_eq E 1273 1271 dL_law_1268 (by decide) rfl (fun _ => ?_) (fun h => absurd rfl h)
  refine j_iload E 1275 dL_law_1273 rfl rfl ?_
  refine j_if_ne E 1290 1278 dL_law_1275 (by decide) rfl (fun _ => ?_) (fun h0 => ?_)
  · refine j_goto E 1696 dL_law_1290 (by decide) ?_
    refine j_forget 5 ?_
    refine j_forget 6 ?_
    dsimp only [List.set]
    refine j_sel (pre := [PGA X.1 z x (t9, us9, np9, nb9, out9, cd9, pl9) P' Q', MGA X.1 m (nI c0) (t9, us9, np9, nb9, out9, cd9, pl9) (pm + 3001), pt ob (aJ X.1 1 f')]) (by repeat (first | with_reducible exact pick_0 | with_reducible apply pick_s | exact sel_0 | apply sel_s)) ?_
    exact kk (t9, us9, np9, nb9, out9, cd9, pl9) P' Q' _ _ _ _ _ (ls_step (dc := dc) (ds := ds) (M := 40000) (N := 1726880 - Q) hLS hc ⟨hb1, hb2, hb3, hb4⟩ hln)
  have e0 : c0 = 0 := (nI_eq (b := 0) (by omega) (by decide)).mp h0
  refine j_aload_n E 1279 dL_law_1278 3 rfl rfl rfl ?_
  refine j_iconst E (0) 1280 dL_law_1279 (by decide) rfl ?_
  refine j_lald E 1281 dL_law_1280 (by repeat (first | with_reducible exact pick_0 | with_reducible apply pick_s)) vp_in01 rfl ?_
  refine j_eql (y := v0.toInt64) (by rw [clamp0]; exact hf e0) ?_
  refine j_iload E 1283 dL_law_1281 rfl rfl ?_
  refine j_i2l E 1284 dL_law_1283 rfl ?_
  refine j_lcmp E 1285 dL_law_1284 rfl ?_
  refine j_eqi (y := 0) ((lg_cmp_eq _ _).mpr rfl) ?_
  refine j_if_eq E 1290 1288 dL_law_1285 (by decide) rfl (fun _ => ?_) (fun h => absurd rfl h)
  refine j_goto E 1696 dL_law_1290 (by decide) ?_
  refine j_forget 5 ?_
  refine j_forget 6 ?_
  dsimp only [List.set]
  refine j_sel (pre := [PGA X.1 z x (t9, us9, np9, nb9, out9, cd9, pl9) P' Q', MGA X.1 m (nI c0) (t9, us9, np9, nb9, out9, cd9, pl9) (pm + 3001), pt ob (aJ X.1 1 f')]) (by repeat (first | with_reducible exact pick_0 | with_reducible apply pick_s | exact sel_0 | apply sel_s)) ?_
  exact kk (t9, us9, np9, nb9, out9, cd9, pl9) P' Q' _ _ _ _ _ (ls_step (dc := dc) (ds := ds) (M := 40000) (N := 1726880 - Q) hLS hc ⟨hb1, hb2, hb3, hb4⟩ hln)
set_option maxHeartbeats 8000000 in
theorem lw_about {X : XT} {z : Nat → Nat} (hA : GA X.1 z) (h4 : GLB4 X.1) (E : JE X RL cL_law 8 2048 600384 7289322) {b L i c x m ob P Q pm k n : Nat} {xs : Nat → Int32} {S : AS} {th : Int32} {f : Nat → Int64} (hT : OT X.1 .int b L (fun j => .int (xs j))) (hL : L ≤ 384) (hi : i + 6 ≤ L) (hc : c < 64) (hok : AOk S) (hP : P ≤ 9100000) (hQ : Q ≤ 1500000) (hLS : RMC c S.1.length P Q pm k n) (kk : KK X z b x m ob i (c + 1)) : J X 8 [PGA X.1 z x S P Q, MGA X.1 m th S pm, pt ob (aJ X.1 1 f)] k n 1293 [some (.ref b), some (.ref x), some (.ref m), some (.ref ob), some (.int (nI i)), none, none, none] [] := by
  obtain ⟨tape, us, np, nb, out, cd, pl⟩ := S
  have hls := hLS
  obtain ⟨l1, l2, l3, l4⟩ := hls
  dsimp only at l1
  obtain ⟨T, hT9⟩ : ∃ T, T = (sAbout (xs (i + 1)) (xs (i + 2)) (tape, us, np, nb, out, cd, pl)) := ⟨_, rfl⟩
  have hln : LNt (tape, us, np, nb, out, cd, pl) (sAbout (xs (i + 1)) (xs (i + 2)) (tape, us, np, nb, out, cd, pl)).2.2 := ln_about
  have K1 := c_L_about hA h4 2047 40000 (1726880 - Q) x ob P Q f (xs (i + 1)) (xs (i + 2)) (tape, us, np, nb, out, cd, pl) (by decide) (by dsimp only; omega) (by dsimp only; omega)
  have K2 := c_mg_about hA.1 2047 m th tape us np nb out cd pl pm (xs (i + 1)) (xs (i + 2)) hok (by omega) (by decide)
  rw [← hT9] at K1 K2 hln
  clear hT9
  obtain ⟨c0, v0, t9, us9, np9, nb9, out9, cd9, pl9⟩ := T
  dsimp only at K1 K2 hln
  refine j_aload_n E 1294 dL_law_1293 1 rfl rfl rfl ?_
  refine j_scr E hT 1300 1 dL_law_1294 dL_law_1295 dL_law_1297 dL_law_1298 dL_law_1299 (by decide) rfl rfl rfl (by omega) hL ?_
  refine j_scr E hT 1306 2 dL_law_1300 dL_law_1301 dL_law_1303 dL_law_1304 dL_law_1305 (by decide) rfl rfl rfl (by omega) hL ?_
  refine j_aload_n E 1307 dL_law_1306 3 rfl rfl rfl ?_
  refine j_callSH E K1 1310 dL_law_1307 sv_L_about rfl rfl (by repeat (first | with_reducible exact pick_0 | with_reducible apply pick_s | exact sel_0 | apply sel_s)) (by decide) (by omega) (by omega) (Nat.le_of_ble_eq_true rfl) rfl ?_
  rintro o dc ds ws' ⟨P', Q', f', rfl, h3, hf, rfl, hb1, hb2, hb3, hb4⟩
  dsimp only [List.cons_append, List.nil_append, Option.toList]
  dsimp only at h3 hf
  refine j_istore E 1312 dL_law_1310 (Nat.le_of_ble_eq_true rfl) rfl rfl ?_
  dsimp only [List.set]
  refine j_aload_n E 1313 dL_law_1312 2 rfl rfl rfl ?_
  refine j_scr E hT 1319 1 dL_law_1313 dL_law_1314 dL_law_1316 dL_law_1317 dL_law_1318 (by decide) rfl rfl rfl (by omega) hL ?_
  refine j_scr E hT 1325 2 dL_law_1319 dL_law_1320 dL_law_1322 dL_law_1323 dL_law_1324 (by decide) rfl rfl rfl (by omega) hL ?_
  refine j_callV E K2 1328 dL_law_1325 _ _ _ iv_L_168 rfl rfl rfl (by repeat (first | with_reducible exact pick_0 | with_reducible apply pick_s | exact sel_0 | apply sel_s)) (by decide) (by omega) (by omega) (Nat.le_of_ble_eq_true rfl) rfl ?_
  rintro _ _ _ _ ⟨rfl, rfl, rfl, rfl⟩
  dsimp only [List.cons_append, List.nil_append, Option.toList]
  refine j_istore E 1330 dL_law_1328 (Nat.le_of_ble_eq_true rfl) rfl rfl ?_
  dsimp only [List.set]
  refine j_aload_n E 1331 dL_law_1330 2 rfl rfl rfl ?_
  refine j_callV E (c_mg_thrown hA.1 2047 m c0 (pm + 3001) t9 us9 np9 nb9 out9 cd9 pl9) 1334 dL_law_1331 _ _ _ iv_L_104 rfl rfl rfl (by repeat (first | with_reducible exact pick_0 | with_reducible apply pick_s | exact sel_0 | apply sel_s)) (by decide) (by omega) (by omega) (Nat.le_of_ble_eq_true rfl) rfl ?_
  rintro _ _ _ _ ⟨rfl, rfl, rfl, rfl⟩
  dsimp only [List.cons_append, List.nil_append, Option.toList]
  refine j_iload E 1336 dL_law_1334 rfl rfl ?_
  refine j_icmp_eq E 1341 1339 dL_law_1336 (by decide) rfl (fun _ => ?_) (fun h => absurd rfl h)
  refine j_iload E 1343 dL_law_1341 rfl rfl ?_
  refine j_if_ne E 1358 1346 dL_law_1343 (by decide) rfl (fun _ => ?_) (fun h0 => ?_)
  · refine j_goto E 1696 dL_law_1358 (by decide) ?_
    refine j_forget 5 ?_
    refine j_forget 6 ?_
    dsimp only [List.set]
    refine j_sel (pre := [PGA X.1 z x (t9, us9, np9, nb9, out9, cd9, pl9) P' Q', MGA X.1 m (nI c0) (t9, us9, np9, nb9, out9, cd9, pl9) (pm + 3001), pt ob (aJ X.1 1 f')]) (by repeat (first | with_reducible exact pick_0 | with_reducible apply pick_s | exact sel_0 | apply sel_s)) ?_
    exact kk (t9, us9, np9, nb9, out9, cd9, pl9) P' Q' _ _ _ _ _ (ls_step (dc := dc) (ds := ds) (M := 40000) (N := 1726880 - Q) hLS hc ⟨hb1, hb2, hb3, hb4⟩ hln)
  have e0 : c0 = 0 := (nI_eq (b := 0) (by omega) (by decide)).mp h0
  refine j_aload_n E 1347 dL_law_1346 3 rfl rfl rfl ?_
  refine j_iconst E (0) 1348 dL_law_1347 (by decide) rfl ?_
  refine j_lald E 1349 dL_law_1348 (by repeat (first | with_reducible exact pick_0 | with_reducible apply pick_s)) vp_in01 rfl ?_
  refine j_eql (y := v0.toInt64) (by rw [clamp0]; exact hf e0) ?_
  refine j_iload E 1351 dL_law_1349 rfl rfl ?_
  refine j_i2l E 1352 dL_law_1351 rfl ?_
  refine j_lcmp E 1353 dL_law_1352 rfl ?_
  refine j_eqi (y := 0) ((lg_cmp_eq _ _).mpr rfl) ?_
  refine j_if_eq E 1358 1356 dL_law_1353 (by decide) rfl (fun _ => ?_) (fun h => absurd rfl h)
  refine j_goto E 1696 dL_law_1358 (by decide) ?_
  refine j_forget 5 ?_
  refine j_forget 6 ?_
  dsimp only [List.set]
  refine j_sel (pre := [PGA X.1 z x (t9, us9, np9, nb9, out9, cd9, pl9) P' Q', MGA X.1 m (nI c0) (t9, us9, np9, nb9, out9, cd9, pl9) (pm + 3001), pt ob (aJ X.1 1 f')]) (by repeat (first | with_reducible exact pick_0 | with_reducible apply pick_s | exact sel_0 | apply sel_s)) ?_
  exact kk (t9, us9, np9, nb9, out9, cd9, pl9) P' Q' _ _ _ _ _ (ls_step (dc := dc) (ds := ds) (M := 40000) (N := 1726880 - Q) hLS hc ⟨hb1, hb2, hb3, hb4⟩ hln)

/-! the model: a value without parts -/
set_option maxHeartbeats 8000000 in
theorem c_m_plain {g : GT} (hG : GLB g) (d m : Nat) (r : Nat → Nat) {th ts os vc lc bc pkg cm op fc fp at_ bgc got : Int32} {pr : Int64} (a i : Nat) (st : Option (List UInt8)) (us : List VT) (zs : List Nat) (R : LK) (nb : Nat) (mk : Nat → Nat) (hd : 9 ≤ d) (hi : i < us.length) (hz : zs.getD i 0 = vlen (vAt us i)) (hv : VTok us.length 6000 (vAt us i)) (hg : ¬ ((vAt us i).1 = 7 ∨ (vAt us i).1 = 8)) : CtrV g mX8_plainTo 7 d 0 0 m [.ref a, .int (nI i)] [MF m r th ts os vc lc bc (pkP st) pkg cm (fuP st) op fc fp at_ bgc got pr, BF g a st, TB g r us zs R nb mk] (fun o dc ds ws' => o = none ∧ dc = 0 ∧ ds = 0 ∧ ws' = [MF m r th ts os vc lc bc (pkP (wr 65536 st (leafE (vAt us i)))) pkg cm (fuP (wr 65536 st (leafE (vAt us i)))) op fc fp at_ bgc got pr, BF g a (wr 65536 st (leafE (vAt us i))), TB g r us zs R nb mk]) noX := by
  refine ⟨rcv_pt, ?_⟩
  refine ctr_intro hG (by decide +kernel) (Nat.le_of_ble_eq_true rfl) ?_
  rintro X F rfl E B hI T
  replace E : JE X RX8 cX8_plainTo 3 d 0 0 := E
  show J X _ [MF m r th ts os vc lc bc (pkP st) pkg cm (fuP st) op fc fp at_ bgc got pr, BF X.1 a st, TB X.1 r us zs R nb mk, F] 0 0 0 [some (.ref m), some (.ref a), some (.int (nI i))] []
  refine j_know (pick_know (P := TB X.1 r us zs R nb mk) (by repeat (first | with_reducible exact pick_0 | with_reducible apply pick_s)) tb_know) (fun hk9 => ?_)
  obtain ⟨u, hu⟩ : ∃ u, u = vAt us i := ⟨_, rfl⟩
  have hz9 : ¬ (u.1 = 7 ∨ u.1 = 8) → zs.getD i 0 = u.2.2.2.1.length := fun q => by
    rw [hz, ← hu, vlen, if_neg (fun e => q (Or.inr e)), if_neg (fun e => q (Or.inl e))]
  rw [← hu] at hv hg B
  obtain ⟨kd, nm, dt, bs, ps⟩ := u
  have hk10 : kd ≤ 10 := hv.1
  have hbl : bs.length ≤ 65536 := hv.2.1
  have hz8 := hz9 hg
  dsimp only at hg hz8
  have hzb : zs.getD i 0 = (vAt us i).2.2.2.1.length := by rw [← hu]; exact hz8
  have hbs9 : (vAt us i).2.2.2.1 = bs := by rw [← hu]
  refine j_aload_n E 1 dX8_plainTo_0 0 rfl rfl rfl ?_
  refine j_getf E 4 dX8_plainTo_1 fl_X8_17 (by repeat (first | with_reducible exact pick_0 | with_reducible apply pick_s)) (by rfl) rfl ?_
  refine j_iload_n E 5 dX8_plainTo_4 2 rfl rfl rfl ?_
  refine j_tbK E 6 dX8_plainTo_5 (by repeat (first | with_reducible exact pick_0 | with_reducible apply pick_s)) hi rfl ?_
  rw [← hu]
  dsimp only
  have ek : kd = 0 ∨ kd = 1 ∨ kd = 2 ∨ kd = 3 ∨ kd = 4 ∨ kd = 5 ∨ kd = 6 ∨ kd = 9 ∨ kd = 10 := by omega
  rcases ek with e | e | e | e | e | e | e | e | e
  · subst e
    refine j_tableIn E (off := 54) 60 dX8_plainTo_6 (by decide) (by decide) (by rfl) (by decide) ?_
    rw [show leafE (0, nm, dt, bs, ps) = b1 192 from rfl] at B
    rw [b1_lo] at B
    refine j_aload_n E 61 dX8_plainTo_60 0 rfl rfl rfl ?_
    refine j_aload_n E 62 dX8_plainTo_61 1 rfl rfl rfl ?_
    refine j_sipush E (192) 65 dX8_plainTo_62 (by decide) rfl ?_
    refine j_callV E (c_m_byte hG (d-1) m r a (nI 192) st) 68 dX8_plainTo_65 _ _ _ iv_X8_209 rfl rfl rfl (by repeat (first | with_reducible exact pick_0 | with_reducible apply pick_s | exact sel_0 | apply sel_s)) (by omega) (by omega) (by omega) (Nat.le_of_ble_eq_true rfl) rfl ?_
    rintro _ _ _ _ ⟨rfl, rfl, rfl, rfl⟩
    dsimp only [List.cons_append, List.nil_append, Option.toList]
    refine j_goto E 264 dX8_plainTo_68 (by decide) ?_
    exact j_vret E B rfl 0 0 dX8_plainTo_264 (by repeat (first | with_reducible exact pick_0 | with_reducible apply pick_s | exact sel_0 | apply sel_s)) ⟨rfl, rfl, rfl, rfl⟩ (by omega) (by omega) (by omega) (by omega)
  · subst e
    refine j_tableIn E (off := 65) 71 dX8_plainTo_6 (by decide) (by decide) (by rfl) (by decide) ?_
    rw [show leafE (1, nm, dt, bs, ps) = beB (194 + dt).toInt64 1 from rfl] at B
    rw [show beB (194 + dt).toInt64 1 = [lo8 (194 + dt)] by show [lowB (194 + dt).toInt64 0] = _; rw [low0, Int32.toInt32_toInt64]] at B
    refine j_aload_n E 72 dX8_plainTo_71 0 rfl rfl rfl ?_
    refine j_aload_n E 73 dX8_plainTo_72 1 rfl rfl rfl ?_
    refine j_sipush E (194) 76 dX8_plainTo_73 (by decide) rfl ?_
    refine j_aload_n E 77 dX8_plainTo_76 0 rfl rfl rfl ?_
    refine j_getf E 80 dX8_plainTo_77 fl_X8_29 (by repeat (first | with_reducible exact pick_0 | with_reducible apply pick_s)) (by rfl) rfl ?_
    refine j_iload_n E 81 dX8_plainTo_80 2 rfl rfl rfl ?_
    refine j_tbE E 82 dX8_plainTo_81 (by repeat (first | with_reducible exact pick_0 | with_reducible apply pick_s)) hi rfl ?_
    rw [← hu]
    dsimp only
    rw [if_neg (show ¬ (1 = 2) by decide)]
    refine j_iadd E 83 dX8_plainTo_82 rfl ?_
    refine j_callV E (c_m_byte hG (d-1) m r a (194 + dt) st) 86 dX8_plainTo_83 _ _ _ iv_X8_209 rfl rfl rfl (by repeat (first | with_reducible exact pick_0 | with_reducible apply pick_s | exact sel_0 | apply sel_s)) (by omega) (by omega) (by omega) (Nat.le_of_ble_eq_true rfl) rfl ?_
    rintro _ _ _ _ ⟨rfl, rfl, rfl, rfl⟩
    dsimp only [List.cons_append, List.nil_append, Option.toList]
    refine j_goto E 264 dX8_plainTo_86 (by decide) ?_
    exact j_vret E B rfl 0 0 dX8_plainTo_264 (by repeat (first | with_reducible exact pick_0 | with_reducible apply pick_s | exact sel_0 | apply sel_s)) ⟨rfl, rfl, rfl, rfl⟩ (by omega) (by omega) (by omega) (by omega)
  · subst e
    refine j_tableIn E (off := 83) 89 dX8_plainTo_6 (by decide) (by decide) (by rfl) (by decide) ?_
    rw [show leafE (2, nm, dt, bs, ps) = intE nm (decide (dt = 1)) from rfl] at B
    refine j_aload_n E 90 dX8_plainTo_89 0 rfl rfl rfl ?_
    refine j_aload_n E 91 dX8_plainTo_90 1 rfl rfl rfl ?_
    refine j_aload_n E 92 dX8_plainTo_91 0 rfl rfl rfl ?_
    refine j_getf E 95 dX8_plainTo_92 fl_X8_21 (by repeat (first | with_reducible exact pick_0 | with_reducible apply pick_s)) (by rfl) rfl ?_
    refine j_iload_n E 96 dX8_plainTo_95 2 rfl rfl rfl ?_
    refine j_tbN E 97 dX8_plainTo_96 (by repeat (first | with_reducible exact pick_0 | with_reducible apply pick_s)) hi rfl ?_
    refine j_aload_n E 98 dX8_plainTo_97 0 rfl rfl rfl ?_
    refine j_getf E 101 dX8_plainTo_98 fl_X8_25 (by repeat (first | with_reducible exact pick_0 | with_reducible apply pick_s)) (by rfl) rfl ?_
    refine j_iload_n E 102 dX8_plainTo_101 2 rfl rfl rfl ?_
    refine j_tbH E 103 dX8_plainTo_102 (by repeat (first | with_reducible exact pick_0 | with_reducible apply pick_s)) hi rfl ?_
    rw [← hu]
    dsimp only
    refine j_eqi (y := bI (decide (dt = 1))) (by by_cases q : dt = 1 <;> simp [bI, q]) ?_
    refine j_callV E (c_m_int hG (d-1) m r a nm (decide (dt = 1)) st (by omega)) 106 dX8_plainTo_103 _ _ _ iv_X8_229 rfl rfl rfl (by repeat (first | with_reducible exact pick_0 | with_reducible apply pick_s | exact sel_0 | apply sel_s)) (by omega) (by omega) (by omega) (Nat.le_of_ble_eq_true rfl) rfl ?_
    rintro _ _ _ _ ⟨rfl, rfl, rfl, rfl⟩
    dsimp only [List.cons_append, List.nil_append, Option.toList]
    refine j_goto E 264 dX8_plainTo_106 (by decide) ?_
    exact j_vret E B rfl 0 0 dX8_plainTo_264 (by repeat (first | with_reducible exact pick_0 | with_reducible apply pick_s | exact sel_0 | apply sel_s)) ⟨rfl, rfl, rfl, rfl⟩ (by omega) (by omega) (by omega) (by omega)
  · subst e
    refine j_tableIn E (off := 103) 109 dX8_plainTo_6 (by decide) (by decide) (by rfl) (by decide) ?_
    rw [show leafE (3, nm, dt, bs, ps) = b1 202 ++ beB nm 4 from rfl] at B
    rw [b1_lo] at B
    refine j_aload_n E 110 dX8_plainTo_109 0 rfl rfl rfl ?_
    refine j_aload_n E 111 dX8_plainTo_110 1 rfl rfl rfl ?_
    refine j_sipush E (202) 114 dX8_plainTo_111 (by decide) rfl ?_
    refine j_callV E (c_m_byte hG (d-1) m r a (nI 202) st) 117 dX8_plainTo_114 _ _ _ iv_X8_209 rfl rfl rfl (by repeat (first | with_reducible exact pick_0 | with_reducible apply pick_s | exact sel_0 | apply sel_s)) (by omega) (by omega) (by omega) (Nat.le_of_ble_eq_true rfl) rfl ?_
    rintro _ _ _ _ ⟨rfl, rfl, rfl, rfl⟩
    dsimp only [List.cons_append, List.nil_append, Option.toList]
    refine j_aload_n E 118 dX8_plainTo_117 0 rfl rfl rfl ?_
    refine j_aload_n E 119 dX8_plainTo_118 1 rfl rfl rfl ?_
    refine j_aload_n E 120 dX8_plainTo_119 0 rfl rfl rfl ?_
    refine j_getf E 123 dX8_plainTo_120 fl_X8_21 (by repeat (first | with_reducible exact pick_0 | with_reducible apply pick_s)) (by rfl) rfl ?_
    refine j_iload_n E 124 dX8_plainTo_123 2 rfl rfl rfl ?_
    refine j_tbN E 125 dX8_plainTo_124 (by repeat (first | with_reducible exact pick_0 | with_reducible apply pick_s)) hi rfl ?_
    rw [← hu]
    dsimp only
    refine j_iconst E (4) 126 dX8_plainTo_125 (by decide) rfl ?_
    refine j_callV E (c_m_num hG (d-1) m r a 4 nm _ (by omega) (by decide)) 129 dX8_plainTo_126 _ _ _ iv_X8_213 rfl rfl rfl (by repeat (first | with_reducible exact pick_0 | with_reducible apply pick_s | exact sel_0 | apply sel_s)) (by omega) (by omega) (by omega) (Nat.le_of_ble_eq_true rfl) rfl ?_
    rintro _ _ _ _ ⟨rfl, rfl, rfl, rfl⟩
    dsimp only [List.cons_append, List.nil_append, Option.toList]
    rw [wr_app]
    refine j_goto E 264 dX8_plainTo_129 (by decide) ?_
    exact j_vret E B rfl 0 0 dX8_plainTo_264 (by repeat (first | with_reducible exact pick_0 | with_reducible apply pick_s | exact sel_0 | apply sel_s)) ⟨rfl, rfl, rfl, rfl⟩ (by omega) (by omega) (by omega) (by omega)
  · subst e
    refine j_tableIn E (off := 126) 132 dX8_plainTo_6 (by decide) (by decide) (by rfl) (by decide) ?_
    rw [show leafE (4, nm, dt, bs, ps) = b1 203 ++ beB nm 8 from rfl] at B
    rw [b1_lo] at B
    refine j_aload_n E 133 dX8_plainTo_132 0 rfl rfl rfl ?_
    refine j_aload_n E 134 dX8_plainTo_133 1 rfl rfl rfl ?_
    refine j_sipush E (203) 137 dX8_plainTo_134 (by decide) rfl ?_
    refine j_callV E (c_m_byte hG (d-1) m r a (nI 203) st) 140 dX8_plainTo_137 _ _ _ iv_X8_209 rfl rfl rfl (by repeat (first | with_reducible exact pick_0 | with_reducible apply pick_s | exact sel_0 | apply sel_s)) (by omega) (by omega) (by omega) (Nat.le_of_ble_eq_true rfl) rfl ?_
    rintro _ _ _ _ ⟨rfl, rfl, rfl, rfl⟩
    dsimp only [List.cons_append, List.nil_append, Option.toList]
    refine j_aload_n E 141 dX8_plainTo_140 0 rfl rfl rfl ?_
    refine j_aload_n E 142 dX8_plainTo_141 1 rfl rfl rfl ?_
    refine j_aload_n E 143 dX8_plainTo_142 0 rfl rfl rfl ?_
    refine j_getf E 146 dX8_plainTo_143 fl_X8_21 (by repeat (first | with_reducible exact pick_0 | with_reducible apply pick_s)) (by rfl) rfl ?_
    refine j_iload_n E 147 dX8_plainTo_146 2 rfl rfl rfl ?_
    refine j_tbN E 148 dX8_plainTo_147 (by repeat (first | with_reducible exact pick_0 | with_reducible apply pick_s)) hi rfl ?_
    rw [← hu]
    dsimp only
    refine j_bipush E (8) 150 dX8_plainTo_148 (by decide) rfl ?_
    refine j_callV E (c_m_num hG (d-1) m r a 8 nm _ (by omega) (by decide)) 153 dX8_plainTo_150 _ _ _ iv_X8_213 rfl rfl rfl (by repeat (first | with_reducible exact pick_0 | with_reducible apply pick_s | exact sel_0 | apply sel_s)) (by omega) (by omega) (by omega) (Nat.le_of_ble_eq_true rfl) rfl ?_
    rintro _ _ _ _ ⟨rfl, rfl, rfl, rfl⟩
    dsimp only [List.cons_append, List.nil_append, Option.toList]
    rw [wr_app]
    refine j_goto E 264 dX8_plainTo_153 (by decide) ?_
    exact j_vret E B rfl 0 0 dX8_plainTo_264 (by repeat (first | with_reducible exact pick_0 | with_reducible apply pick_s | exact sel_0 | apply sel_s)) ⟨rfl, rfl, rfl, rfl⟩ (by omega) (by omega) (by omega) (by omega)
  · subst e
    refine j_tableIn E (off := 150) 156 dX8_plainTo_6 (by decide) (by decide) (by rfl) (by decide) ?_
    rw [show leafE (5, nm, dt, bs, ps) = hdE (if bs.length < 32 then some (160 + bs.length) else none) 217 bs.length ++ bs from rfl] at B
    rw [← cnt_text] at B
    refine j_aload_n E 157 dX8_plainTo_156 0 rfl rfl rfl ?_
    refine j_aload_n E 158 dX8_plainTo_157 1 rfl rfl rfl ?_
    refine j_aload_n E 159 dX8_plainTo_158 0 rfl rfl rfl ?_
    refine j_getf E 162 dX8_plainTo_159 fl_X8_38 (by repeat (first | with_reducible exact pick_0 | with_reducible apply pick_s)) (by rfl) rfl ?_
    refine j_iload_n E 163 dX8_plainTo_162 2 rfl rfl rfl ?_
    refine j_tbZ E 164 dX8_plainTo_163 (by repeat (first | with_reducible exact pick_0 | with_reducible apply pick_s)) hi rfl ?_
    rw [hz8]
    refine j_bipush E (32) 166 dX8_plainTo_164 (by decide) rfl ?_
    refine j_sipush E (160) 169 dX8_plainTo_166 (by decide) rfl ?_
    refine j_sipush E (217) 172 dX8_plainTo_169 (by decide) rfl ?_
    refine j_sipush E (218) 175 dX8_plainTo_172 (by decide) rfl ?_
    refine j_sipush E (219) 178 dX8_plainTo_175 (by decide) rfl ?_
    refine j_callV E (c_m_count hG (d-1) m r a bs.length 32 160 217 218 219 st (by omega) (by omega) (by decide) (by decide)) 181 dX8_plainTo_178 _ _ _ iv_X8_225 rfl rfl rfl (by repeat (first | with_reducible exact pick_0 | with_reducible apply pick_s | exact sel_0 | apply sel_s)) (by omega) (by omega) (by omega) (Nat.le_of_ble_eq_true rfl) rfl ?_
    rintro _ _ _ _ ⟨rfl, rfl, rfl, rfl⟩
    dsimp only [List.cons_append, List.nil_append, Option.toList]
    refine j_aload_n E 182 dX8_plainTo_181 0 rfl rfl rfl ?_
    refine j_aload_n E 183 dX8_plainTo_182 1 rfl rfl rfl ?_
    refine j_iload_n E 184 dX8_plainTo_183 2 rfl rfl rfl ?_
    refine j_callV E (c_m_bytes hG (d-1) m r a i _ us zs R nb mk (by omega) hi hzb) 187 dX8_plainTo_184 _ _ _ iv_X8_233 rfl rfl rfl (by repeat (first | with_reducible exact pick_0 | with_reducible apply pick_s | exact sel_0 | apply sel_s)) (by omega) (by omega) (by omega) (Nat.le_of_ble_eq_true rfl) rfl ?_
    rintro _ _ _ _ ⟨rfl, rfl, rfl, rfl⟩
    dsimp only [List.cons_append, List.nil_append, Option.toList]
    rw [hbs9, wr_app]
    refine j_goto E 264 dX8_plainTo_187 (by decide) ?_
    exact j_vret E B rfl 0 0 dX8_plainTo_264 (by repeat (first | with_reducible exact pick_0 | with_reducible apply pick_s | exact sel_0 | apply sel_s)) ⟨rfl, rfl, rfl, rfl⟩ (by omega) (by omega) (by omega) (by omega)
  · subst e
    refine j_tableIn E (off := 184) 190 dX8_plainTo_6 (by decide) (by decide) (by rfl) (by decide) ?_
    rw [show leafE (6, nm, dt, bs, ps) = hdE none 196 bs.length ++ bs from rfl] at B
    rw [← cnt_hd bs.length 196 (by decide)] at B
    refine j_aload_n E 191 dX8_plainTo_190 0 rfl rfl rfl ?_
    refine j_aload_n E 192 dX8_plainTo_191 1 rfl rfl rfl ?_
    refine j_aload_n E 193 dX8_plainTo_192 0 rfl rfl rfl ?_
    refine j_getf E 196 dX8_plainTo_193 fl_X8_38 (by repeat (first | with_reducible exact pick_0 | with_reducible apply pick_s)) (by rfl) rfl ?_
    refine j_iload_n E 197 dX8_plainTo_196 2 rfl rfl rfl ?_
    refine j_tbZ E 198 dX8_plainTo_197 (by repeat (first | with_reducible exact pick_0 | with_reducible apply pick_s)) hi rfl ?_
    rw [hz8]
    refine j_iconst E (0) 199 dX8_plainTo_198 (by decide) rfl ?_
    refine j_iconst E (0) 200 dX8_plainTo_199 (by decide) rfl ?_
    refine j_sipush E (196) 203 dX8_plainTo_200 (by decide) rfl ?_
    refine j_sipush E (197) 206 dX8_plainTo_203 (by decide) rfl ?_
    refine j_sipush E (198) 209 dX8_plainTo_206 (by decide) rfl ?_
    refine j_callV E (c_m_count hG (d-1) m r a bs.length 0 0 196 197 198 st (by omega) (by omega) (by decide) (by decide)) 212 dX8_plainTo_209 _ _ _ iv_X8_225 rfl rfl rfl (by repeat (first | with_reducible exact pick_0 | with_reducible apply pick_s | exact sel_0 | apply sel_s)) (by omega) (by omega) (by omega) (Nat.le_of_ble_eq_true rfl) rfl ?_
    rintro _ _ _ _ ⟨rfl, rfl, rfl, rfl⟩
    dsimp only [List.cons_append, List.nil_append, Option.toList]
    refine j_aload_n E 213 dX8_plainTo_212 0 rfl rfl rfl ?_
    refine j_aload_n E 214 dX8_plainTo_213 1 rfl rfl rfl ?_
    refine j_iload_n E 215 dX8_plainTo_214 2 rfl rfl rfl ?_
    refine j_callV E (c_m_bytes hG (d-1) m r a i _ us zs R nb mk (by omega) hi hzb) 218 dX8_plainTo_215 _ _ _ iv_X8_233 rfl rfl rfl (by repeat (first | with_reducible exact pick_0 | with_reducible apply pick_s | exact sel_0 | apply sel_s)) (by omega) (by omega) (by omega) (Nat.le_of_ble_eq_true rfl) rfl ?_
    rintro _ _ _ _ ⟨rfl, rfl, rfl, rfl⟩
    dsimp only [List.cons_append, List.nil_append, Option.toList]
    rw [hbs9, wr_app]
    refine j_goto E 264 dX8_plainTo_218 (by decide) ?_
    exact j_vret E B rfl 0 0 dX8_plainTo_264 (by repeat (first | with_reducible exact pick_0 | with_reducible apply pick_s | exact sel_0 | apply sel_s)) ⟨rfl, rfl, rfl, rfl⟩ (by omega) (by omega) (by omega) (by omega)
  · subst e
    refine j_tableIn E (off := 215) 221 dX8_plainTo_6 (by decide) (by decide) (by rfl) (by decide) ?_
    rw [show leafE (9, nm, dt, bs, ps) = (hdE (xl bs.length) 199 bs.length ++ beB dt.toInt64 1) ++ bs from rfl] at B
    rw [show beB dt.toInt64 1 = [lo8 dt] by show [lowB dt.toInt64 0] = _; rw [low0, Int32.toInt32_toInt64]] at B
    refine j_aload_n E 222 dX8_plainTo_221 0 rfl rfl rfl ?_
    refine j_aload_n E 223 dX8_plainTo_222 1 rfl rfl rfl ?_
    refine j_aload_n E 224 dX8_plainTo_223 0 rfl rfl rfl ?_
    refine j_getf E 227 dX8_plainTo_224 fl_X8_38 (by repeat (first | with_reducible exact pick_0 | with_reducible apply pick_s)) (by rfl) rfl ?_
    refine j_iload_n E 228 dX8_plainTo_227 2 rfl rfl rfl ?_
    refine j_tbZ E 229 dX8_plainTo_228 (by repeat (first | with_reducible exact pick_0 | with_reducible apply pick_s)) hi rfl ?_
    rw [hz8]
    refine j_aload_n E 230 dX8_plainTo_229 0 rfl rfl rfl ?_
    refine j_getf E 233 dX8_plainTo_230 fl_X8_29 (by repeat (first | with_reducible exact pick_0 | with_reducible apply pick_s)) (by rfl) rfl ?_
    refine j_iload_n E 234 dX8_plainTo_233 2 rfl rfl rfl ?_
    refine j_tbE E 235 dX8_plainTo_234 (by repeat (first | with_reducible exact pick_0 | with_reducible apply pick_s)) hi rfl ?_
    rw [← hu]
    dsimp only
    rw [if_neg (show ¬ (9 = 2) by decide)]
    refine j_callV E (c_m_ext hG (d-1) m r a bs.length dt st (by omega) (by omega)) 238 dX8_plainTo_235 _ _ _ iv_X8_236 rfl rfl rfl (by repeat (first | with_reducible exact pick_0 | with_reducible apply pick_s | exact sel_0 | apply sel_s)) (by omega) (by omega) (by omega) (Nat.le_of_ble_eq_true rfl) rfl ?_
    rintro _ _ _ _ ⟨rfl, rfl, rfl, rfl⟩
    dsimp only [List.cons_append, List.nil_append, Option.toList]
    refine j_aload_n E 239 dX8_plainTo_238 0 rfl rfl rfl ?_
    refine j_aload_n E 240 dX8_plainTo_239 1 rfl rfl rfl ?_
    refine j_iload_n E 241 dX8_plainTo_240 2 rfl rfl rfl ?_
    refine j_callV E (c_m_bytes hG (d-1) m r a i _ us zs R nb mk (by omega) hi hzb) 244 dX8_plainTo_241 _ _ _ iv_X8_233 rfl rfl rfl (by repeat (first | with_reducible exact pick_0 | with_reducible apply pick_s | exact sel_0 | apply sel_s)) (by omega) (by omega) (by omega) (Nat.le_of_ble_eq_true rfl) rfl ?_
    rintro _ _ _ _ ⟨rfl, rfl, rfl, rfl⟩
    dsimp only [List.cons_append, List.nil_append, Option.toList]
    rw [hbs9, wr_app]
    refine j_goto E 264 dX8_plainTo_244 (by decide) ?_
    exact j_vret E B rfl 0 0 dX8_plainTo_264 (by repeat (first | with_reducible exact pick_0 | with_reducible apply pick_s | exact sel_0 | apply sel_s)) ⟨rfl, rfl, rfl, rfl⟩ (by omega) (by omega) (by omega) (by omega)
  · subst e
    refine j_tableOut E 247 dX8_plainTo_6 (by decide) (by decide) ?_
    rw [show leafE (10, nm, dt, bs, ps) = timeE nm dt from rfl] at B
    obtain ⟨q, hq, hdt⟩ := hv.2.2.2.2.2.2.2.1 rfl
    dsimp only at hdt
    subst hdt
    refine j_aload_n E 248 dX8_plainTo_247 0 rfl rfl rfl ?_
    refine j_aload_n E 249 dX8_plainTo_248 1 rfl rfl rfl ?_
    refine j_aload_n E 250 dX8_plainTo_249 0 rfl rfl rfl ?_
    refine j_getf E 253 dX8_plainTo_250 fl_X8_21 (by repeat (first | with_reducible exact pick_0 | with_reducible apply pick_s)) (by rfl) rfl ?_
    refine j_iload_n E 254 dX8_plainTo_253 2 rfl rfl rfl ?_
    refine j_tbN E 255 dX8_plainTo_254 (by repeat (first | with_reducible exact pick_0 | with_reducible apply pick_s)) hi rfl ?_
    refine j_aload_n E 256 dX8_plainTo_255 0 rfl rfl rfl ?_
    refine j_getf E 259 dX8_plainTo_256 fl_X8_29 (by repeat (first | with_reducible exact pick_0 | with_reducible apply pick_s)) (by rfl) rfl ?_
    refine j_iload_n E 260 dX8_plainTo_259 2 rfl rfl rfl ?_
    refine j_tbE E 261 dX8_plainTo_260 (by repeat (first | with_reducible exact pick_0 | with_reducible apply pick_s)) hi rfl ?_
    rw [← hu]
    dsimp only
    rw [if_neg (show ¬ (10 = 2) by decide)]
    refine j_callV E (c_m_time hG (d-1) m r a q nm st (by omega) hq) 264 dX8_plainTo_261 _ _ _ iv_X8_240 rfl rfl rfl (by repeat (first | with_reducible exact pick_0 | with_reducible apply pick_s | exact sel_0 | apply sel_s)) (by omega) (by omega) (by omega) (Nat.le_of_ble_eq_true rfl) rfl ?_
    rintro _ _ _ _ ⟨rfl, rfl, rfl, rfl⟩
    dsimp only [List.cons_append, List.nil_append, Option.toList]
    exact j_vret E B rfl 0 0 dX8_plainTo_264 (by repeat (first | with_reducible exact pick_0 | with_reducible apply pick_s | exact sel_0 | apply sel_s)) ⟨rfl, rfl, rfl, rfl⟩ (by omega) (by omega) (by omega) (by omega)
/-! the model: a value is packed, with a pile -/
abbrev PIL : Type := List (Nat × Int64)
def OD (g : GT) (r : Nat → Nat) (come : List Nat) : Asn := fun w => ∃ f : Nat → Int32, (∀ j, j ∈ come → f j = nI (come.idxOf j)) ∧ sepL [pt (r 23) (aI g 3000 f)] w
def PL (g : GT) (r : Nat → Nat) (s : PIL) : Asn := fun w => ∃ x : (Nat → Int32) × (Nat → Int64), (s.length ≤ 24 ∧ ∀ j e, s[j]? = some e → x.1 j = nI e.1 ∧ x.2 j = e.2) ∧ sepL [pt (r 27) (aI g 24 x.1), pt (r 28) (aJ g 24 x.2)] w
theorem od_open {g : GT} {r : Nat → Nat} {come : List Nat} : ∀ w, OD g r come w → ∃ f : Nat → Int32, (∀ j, j ∈ come → f j = nI (come.idxOf j)) ∧ sepL [pt (r 23) (aI g 3000 f)] w := fun _ h => h
theorem od_of {g : GT} {r : Nat → Nat} {f : Nat → Int32} (come : List Nat) (h : ∀ j, j ∈ come → f j = nI (come.idxOf j)) : ∀ w, sepL [pt (r 23) (aI g 3000 f)] w → OD g r come w := fun _ hw => ⟨f, h, hw⟩
theorem pl_open {g : GT} {r : Nat → Nat} {s : PIL} : ∀ w, PL g r s w → ∃ x : (Nat → Int32) × (Nat → Int64), (s.length ≤ 24 ∧ ∀ j e, s[j]? = some e → x.1 j = nI e.1 ∧ x.2 j = e.2) ∧ sepL [pt (r 27) (aI g 24 x.1), pt (r 28) (aJ g 24 x.2)] w := fun _ h => h
theorem pl_of {g : GT} {r : Nat → Nat} {fv : Nat → Int32} {fw : Nat → Int64} (s : PIL) (h : s.length ≤ 24 ∧ ∀ j e, s[j]? = some e → fv j = nI e.1 ∧ fw j = e.2) : ∀ w, sepL [pt (r 27) (aI g 24 fv), pt (r 28) (aJ g 24 fw)] w → PL g r s w := fun _ hw => ⟨(fv, fw), h, hw⟩
theorem pl_know {g : GT} {r : Nat → Nat} {s : PIL} : ∀ w, PL g r s w → s.length ≤ 24 := fun _ ⟨_, h, _⟩ => h.1
/-- marked with the number of this packing are those that were come to -/
def MKc (n pg : Nat) (mk : Nat → Nat) (come : List Nat) : Prop := ∀ j, j < n → ((mk j = pg ↔ j ∈ come) ∧ mk j ≤ pg)
def oL (o : Option Nat) : Int64 := (oI o).toInt64
/-- what valueTo does; none: it is too deep -/
def vT (v : VT) (i : Nat) (F : Option Nat) (st : Option (List UInt8)) (come : List Nat) (s : PIL) : Option (Option (List UInt8) × List Nat × PIL) :=
  if v.1 = 7 ∨ v.1 = 8 then
    (if i ∈ come then some (wr 65536 st (refE (come.idxOf i)), come, s)
    else if s.length = 24 then none
    else some (wr 65536 st (grpE v), come ++ [i], s ++ [(i, oL F)]))
  else some (wr 65536 st (leafE v), come, s)
def soI (st : Option (List UInt8)) : Int32 := match st with
  | none => 0
  | some _ => 1
def vtQ (g : GT) (m : Nat) (r : Nat → Nat) (th ts os vc lc bc fc fp at_ bgc got : Int32) (pr : Int64) (pg a : Nat) (us : List VT) (zs : List Nat) (R : LK) (nb : Nat) (T : Option (Option (List UInt8) × List Nat × PIL)) (o : Option Value) (dc ds : Nat) (ws' : List Asn) : Prop := match T with
  | none => o = some (.int 0) ∧ dc = 0 ∧ ds = 0 ∧ ∃ (st : Option (List UInt8)) (cm op : Int32) (come : List Nat) (s : PIL) (mk : Nat → Nat), (∀ j, j < us.length → mk j ≤ pg) ∧ ws' = [MF m r th ts os vc lc bc (pkP st) (nI pg) cm (fuP st) op fc fp at_ bgc got pr, BF g a st, TB g r us zs R nb mk, OD g r come, PL g r s]
  | some x => o = some (.int (soI x.1)) ∧ dc = 0 ∧ ds = 0 ∧ ∃ mk, MKc us.length pg mk x.2.1 ∧ ws' = [MF m r th ts os vc lc bc (pkP x.1) (nI pg) (nI x.2.1.length) (fuP x.1) (nI x.2.2.length) fc fp at_ bgc got pr, BF g a x.1, TB g r us zs R nb mk, OD g r x.2.1, PL g r x.2.2]
set_option maxHeartbeats 8000000 in
theorem c_m_value {g : GT} (hG : GLB g) (d m : Nat) (r : Nat → Nat) {th ts os vc lc bc fc fp at_ bgc got : Int32} {pr : Int64} (pg a i : Nat) (st : Option (List UInt8)) (come : List Nat) (s : PIL) (us : List VT) (zs : List Nat) (R : LK) (nb : Nat) (mk : Nat → Nat) (hd : 12 ≤ d) (hi : i < us.length) (hz : zs.getD i 0 = vlen (vAt us i)) (hv : VTok us.length 6000 (vAt us i)) (hmk : MKc us.length pg mk come) (hco : COk us.length come) (hpg : pg < 2 ^ 30) : CtrV g mX8_valueTo 7 d 0 0 m [.ref a, .int (nI i)] [MF m r th ts os vc lc bc (pkP st) (nI pg) (nI come.length) (fuP st) (nI s.length) fc fp at_ bgc got pr, BF g a st, TB g r us zs R nb mk, OD g r come, PL g r s] (vtQ g m r th ts os vc lc bc fc fp at_ bgc got pr pg a us zs R nb (vT (vAt us i) i (lkF R i) st come s)) noX := by
  refine ⟨rcv_pt, ?_⟩
  refine ctr_intro hG (by decide +kernel) (Nat.le_of_ble_eq_true rfl) ?_
  rintro X F rfl E B hI T
  replace E : JE X RX8 cX8_valueTo 3 d 0 0 := E
  show J X _ [MF m r th ts os vc lc bc (pkP st) (nI pg) (nI come.length) (fuP st) (nI s.length) fc fp at_ bgc got pr, BF X.1 a st, TB X.1 r us zs R nb mk, OD X.1 r come, PL X.1 r s, F] 0 0 0 [some (.ref m), some (.ref a), some (.int (nI i))] []
  refine j_know (pick_know (P := TB X.1 r us zs R nb mk) (by repeat (first | with_reducible exact pick_0 | with_reducible apply pick_s)) tb_know) (fun hk9 => ?_)
  refine j_know (pick_know (P := PL X.1 r s) (by repeat (first | with_reducible exact pick_0 | with_reducible apply pick_s)) pl_know) (fun hpl => ?_)
  obtain ⟨u, hu⟩ : ∃ u, u = vAt us i := ⟨_, rfl⟩
  have hk10 : u.1 ≤ 10 := by rw [hu]; exact hv.1
  have hcl := hco.len
  have fin : ∀ (so : Option (List UInt8)) (come' : List Nat) (s' : PIL) (mk' : Nat → Nat), vT u i (lkF R i) st come s = some (so, come', s') → MKc us.length pg mk' come' → J X 3 [MF m r th ts os vc lc bc (pkP so) (nI pg) (nI come'.length) (fuP so) (nI s'.length) fc fp at_ bgc got pr, BF X.1 a so, TB X.1 r us zs R nb mk', OD X.1 r come', PL X.1 r s', F] 0 0 204 [some (.ref m), some (.ref a), some (.int (nI i))] [] := by
    intro so come' s' mk' e hm
    rw [← hu, e] at B
    rcases so with _ | p
    · refine j_aload_n E 205 dX8_valueTo_204 0 rfl rfl rfl ?_
      refine j_getf E 208 dX8_valueTo_205 fl_X8_205 (by repeat (first | with_reducible exact pick_0 | with_reducible apply pick_s)) (by rfl) rfl ?_
      refine j_if_ne E 215 211 dX8_valueTo_208 (by decide) rfl (fun h208 => ?_) (fun h208 => ?_)
      · refine j_iconst E (0) 216 dX8_valueTo_215 (by decide) rfl ?_
        exact j_zret E B rfl (by first | exact Or.inl rfl | exact Or.inr rfl) 0 0 dX8_valueTo_216 (by repeat (first | with_reducible exact pick_0 | with_reducible apply pick_s | exact sel_0 | apply sel_s)) ⟨rfl, rfl, rfl, mk', hm, rfl⟩ (by omega) (by omega) (by omega) (by omega)
      · exact absurd h208 (by decide)
    · refine j_aload_n E 205 dX8_valueTo_204 0 rfl rfl rfl ?_
      refine j_getf E 208 dX8_valueTo_205 fl_X8_205 (by repeat (first | with_reducible exact pick_0 | with_reducible apply pick_s)) (by rfl) rfl ?_
      refine j_if_ne E 215 211 dX8_valueTo_208 (by decide) rfl (fun h208 => ?_) (fun h208 => ?_)
      · exact absurd rfl h208
      · refine j_iconst E (1) 212 dX8_valueTo_211 (by decide) rfl ?_
        refine j_goto E 216 dX8_valueTo_212 (by decide) ?_
        exact j_zret E B rfl (by first | exact Or.inl rfl | exact Or.inr rfl) 0 0 dX8_valueTo_216 (by repeat (first | with_reducible exact pick_0 | with_reducible apply pick_s | exact sel_0 | apply sel_s)) ⟨rfl, rfl, rfl, mk', hm, rfl⟩ (by omega) (by omega) (by omega) (by omega)
  refine j_aload_n E 1 dX8_valueTo_0 0 rfl rfl rfl ?_
  refine j_getf E 4 dX8_valueTo_1 fl_X8_17 (by repeat (first | with_reducible exact pick_0 | with_reducible apply pick_s)) (by rfl) rfl ?_
  refine j_iload_n E 5 dX8_valueTo_4 2 rfl rfl rfl ?_
  refine j_tbK E 6 dX8_valueTo_5 (by repeat (first | with_reducible exact pick_0 | with_reducible apply pick_s)) hi rfl ?_
  rw [← hu]
  refine j_callS E (c_m_isGroup hG (d-1) (nI u.1)) 9 dX8_valueTo_6 iv_X8_100 rfl rfl (by repeat (first | with_reducible exact pick_0 | with_reducible apply pick_s | exact sel_0 | apply sel_s)) (by omega) (by omega) (by omega) (Nat.le_of_ble_eq_true rfl) rfl ?_
  rintro _ _ _ _ ⟨rfl, rfl, rfl, rfl⟩
  dsimp only [List.cons_append, List.nil_append, Option.toList]
  by_cases hg : u.1 = 7 ∨ u.1 = 8
  · rw [if_pos (show nI u.1 = 7 ∨ nI u.1 = 8 from hg.elim (fun q => Or.inl (by rw [q]; rfl)) (fun q => Or.inr (by rw [q]; rfl)))]
    refine j_if_ne E 21 12 dX8_valueTo_9 (by decide) rfl (fun h9 => ?_) (fun h9 => ?_)
    · refine j_aload_n E 22 dX8_valueTo_21 0 rfl rfl rfl ?_
      refine j_getf E 25 dX8_valueTo_22 fl_X8_56 (by repeat (first | with_reducible exact pick_0 | with_reducible apply pick_s)) (by rfl) rfl ?_
      refine j_iload_n E 26 dX8_valueTo_25 2 rfl rfl rfl ?_
      refine j_tbQ E 27 dX8_valueTo_26 (by repeat (first | with_reducible exact pick_0 | with_reducible apply pick_s)) hi rfl ?_
      refine j_aload_n E 28 dX8_valueTo_27 0 rfl rfl rfl ?_
      refine j_getf E 31 dX8_valueTo_28 fl_X8_250 (by repeat (first | with_reducible exact pick_0 | with_reducible apply pick_s)) (by rfl) rfl ?_
      have hmi := hmk i hi
      by_cases hc : i ∈ come
      · have e9 : vT u i (lkF R i) st come s = some (wr 65536 st (refE (come.idxOf i)), come, s) := by rw [vT, if_pos hg, if_pos hc]
        have hix : come.idxOf i < come.length := List.idxOf_lt_length_of_mem hc
        refine j_icmp_ne E 67 34 dX8_valueTo_31 (by decide) rfl (fun h31 => ?_) (fun h31 => ?_)
        · exact absurd (congrArg nI (hmi.1.mpr hc)) h31
        · refine j_aload_n E 35 dX8_valueTo_34 0 rfl rfl rfl ?_
          refine j_aload_n E 36 dX8_valueTo_35 1 rfl rfl rfl ?_
          refine j_aload_n E 37 dX8_valueTo_36 0 rfl rfl rfl ?_
          refine j_getf E 40 dX8_valueTo_37 fl_X8_59 (by repeat (first | with_reducible exact pick_0 | with_reducible apply pick_s)) (by rfl) rfl ?_
          refine j_iload_n E 41 dX8_valueTo_40 2 rfl rfl rfl ?_
          refine j_open (by repeat (first | with_reducible exact pick_0 | with_reducible apply pick_s)) od_open ?_
          rintro fo ho
          dsimp only [List.cons_append, List.nil_append]
          refine j_iald E 42 dX8_valueTo_41 (by repeat (first | with_reducible exact pick_0 | with_reducible apply pick_s)) (vp_in_nI (by omega) (by omega)) rfl ?_
          refine j_eqi (y := nI (come.idxOf i)) (by rw [nI_clamp (by omega)]; exact ho i hc) ?_
          refine j_i2l E 43 dX8_valueTo_42 rfl ?_
          rw [nI_l (by omega)]
          refine j_iconst E (0) 44 dX8_valueTo_43 (by decide) rfl ?_
          refine j_callS E (c_m_size hG (d-1) (lN (come.idxOf i)) false) 47 dX8_valueTo_44 iv_X8_221 rfl rfl (by repeat (first | with_reducible exact pick_0 | with_reducible apply pick_s | exact sel_0 | apply sel_s)) (by omega) (by omega) (by omega) (Nat.le_of_ble_eq_true rfl) rfl ?_
          rintro _ _ _ _ ⟨rfl, rfl, rfl, rfl⟩
          dsimp only [List.cons_append, List.nil_append, Option.toList]
          refine j_iconst E (0) 48 dX8_valueTo_47 (by decide) rfl ?_
          refine j_callV E (c_m_ext hG (d-1) m r a (intL (lN (come.idxOf i)) false) (nI 0) st (by omega) (by have := intL_le (lN (come.idxOf i)) false; omega)) 51 dX8_valueTo_48 _ _ _ iv_X8_236 rfl rfl rfl (by repeat (first | with_reducible exact pick_0 | with_reducible apply pick_s | exact sel_0 | apply sel_s)) (by omega) (by omega) (by omega) (Nat.le_of_ble_eq_true rfl) rfl ?_
          rintro _ _ _ _ ⟨rfl, rfl, rfl, rfl⟩
          dsimp only [List.cons_append, List.nil_append, Option.toList]
          refine j_aload_n E 52 dX8_valueTo_51 0 rfl rfl rfl ?_
          refine j_aload_n E 53 dX8_valueTo_52 1 rfl rfl rfl ?_
          refine j_aload_n E 54 dX8_valueTo_53 0 rfl rfl rfl ?_
          refine j_getf E 57 dX8_valueTo_54 fl_X8_59 (by repeat (first | with_reducible exact pick_0 | with_reducible apply pick_s)) (by rfl) rfl ?_
          refine j_iload_n E 58 dX8_valueTo_57 2 rfl rfl rfl ?_
          refine j_iald E 59 dX8_valueTo_58 (by repeat (first | with_reducible exact pick_0 | with_reducible apply pick_s)) (vp_in_nI (by omega) (by omega)) rfl ?_
          refine j_eqi (y := nI (come.idxOf i)) (by rw [nI_clamp (by omega)]; exact ho i hc) ?_
          refine j_i2l E 60 dX8_valueTo_59 rfl ?_
          rw [nI_l (by omega)]
          refine j_iconst E (0) 61 dX8_valueTo_60 (by decide) rfl ?_
          refine j_callV E (c_m_int hG (d-1) m r a (lN (come.idxOf i)) false _ (by omega)) 64 dX8_valueTo_61 _ _ _ iv_X8_229 rfl rfl rfl (by repeat (first | with_reducible exact pick_0 | with_reducible apply pick_s | exact sel_0 | apply sel_s)) (by omega) (by omega) (by omega) (Nat.le_of_ble_eq_true rfl) rfl ?_
          rintro _ _ _ _ ⟨rfl, rfl, rfl, rfl⟩
          dsimp only [List.cons_append, List.nil_append, Option.toList]
          rw [wr_app]
          refine j_goto E 204 dX8_valueTo_64 (by decide) ?_
          refine j_close (by repeat (first | with_reducible exact pick_0 | with_reducible apply pick_s | exact sel_0 | apply sel_s)) (od_of come ho) ?_
          have er : hdE (xl (intL (lN (come.idxOf i)) false)) 199 (intL (lN (come.idxOf i)) false) ++ [lo8 (nI 0)] ++ intE (lN (come.idxOf i)) false = refE (come.idxOf i) := by
            rw [refE, List.append_assoc]
            congr 2
          rw [er]
          exact j_sel (by repeat (first | with_reducible exact pick_0 | with_reducible apply pick_s | exact sel_0 | apply sel_s)) (fin _ _ _ mk e9 hmk)
      · refine j_icmp_ne E 67 34 dX8_valueTo_31 (by decide) rfl (fun h31 => ?_) (fun h31 => ?_)
        · refine j_aload_n E 68 dX8_valueTo_67 0 rfl rfl rfl ?_
          refine j_getf E 71 dX8_valueTo_68 fl_X8_186 (by repeat (first | with_reducible exact pick_0 | with_reducible apply pick_s)) (by rfl) rfl ?_
          refine j_bipush E (24) 73 dX8_valueTo_71 (by decide) rfl ?_
          refine j_icmp_ne E 78 76 dX8_valueTo_73 (by decide) rfl (fun h73 => ?_) (fun h73 => ?_)
          · by_cases h24 : s.length = 24
            · exact absurd (congrArg nI h24) h73
            · have e9 : vT u i (lkF R i) st come s = some (wr 65536 st (grpE u), come ++ [i], s ++ [(i, oL (lkF R i))]) := by rw [vT, if_pos hg, if_neg hc, if_neg h24]
              refine j_aload_n E 79 dX8_valueTo_78 0 rfl rfl rfl ?_
              refine j_getf E 82 dX8_valueTo_79 fl_X8_56 (by repeat (first | with_reducible exact pick_0 | with_reducible apply pick_s)) (by rfl) rfl ?_
              refine j_iload_n E 83 dX8_valueTo_82 2 rfl rfl rfl ?_
              refine j_aload_n E 84 dX8_valueTo_83 0 rfl rfl rfl ?_
              refine j_getf E 87 dX8_valueTo_84 fl_X8_250 (by repeat (first | with_reducible exact pick_0 | with_reducible apply pick_s)) (by rfl) rfl ?_
              refine j_tbQs E 88 dX8_valueTo_87 (by repeat (first | with_reducible exact pick_0 | with_reducible apply pick_s)) hi rfl ?_
              refine j_open (by repeat (first | with_reducible exact pick_0 | with_reducible apply pick_s)) od_open ?_
              rintro fo ho
              dsimp only [List.cons_append, List.nil_append]
              refine j_aload_n E 89 dX8_valueTo_88 0 rfl rfl rfl ?_
              refine j_getf E 92 dX8_valueTo_89 fl_X8_59 (by repeat (first | with_reducible exact pick_0 | with_reducible apply pick_s)) (by rfl) rfl ?_
              refine j_iload_n E 93 dX8_valueTo_92 2 rfl rfl rfl ?_
              refine j_aload_n E 94 dX8_valueTo_93 0 rfl rfl rfl ?_
              refine j_getf E 97 dX8_valueTo_94 fl_X8_253 (by repeat (first | with_reducible exact pick_0 | with_reducible apply pick_s)) (by rfl) rfl ?_
              refine j_iast E 98 dX8_valueTo_97 (by repeat (first | with_reducible exact pick_0 | with_reducible apply pick_s)) (vp_in_nI (by omega) (by omega)) rfl ?_
              rw [nI_clamp (by omega)]
              refine j_aload_n E 99 dX8_valueTo_98 0 rfl rfl rfl ?_
              refine j_dup E 100 dX8_valueTo_99 rfl rfl ?_
              refine j_getf E 103 dX8_valueTo_100 fl_X8_253 (by repeat (first | with_reducible exact pick_0 | with_reducible apply pick_s)) (by rfl) rfl ?_
              refine j_iconst E (1) 104 dX8_valueTo_103 (by decide) rfl ?_
              refine j_iadd E 105 dX8_valueTo_104 rfl ?_
              refine j_eqi (nI_1 come.length) ?_
              refine j_putf E 108 dX8_valueTo_105 fl_X8_253 (by repeat (first | with_reducible exact pick_0 | with_reducible apply pick_s)) rfl rfl (Nat.le_of_ble_eq_true rfl) rfl ?_
              dsimp only [List.set]
              refine j_aload_n E 109 dX8_valueTo_108 0 rfl rfl rfl ?_
              refine j_getf E 112 dX8_valueTo_109 fl_X8_17 (by repeat (first | with_reducible exact pick_0 | with_reducible apply pick_s)) (by rfl) rfl ?_
              refine j_iload_n E 113 dX8_valueTo_112 2 rfl rfl rfl ?_
              have hlen9 : (come ++ [i]).length = come.length + 1 := by rw [List.length_append]; rfl
              refine j_close (by repeat (first | with_reducible exact pick_0 | with_reducible apply pick_s | exact sel_0 | apply sel_s)) (od_of (come ++ [i]) (fun j hj => ?_)) ?_
              · by_cases q : j = i
                · subst q
                  rw [pk_us, List.idxOf_append, if_neg hc]
                  simp
                · rw [pk_un q]
                  have hj2 : j ∈ come := by
                    rcases List.mem_append.mp hj with y | y
                    · exact y
                    · exact absurd (List.mem_singleton.mp y) q
                  rw [List.idxOf_append, if_pos hj2]
                  exact ho j hj2
              have hm2 : MKc us.length pg (mkS mk i pg) (come ++ [i]) := fun j hj => by
                by_cases q : j = i
                · subst q
                  rw [mkS_s]
                  exact ⟨⟨fun _ => by simp, fun _ => rfl⟩, Nat.le_refl _⟩
                · rw [mkS_n mk q]
                  refine ⟨⟨fun y => List.mem_append_left _ ((hmk j hj).1.mp y), fun y => ?_⟩, (hmk j hj).2⟩
                  rcases List.mem_append.mp y with y | y
                  · exact (hmk j hj).1.mpr y
                  · exact absurd (List.mem_singleton.mp y) q
              have hvl : vlen u ≤ 6000 := by
                have h1 := vlen_le hg
                have h3 := hv.2.2.1
                rw [← hu] at h3
                omega
              have zz : zs.getD i 0 = vlen u := by rw [hz, hu]
              have after : J X 3 [MF m r th ts os vc lc bc (pkP (wr 65536 st (grpE u))) (nI pg) (nI (come ++ [i]).length) (fuP (wr 65536 st (grpE u))) (nI s.length) fc fp at_ bgc got pr, BF X.1 a (wr 65536 st (grpE u)), TB X.1 r us zs R nb (mkS mk i pg), OD X.1 r (come ++ [i]), PL X.1 r s, F] 0 0 168 [some (.ref m), some (.ref a), some (.int (nI i))] [] := by
                refine j_aload_n E 169 dX8_valueTo_168 0 rfl rfl rfl ?_
                refine j_getf E 172 dX8_valueTo_169 fl_X8_62 (by repeat (first | with_reducible exact pick_0 | with_reducible apply pick_s)) (by rfl) rfl ?_
                refine j_open (by repeat (first | with_reducible exact pick_0 | with_reducible apply pick_s)) pl_open ?_
                rintro ⟨fv, fw⟩ hpl9
                dsimp only [List.cons_append, List.nil_append] at hpl9 ⊢
                refine j_aload_n E 173 dX8_valueTo_172 0 rfl rfl rfl ?_
                refine j_getf E 176 dX8_valueTo_173 fl_X8_186 (by repeat (first | with_reducible exact pick_0 | with_reducible apply pick_s)) (by rfl) rfl ?_
                refine j_iload_n E 177 dX8_valueTo_176 2 rfl rfl rfl ?_
                refine j_iast E 178 dX8_valueTo_177 (by repeat (first | with_reducible exact pick_0 | with_reducible apply pick_s)) (vp_in_nI (by omega) (by omega)) rfl ?_
                rw [nI_clamp (by omega)]
                refine j_aload_n E 179 dX8_valueTo_178 0 rfl rfl rfl ?_
                refine j_getf E 182 dX8_valueTo_179 fl_X8_65 (by repeat (first | with_reducible exact pick_0 | with_reducible apply pick_s)) (by rfl) rfl ?_
                refine j_aload_n E 183 dX8_valueTo_182 0 rfl rfl rfl ?_
                refine j_getf E 186 dX8_valueTo_183 fl_X8_186 (by repeat (first | with_reducible exact pick_0 | with_reducible apply pick_s)) (by rfl) rfl ?_
                refine j_aload_n E 187 dX8_valueTo_186 0 rfl rfl rfl ?_
                refine j_getf E 190 dX8_valueTo_187 fl_X8_32 (by repeat (first | with_reducible exact pick_0 | with_reducible apply pick_s)) (by rfl) rfl ?_
                refine j_iload_n E 191 dX8_valueTo_190 2 rfl rfl rfl ?_
                refine j_tbF E 192 dX8_valueTo_191 (by repeat (first | with_reducible exact pick_0 | with_reducible apply pick_s)) hi (by rw [← hu]; exact hg) rfl ?_
                refine j_i2l E 193 dX8_valueTo_192 rfl ?_
                refine j_last E 194 dX8_valueTo_193 (by repeat (first | with_reducible exact pick_0 | with_reducible apply pick_s)) (vp_in_nI (by omega) (by omega)) rfl ?_
                rw [nI_clamp (by omega)]
                refine j_aload_n E 195 dX8_valueTo_194 0 rfl rfl rfl ?_
                refine j_dup E 196 dX8_valueTo_195 rfl rfl ?_
                refine j_getf E 199 dX8_valueTo_196 fl_X8_186 (by repeat (first | with_reducible exact pick_0 | with_reducible apply pick_s)) (by rfl) rfl ?_
                refine j_iconst E (1) 200 dX8_valueTo_199 (by decide) rfl ?_
                refine j_iadd E 201 dX8_valueTo_200 rfl ?_
                refine j_eqi (nI_1 s.length) ?_
                refine j_putf E 204 dX8_valueTo_201 fl_X8_186 (by repeat (first | with_reducible exact pick_0 | with_reducible apply pick_s)) rfl rfl (Nat.le_of_ble_eq_true rfl) rfl ?_
                dsimp only [List.set]
                have hls : (s ++ [(i, oL (lkF R i))]).length = s.length + 1 := by rw [List.length_append]; rfl
                refine j_close (by repeat (first | with_reducible exact pick_0 | with_reducible apply pick_s | exact sel_0 | apply sel_s)) (pl_of (s ++ [(i, oL (lkF R i))]) ⟨by omega, fun j e he => ?_⟩) ?_
                · by_cases q : j = s.length
                  · subst q
                    have h9 : (s ++ [(i, oL (lkF R i))])[s.length]? = some (i, oL (lkF R i)) := by simp
                    rw [h9] at he
                    cases he
                    exact ⟨pk_us, pk_uLs⟩
                  · have hjl := (List.getElem?_eq_some_iff.mp he).1
                    rw [List.getElem?_append_left (by omega)] at he
                    obtain ⟨y1, y2⟩ := hpl9.2 j e he
                    exact ⟨(pk_un q).trans y1, (pk_uLn q).trans y2⟩
                have hf := fin _ _ _ _ e9 hm2
                rw [hls] at hf
                exact j_sel (by repeat (first | with_reducible exact pick_0 | with_reducible apply pick_s | exact sel_0 | apply sel_s)) hf
              rw [hlen9] at after
              refine j_tbK E 114 dX8_valueTo_113 (by repeat (first | with_reducible exact pick_0 | with_reducible apply pick_s)) hi rfl ?_
              rw [← hu]
              refine j_bipush E (7) 116 dX8_valueTo_114 (by decide) rfl ?_
              refine j_icmp_ne E 145 119 dX8_valueTo_116 (by decide) rfl (fun h116 => ?_) (fun h116 => ?_)
              · have q8 : u.1 = 8 := hg.resolve_left (fun q => h116 (by rw [q]; rfl))
                refine j_aload_n E 146 dX8_valueTo_145 0 rfl rfl rfl ?_
                refine j_aload_n E 147 dX8_valueTo_146 1 rfl rfl rfl ?_
                refine j_aload_n E 148 dX8_valueTo_147 0 rfl rfl rfl ?_
                refine j_getf E 151 dX8_valueTo_148 fl_X8_38 (by repeat (first | with_reducible exact pick_0 | with_reducible apply pick_s)) (by rfl) rfl ?_
                refine j_iload_n E 152 dX8_valueTo_151 2 rfl rfl rfl ?_
                refine j_tbZ E 153 dX8_valueTo_152 (by repeat (first | with_reducible exact pick_0 | with_reducible apply pick_s)) hi rfl ?_
                rw [zz]
                refine j_bipush E (16) 155 dX8_valueTo_153 (by decide) rfl ?_
                refine j_sipush E (128) 158 dX8_valueTo_155 (by decide) rfl ?_
                refine j_iconst E (0) 159 dX8_valueTo_158 (by decide) rfl ?_
                refine j_sipush E (222) 162 dX8_valueTo_159 (by decide) rfl ?_
                refine j_sipush E (223) 165 dX8_valueTo_162 (by decide) rfl ?_
                refine j_callV E (c_m_count hG (d-1) m r a (vlen u) 16 128 0 222 223 st (by omega) (by omega) (by decide) (by decide)) 168 dX8_valueTo_165 _ _ _ iv_X8_225 rfl rfl rfl (by repeat (first | with_reducible exact pick_0 | with_reducible apply pick_s | exact sel_0 | apply sel_s)) (by omega) (by omega) (by omega) (Nat.le_of_ble_eq_true rfl) rfl ?_
                rintro _ _ _ _ ⟨rfl, rfl, rfl, rfl⟩
                dsimp only [List.cons_append, List.nil_append, Option.toList]
                rw [cnt_grp (by omega), show (if vlen u < 16 then b1 (128 + vlen u) else b1 222 ++ beB (lN (vlen u)) 2) = grpE u by rw [grpE, if_neg (show ¬ u.1 = 7 by omega), if_neg (show ¬ u.1 = 7 by omega)]]
                exact j_sel (by repeat (first | with_reducible exact pick_0 | with_reducible apply pick_s | exact sel_0 | apply sel_s)) after
              · have q7 : u.1 = 7 := (nI_eq (by omega) (by decide)).mp h116
                refine j_aload_n E 120 dX8_valueTo_119 0 rfl rfl rfl ?_
                refine j_aload_n E 121 dX8_valueTo_120 1 rfl rfl rfl ?_
                refine j_aload_n E 122 dX8_valueTo_121 0 rfl rfl rfl ?_
                refine j_getf E 125 dX8_valueTo_122 fl_X8_38 (by repeat (first | with_reducible exact pick_0 | with_reducible apply pick_s)) (by rfl) rfl ?_
                refine j_iload_n E 126 dX8_valueTo_125 2 rfl rfl rfl ?_
                refine j_tbZ E 127 dX8_valueTo_126 (by repeat (first | with_reducible exact pick_0 | with_reducible apply pick_s)) hi rfl ?_
                rw [zz]
                refine j_bipush E (16) 129 dX8_valueTo_127 (by decide) rfl ?_
                refine j_sipush E (144) 132 dX8_valueTo_129 (by decide) rfl ?_
                refine j_iconst E (0) 133 dX8_valueTo_132 (by decide) rfl ?_
                refine j_sipush E (220) 136 dX8_valueTo_133 (by decide) rfl ?_
                refine j_sipush E (221) 139 dX8_valueTo_136 (by decide) rfl ?_
                refine j_callV E (c_m_count hG (d-1) m r a (vlen u) 16 144 0 220 221 st (by omega) (by omega) (by decide) (by decide)) 142 dX8_valueTo_139 _ _ _ iv_X8_225 rfl rfl rfl (by repeat (first | with_reducible exact pick_0 | with_reducible apply pick_s | exact sel_0 | apply sel_s)) (by omega) (by omega) (by omega) (Nat.le_of_ble_eq_true rfl) rfl ?_
                rintro _ _ _ _ ⟨rfl, rfl, rfl, rfl⟩
                dsimp only [List.cons_append, List.nil_append, Option.toList]
                rw [cnt_grp (by omega), show (if vlen u < 16 then b1 (144 + vlen u) else b1 220 ++ beB (lN (vlen u)) 2) = grpE u by rw [grpE, if_pos q7, if_pos q7]]
                refine j_goto E 168 dX8_valueTo_142 (by decide) ?_
                exact j_sel (by repeat (first | with_reducible exact pick_0 | with_reducible apply pick_s | exact sel_0 | apply sel_s)) after
          · have h24 : s.length = 24 := (nI_eq (by omega) (by decide)).mp h73
            have e9 : vT u i (lkF R i) st come s = none := by rw [vT, if_pos hg, if_neg hc, if_pos h24]
            rw [← hu, e9] at B
            refine j_iconst E (0) 77 dX8_valueTo_76 (by decide) rfl ?_
            exact j_zret E B rfl (by first | exact Or.inl rfl | exact Or.inr rfl) 0 0 dX8_valueTo_77 (by repeat (first | with_reducible exact pick_0 | with_reducible apply pick_s | exact sel_0 | apply sel_s)) ⟨rfl, rfl, rfl, st, _, _, come, s, mk, fun j hj => (hmk j hj).2, rfl⟩ (by omega) (by omega) (by omega) (by omega)
        · have hmi2 := hmi.2
          exact absurd (hmi.1.mp ((nI_eq (by omega) (by omega)).mp h31)) hc
    · exact absurd h9 (by decide)
  · rw [if_neg (fun q => hg (q.elim (fun q => Or.inl ((nI_eq (b := 7) (by omega) (by decide)).mp q)) (fun q => Or.inr ((nI_eq (b := 8) (by omega) (by decide)).mp q))))]
    have e9 : vT u i (lkF R i) st come s = some (wr 65536 st (leafE u), come, s) := by rw [vT, if_neg hg]
    refine j_if_ne E 21 12 dX8_valueTo_9 (by decide) rfl (fun h9 => ?_) (fun h9 => ?_)
    · exact absurd rfl h9
    · refine j_aload_n E 13 dX8_valueTo_12 0 rfl rfl rfl ?_
      refine j_aload_n E 14 dX8_valueTo_13 1 rfl rfl rfl ?_
      refine j_iload_n E 15 dX8_valueTo_14 2 rfl rfl rfl ?_
      refine j_callV E (c_m_plain hG (d-1) m r a i st us zs R nb mk (by omega) hi hz hv (by rw [← hu]; exact hg)) 18 dX8_valueTo_15 _ _ _ iv_X8_247 rfl rfl rfl (by repeat (first | with_reducible exact pick_0 | with_reducible apply pick_s | exact sel_0 | apply sel_s)) (by omega) (by omega) (by omega) (Nat.le_of_ble_eq_true rfl) rfl ?_
      rintro _ _ _ _ ⟨rfl, rfl, rfl, rfl⟩
      dsimp only [List.cons_append, List.nil_append, Option.toList]
      rw [← hu]
      refine j_goto E 204 dX8_valueTo_18 (by decide) ?_
      exact j_sel (by repeat (first | with_reducible exact pick_0 | with_reducible apply pick_s | exact sel_0 | apply sel_s)) (fin _ _ _ mk e9 hmk)

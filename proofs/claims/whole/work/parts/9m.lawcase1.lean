/-! the law: its cases -/
def KK (X : XT) (z : Nat → Nat) (b x m ob i c : Nat) : Prop := ∀ (S' : AS) (P' Q' pm' k' n' : Nat) (th' : Int32) (f' : Nat → Int64), RMC c S'.1.length P' Q' pm' k' n' → J X 8 [PGA X.1 z x S' P' Q', MGA X.1 m th' S' pm', pt ob (aJ X.1 1 f')] k' n' 1696 [some (.ref b), some (.ref x), some (.ref m), some (.ref ob), some (.int (nI i)), none, none, none] []
set_option maxHeartbeats 8000000 in
theorem lw_feed {X : XT} {z : Nat → Nat} (hA : GA X.1 z) (h4 : GLB4 X.1) (E : JE X RL cL_law 8 2048 600384 7289322) {b L i c x m ob P Q pm k n : Nat} {xs : Nat → Int32} {S : AS} {th : Int32} {f : Nat → Int64} (hT : OT X.1 .int b L (fun j => .int (xs j))) (hL : L ≤ 384) (hi : i + 6 ≤ L) (hc : c < 64) (hok : AOk S) (hP : P ≤ 9100000) (hQ : Q ≤ 1500000) (hLS : RMC c S.1.length P Q pm k n) (kk : KK X z b x m ob i (c + 1)) : J X 8 [PGA X.1 z x S P Q, MGA X.1 m th S pm, pt ob (aJ X.1 1 f)] k n 152 [some (.ref b), some (.ref x), some (.ref m), some (.ref ob), some (.int (nI i)), none, none, none] [] := by
  obtain ⟨tape, us, np, nb, out, cd, pl⟩ := S
  have hls := hLS
  obtain ⟨l1, l2, l3, l4⟩ := hls
  dsimp only at l1
  obtain ⟨T, hT9⟩ : ∃ T, T = (sFeed (xs (i + 1)) (xs (i + 2)) (xs (i + 3)) (xs (i + 4)) (xs (i + 5)) (tape, us, np, nb, out, cd, pl)) := ⟨_, rfl⟩
  have hln : LNt (tape, us, np, nb, out, cd, pl) (sFeed (xs (i + 1)) (xs (i + 2)) (xs (i + 3)) (xs (i + 4)) (xs (i + 5)) (tape, us, np, nb, out, cd, pl)).2.2 := ln_feed
  have K1 := c_L_feed hA h4 2047 40000 (1726880 - Q) x ob P Q f (xs (i + 1)) (xs (i + 2)) (xs (i + 3)) (xs (i + 4)) (xs (i + 5)) (tape, us, np, nb, out, cd, pl) (by decide) (by dsimp only; omega) (by dsimp only; omega)
  have K2 := c_mg_feed hA.1 2047 m th tape us np nb out cd pl pm (xs (i + 1)) (xs (i + 2)) (xs (i + 3)) (xs (i + 4)) (xs (i + 5)) (by decide)
  rw [← hT9] at K1 K2 hln
  clear hT9
  obtain ⟨c0, v0, t9, us9, np9, nb9, out9, cd9, pl9⟩ := T
  dsimp only at K1 K2 hln
  refine j_aload_n E 153 dL_law_152 1 rfl rfl rfl ?_
  refine j_scr E hT 159 1 dL_law_153 dL_law_154 dL_law_156 dL_law_157 dL_law_158 (by decide) rfl rfl rfl (by omega) hL ?_
  refine j_scr E hT 165 2 dL_law_159 dL_law_160 dL_law_162 dL_law_163 dL_law_164 (by decide) rfl rfl rfl (by omega) hL ?_
  refine j_scr E hT 171 3 dL_law_165 dL_law_166 dL_law_168 dL_law_169 dL_law_170 (by decide) rfl rfl rfl (by omega) hL ?_
  refine j_scr E hT 177 4 dL_law_171 dL_law_172 dL_law_174 dL_law_175 dL_law_176 (by decide) rfl rfl rfl (by omega) hL ?_
  refine j_scr E hT 183 5 dL_law_177 dL_law_178 dL_law_180 dL_law_181 dL_law_182 (by decide) rfl rfl rfl (by omega) hL ?_
  refine j_aload_n E 184 dL_law_183 3 rfl rfl rfl ?_
  refine j_callSH E K1 187 dL_law_184 sv_L_feed rfl rfl (by repeat (first | with_reducible exact pick_0 | with_reducible apply pick_s | exact sel_0 | apply sel_s)) (by decide) (by omega) (by omega) (Nat.le_of_ble_eq_true rfl) rfl ?_
  rintro o dc ds ws' ⟨P', Q', f', rfl, h3, hf, rfl, hb1, hb2, hb3, hb4⟩
  dsimp only [List.cons_append, List.nil_append, Option.toList]
  dsimp only at h3 hf
  refine j_istore E 189 dL_law_187 (Nat.le_of_ble_eq_true rfl) rfl rfl ?_
  dsimp only [List.set]
  refine j_aload_n E 190 dL_law_189 2 rfl rfl rfl ?_
  refine j_scr E hT 196 1 dL_law_190 dL_law_191 dL_law_193 dL_law_194 dL_law_195 (by decide) rfl rfl rfl (by omega) hL ?_
  refine j_scr E hT 202 2 dL_law_196 dL_law_197 dL_law_199 dL_law_200 dL_law_201 (by decide) rfl rfl rfl (by omega) hL ?_
  refine j_scr E hT 208 3 dL_law_202 dL_law_203 dL_law_205 dL_law_206 dL_law_207 (by decide) rfl rfl rfl (by omega) hL ?_
  refine j_scr E hT 214 4 dL_law_208 dL_law_209 dL_law_211 dL_law_212 dL_law_213 (by decide) rfl rfl rfl (by omega) hL ?_
  refine j_scr E hT 220 5 dL_law_214 dL_law_215 dL_law_217 dL_law_218 dL_law_219 (by decide) rfl rfl rfl (by omega) hL ?_
  refine j_callV E K2 223 dL_law_220 _ _ _ iv_L_103 rfl rfl rfl (by repeat (first | with_reducible exact pick_0 | with_reducible apply pick_s | exact sel_0 | apply sel_s)) (by decide) (by omega) (by omega) (Nat.le_of_ble_eq_true rfl) rfl ?_
  rintro _ _ _ _ ⟨rfl, rfl, rfl, rfl⟩
  dsimp only [List.cons_append, List.nil_append, Option.toList]
  refine j_istore E 225 dL_law_223 (Nat.le_of_ble_eq_true rfl) rfl rfl ?_
  dsimp only [List.set]
  refine j_aload_n E 226 dL_law_225 2 rfl rfl rfl ?_
  refine j_callV E (c_mg_thrown hA.1 2047 m c0 (pm + 3001) t9 us9 np9 nb9 out9 cd9 pl9) 229 dL_law_226 _ _ _ iv_L_104 rfl rfl rfl (by repeat (first | with_reducible exact pick_0 | with_reducible apply pick_s | exact sel_0 | apply sel_s)) (by decide) (by omega) (by omega) (Nat.le_of_ble_eq_true rfl) rfl ?_
  rintro _ _ _ _ ⟨rfl, rfl, rfl, rfl⟩
  dsimp only [List.cons_append, List.nil_append, Option.toList]
  refine j_iload E 231 dL_law_229 rfl rfl ?_
  refine j_icmp_eq E 236 234 dL_law_231 (by decide) rfl (fun _ => ?_) (fun h => absurd rfl h)
  refine j_iload E 238 dL_law_236 rfl rfl ?_
  refine j_if_ne E 253 241 dL_law_238 (by decide) rfl (fun _ => ?_) (fun h0 => ?_)
  · refine j_goto E 1696 dL_law_253 (by decide) ?_
    refine j_forget 5 ?_
    refine j_forget 6 ?_
    dsimp only [List.set]
    refine j_sel (pre := [PGA X.1 z x (t9, us9, np9, nb9, out9, cd9, pl9) P' Q', MGA X.1 m (nI c0) (t9, us9, np9, nb9, out9, cd9, pl9) (pm + 3001), pt ob (aJ X.1 1 f')]) (by repeat (first | with_reducible exact pick_0 | with_reducible apply pick_s | exact sel_0 | apply sel_s)) ?_
    exact kk (t9, us9, np9, nb9, out9, cd9, pl9) P' Q' _ _ _ _ _ (ls_step (dc := dc) (ds := ds) (M := 40000) (N := 1726880 - Q) hLS hc ⟨hb1, hb2, hb3, hb4⟩ hln)
  have e0 : c0 = 0 := (nI_eq (b := 0) (by omega) (by decide)).mp h0
  refine j_aload_n E 242 dL_law_241 3 rfl rfl rfl ?_
  refine j_iconst E (0) 243 dL_law_242 (by decide) rfl ?_
  refine j_lald E 244 dL_law_243 (by repeat (first | with_reducible exact pick_0 | with_reducible apply pick_s)) vp_in01 rfl ?_
  refine j_eql (y := v0.toInt64) (by rw [clamp0]; exact hf e0) ?_
  refine j_iload E 246 dL_law_244 rfl rfl ?_
  refine j_i2l E 247 dL_law_246 rfl ?_
  refine j_lcmp E 248 dL_law_247 rfl ?_
  refine j_eqi (y := 0) ((lg_cmp_eq _ _).mpr rfl) ?_
  refine j_if_eq E 253 251 dL_law_248 (by decide) rfl (fun _ => ?_) (fun h => absurd rfl h)
  refine j_goto E 1696 dL_law_253 (by decide) ?_
  refine j_forget 5 ?_
  refine j_forget 6 ?_
  dsimp only [List.set]
  refine j_sel (pre := [PGA X.1 z x (t9, us9, np9, nb9, out9, cd9, pl9) P' Q', MGA X.1 m (nI c0) (t9, us9, np9, nb9, out9, cd9, pl9) (pm + 3001), pt ob (aJ X.1 1 f')]) (by repeat (first | with_reducible exact pick_0 | with_reducible apply pick_s | exact sel_0 | apply sel_s)) ?_
  exact kk (t9, us9, np9, nb9, out9, cd9, pl9) P' Q' _ _ _ _ _ (ls_step (dc := dc) (ds := ds) (M := 40000) (N := 1726880 - Q) hLS hc ⟨hb1, hb2, hb3, hb4⟩ hln)
set_option maxHeartbeats 8000000 in
theorem lw_end {X : XT} {z : Nat → Nat} (hA : GA X.1 z) (h4 : GLB4 X.1) (E : JE X RL cL_law 8 2048 600384 7289322) {b L i c x m ob P Q pm k n : Nat} {xs : Nat → Int32} {S : AS} {th : Int32} {f : Nat → Int64} (hT : OT X.1 .int b L (fun j => .int (xs j))) (hL : L ≤ 384) (hi : i + 6 ≤ L) (hc : c < 64) (hok : AOk S) (hP : P ≤ 9100000) (hQ : Q ≤ 1500000) (hLS : RMC c S.1.length P Q pm k n) (kk : KK X z b x m ob i (c + 1)) : J X 8 [PGA X.1 z x S P Q, MGA X.1 m th S pm, pt ob (aJ X.1 1 f)] k n 256 [some (.ref b), some (.ref x), some (.ref m), some (.ref ob), some (.int (nI i)), none, none, none] [] := by
  obtain ⟨tape, us, np, nb, out, cd, pl⟩ := S
  have hls := hLS
  obtain ⟨l1, l2, l3, l4⟩ := hls
  dsimp only at l1
  obtain ⟨T, hT9⟩ : ∃ T, T = (sEnd (xs (i + 1)) (tape, us, np, nb, out, cd, pl)) := ⟨_, rfl⟩
  have hln : LNt (tape, us, np, nb, out, cd, pl) (sEnd (xs (i + 1)) (tape, us, np, nb, out, cd, pl)).2.2 := ln_end
  have K1 := c_L_end hA h4 2047 40000 (1726880 - Q) x P Q (xs (i + 1)) (tape, us, np, nb, out, cd, pl) (by decide) (by dsimp only; omega) (by dsimp only; omega)
  have K2 := c_mg_end hA.1 2047 m th tape us np nb out cd pl pm (xs (i + 1)) (by decide)
  rw [← hT9] at K1 K2 hln
  clear hT9
  obtain ⟨c0, v0, t9, us9, np9, nb9, out9, cd9, pl9⟩ := T
  dsimp only at K1 K2 hln
  refine j_aload_n E 257 dL_law_256 1 rfl rfl rfl ?_
  refine j_scr E hT 263 1 dL_law_257 dL_law_258 dL_law_260 dL_law_261 dL_law_262 (by decide) rfl rfl rfl (by omega) hL ?_
  refine j_callSH E K1 266 dL_law_263 sv_L_end rfl rfl (by repeat (first | with_reducible exact pick_0 | with_reducible apply pick_s | exact sel_0 | apply sel_s)) (by decide) (by omega) (by omega) (Nat.le_of_ble_eq_true rfl) rfl ?_
  rintro o dc ds ws' ⟨P', Q', rfl, h3, rfl, hb1, hb2, hb3, hb4⟩
  dsimp only [List.cons_append, List.nil_append, Option.toList]
  dsimp only at h3
  refine j_istore E 268 dL_law_266 (Nat.le_of_ble_eq_true rfl) rfl rfl ?_
  dsimp only [List.set]
  refine j_aload_n E 269 dL_law_268 2 rfl rfl rfl ?_
  refine j_scr E hT 275 1 dL_law_269 dL_law_270 dL_law_272 dL_law_273 dL_law_274 (by decide) rfl rfl rfl (by omega) hL ?_
  refine j_callV E K2 278 dL_law_275 _ _ _ iv_L_110 rfl rfl rfl (by repeat (first | with_reducible exact pick_0 | with_reducible apply pick_s | exact sel_0 | apply sel_s)) (by decide) (by omega) (by omega) (Nat.le_of_ble_eq_true rfl) rfl ?_
  rintro _ _ _ _ ⟨rfl, rfl, rfl, rfl⟩
  dsimp only [List.cons_append, List.nil_append, Option.toList]
  refine j_aload_n E 279 dL_law_278 2 rfl rfl rfl ?_
  refine j_callV E (c_mg_thrown hA.1 2047 m c0 (pm + 3001) t9 us9 np9 nb9 out9 cd9 pl9) 282 dL_law_279 _ _ _ iv_L_104 rfl rfl rfl (by repeat (first | with_reducible exact pick_0 | with_reducible apply pick_s | exact sel_0 | apply sel_s)) (by decide) (by omega) (by omega) (Nat.le_of_ble_eq_true rfl) rfl ?_
  rintro _ _ _ _ ⟨rfl, rfl, rfl, rfl⟩
  dsimp only [List.cons_append, List.nil_append, Option.toList]
  refine j_iload E 284 dL_law_282 rfl rfl ?_
  refine j_icmp_eq E 289 287 dL_law_284 (by decide) rfl (fun _ => ?_) (fun h => absurd rfl h)
  refine j_goto E 1696 dL_law_289 (by decide) ?_
  refine j_forget 5 ?_
  refine j_forget 6 ?_
  dsimp only [List.set]
  refine j_sel (pre := [PGA X.1 z x (t9, us9, np9, nb9, out9, cd9, pl9) P' Q', MGA X.1 m (nI c0) (t9, us9, np9, nb9, out9, cd9, pl9) (pm + 3001), pt ob (aJ X.1 1 f)]) (by repeat (first | with_reducible exact pick_0 | with_reducible apply pick_s | exact sel_0 | apply sel_s)) ?_
  exact kk (t9, us9, np9, nb9, out9, cd9, pl9) P' Q' _ _ _ _ _ (ls_step (dc := dc) (ds := ds) (M := 40000) (N := 1726880 - Q) hLS hc ⟨hb1, hb2, hb3, hb4⟩ hln)
set_option maxHeartbeats 8000000 in
theorem lw_unpack {X : XT} {z : Nat → Nat} (hA : GA X.1 z) (h4 : GLB4 X.1) (E : JE X RL cL_law 8 2048 600384 7289322) {b L i c x m ob P Q pm k n : Nat} {xs : Nat → Int32} {S : AS} {th : Int32} {f : Nat → Int64} (hT : OT X.1 .int b L (fun j => .int (xs j))) (hL : L ≤ 384) (hi : i + 6 ≤ L) (hc : c < 64) (hok : AOk S) (hP : P ≤ 9100000) (hQ : Q ≤ 1500000) (hLS : RMC c S.1.length P Q pm k n) (kk : KK X z b x m ob i (c + 1)) : J X 8 [PGA X.1 z x S P Q, MGA X.1 m th S pm, pt ob (aJ X.1 1 f)] k n 292 [some (.ref b), some (.ref x), some (.ref m), some (.ref ob), some (.int (nI i)), none, none, none] [] := by
  obtain ⟨tape, us, np, nb, out, cd, pl⟩ := S
  have hls := hLS
  obtain ⟨l1, l2, l3, l4⟩ := hls
  dsimp only at l1
  obtain ⟨T, hT9⟩ : ∃ T, T = (sUnpack (tape, us, np, nb, out, cd, pl)) := ⟨_, rfl⟩
  have hln : LNt (tape, us, np, nb, out, cd, pl) (sUnpack (tape, us, np, nb, out, cd, pl)).2.2 := ln_unpack
  have K1 := c_pg_unpack hA 2047 40000 (1726880 - Q) x P Q (tape, us, np, nb, out, cd, pl) (by decide) (by dsimp only; omega) (by dsimp only; omega)
  have K2 := c_mg_unpack hA.1 2047 m th tape us np nb out cd pl pm  (by decide)
  rw [← hT9] at K1 K2 hln
  clear hT9
  obtain ⟨c0, v0, t9, us9, np9, nb9, out9, cd9, pl9⟩ := T
  dsimp only at K1 K2 hln
  refine j_aload_n E 293 dL_law_292 1 rfl rfl rfl ?_
  refine j_callVX E K1 296 dL_law_293 _ _ _ iv_L_111 rfl rfl rfl (by repeat (first | with_reducible exact pick_0 | with_reducible apply pick_s | exact sel_0 | apply sel_s)) (by decide) (by omega) (by omega) (Nat.le_of_ble_eq_true rfl) rfl ?_ ?_
  rotate_left
  · rintro En dc ds ws' ⟨P', Q', hk, -⟩
    exact absurd hk List.not_mem_nil
  rintro o dc ds ws' ⟨P', Q', hk, rfl, rfl, hb1, hb2, hb3, hb4⟩
  dsimp only [List.cons_append, List.nil_append, Option.toList]
  refine j_aload_n E 297 dL_law_296 2 rfl rfl rfl ?_
  refine j_callV E K2 300 dL_law_297 _ _ _ iv_L_114 rfl rfl rfl (by repeat (first | with_reducible exact pick_0 | with_reducible apply pick_s | exact sel_0 | apply sel_s)) (by decide) (by omega) (by omega) (Nat.le_of_ble_eq_true rfl) rfl ?_
  rintro _ _ _ _ ⟨rfl, rfl, rfl, rfl⟩
  dsimp only [List.cons_append, List.nil_append, Option.toList]
  refine j_icmp_eq E 1696 303 dL_law_300 (by decide) rfl (fun _ => ?_) (fun h => absurd rfl h)
  refine j_forget 5 ?_
  refine j_forget 6 ?_
  dsimp only [List.set]
  refine j_sel (pre := [PGA X.1 z x (t9, us9, np9, nb9, out9, cd9, pl9) P' Q', MGA X.1 m (nI c0) (t9, us9, np9, nb9, out9, cd9, pl9) (pm + 3001), pt ob (aJ X.1 1 f)]) (by repeat (first | with_reducible exact pick_0 | with_reducible apply pick_s | exact sel_0 | apply sel_s)) ?_
  exact kk (t9, us9, np9, nb9, out9, cd9, pl9) P' Q' _ _ _ _ _ (ls_step (dc := dc) (ds := ds) (M := 40000) (N := 1726880 - Q) hLS hc ⟨hb1, hb2, hb3, hb4⟩ hln)
set_option maxHeartbeats 8000000 in
theorem lw_fault {X : XT} {z : Nat → Nat} (hA : GA X.1 z) (h4 : GLB4 X.1) (E : JE X RL cL_law 8 2048 600384 7289322) {b L i c x m ob P Q pm k n : Nat} {xs : Nat → Int32} {S : AS} {th : Int32} {f : Nat → Int64} (hT : OT X.1 .int b L (fun j => .int (xs j))) (hL : L ≤ 384) (hi : i + 6 ≤ L) (hc : c < 64) (hok : AOk S) (hP : P ≤ 9100000) (hQ : Q ≤ 1500000) (hLS : RMC c S.1.length P Q pm k n) (kk : KK X z b x m ob i (c + 1)) : J X 8 [PGA X.1 z x S P Q, MGA X.1 m th S pm, pt ob (aJ X.1 1 f)] k n 305 [some (.ref b), some (.ref x), some (.ref m), some (.ref ob), some (.int (nI i)), none, none, none] [] := by
  obtain ⟨tape, us, np, nb, out, cd, pl⟩ := S
  have hls := hLS
  obtain ⟨l1, l2, l3, l4⟩ := hls
  dsimp only at l1
  obtain ⟨T, hT9⟩ : ∃ T, T = (sFault (xs (i + 1)) (tape, us, np, nb, out, cd, pl)) := ⟨_, rfl⟩
  have hln : LNt (tape, us, np, nb, out, cd, pl) (sFault (xs (i + 1)) (tape, us, np, nb, out, cd, pl)).2.2 := ln_fault
  have K1 := c_L_fault hA h4 2047 40000 (1726880 - Q) x ob P Q f (xs (i + 1)) (tape, us, np, nb, out, cd, pl) (by decide) (by dsimp only; omega) (by dsimp only; omega)
  have K2 := c_mg_fault hA.1 2047 m th tape us np nb out cd pl pm (xs (i + 1)) (by decide)
  rw [← hT9] at K1 K2 hln
  clear hT9
  obtain ⟨c0, v0, t9, us9, np9, nb9, out9, cd9, pl9⟩ := T
  dsimp only at K1 K2 hln
  refine j_aload_n E 306 dL_law_305 1 rfl rfl rfl ?_
  refine j_scr E hT 312 1 dL_law_306 dL_law_307 dL_law_309 dL_law_310 dL_law_311 (by decide) rfl rfl rfl (by omega) hL ?_
  refine j_aload_n E 313 dL_law_312 3 rfl rfl rfl ?_
  refine j_callSH E K1 316 dL_law_313 sv_L_fault rfl rfl (by repeat (first | with_reducible exact pick_0 | with_reducible apply pick_s | exact sel_0 | apply sel_s)) (by decide) (by omega) (by omega) (Nat.le_of_ble_eq_true rfl) rfl ?_
  rintro o dc ds ws' ⟨P', Q', f', rfl, h3, hf, rfl, hb1, hb2, hb3, hb4⟩
  dsimp only [List.cons_append, List.nil_append, Option.toList]
  dsimp only at h3 hf
  refine j_istore E 318 dL_law_316 (Nat.le_of_ble_eq_true rfl) rfl rfl ?_
  dsimp only [List.set]
  refine j_aload_n E 319 dL_law_318 2 rfl rfl rfl ?_
  refine j_scr E hT 325 1 dL_law_319 dL_law_320 dL_law_322 dL_law_323 dL_law_324 (by decide) rfl rfl rfl (by omega) hL ?_
  refine j_callV E K2 328 dL_law_325 _ _ _ iv_L_118 rfl rfl rfl (by repeat (first | with_reducible exact pick_0 | with_reducible apply pick_s | exact sel_0 | apply sel_s)) (by decide) (by omega) (by omega) (Nat.le_of_ble_eq_true rfl) rfl ?_
  rintro _ _ _ _ ⟨rfl, rfl, rfl, rfl⟩
  dsimp only [List.cons_append, List.nil_append, Option.toList]
  refine j_istore E 330 dL_law_328 (Nat.le_of_ble_eq_true rfl) rfl rfl ?_
  dsimp only [List.set]
  refine j_aload_n E 331 dL_law_330 2 rfl rfl rfl ?_
  refine j_callV E (c_mg_thrown hA.1 2047 m c0 (pm + 3001) t9 us9 np9 nb9 out9 cd9 pl9) 334 dL_law_331 _ _ _ iv_L_104 rfl rfl rfl (by repeat (first | with_reducible exact pick_0 | with_reducible apply pick_s | exact sel_0 | apply sel_s)) (by decide) (by omega) (by omega) (Nat.le_of_ble_eq_true rfl) rfl ?_
  rintro _ _ _ _ ⟨rfl, rfl, rfl, rfl⟩
  dsimp only [List.cons_append, List.nil_append, Option.toList]
  refine j_iload E 336 dL_law_334 rfl rfl ?_
  refine j_icmp_eq E 341 339 dL_law_336 (by decide) rfl (fun _ => ?_) (fun h => absurd rfl h)
  refine j_iload E 343 dL_law_341 rfl rfl ?_
  refine j_if_ne E 358 346 dL_law_343 (by decide) rfl (fun _ => ?_) (fun h0 => ?_)
  · refine j_goto E 1696 dL_law_358 (by decide) ?_
    refine j_forget 5 ?_
    refine j_forget 6 ?_
    dsimp only [List.set]
    refine j_sel (pre := [PGA X.1 z x (t9, us9, np9, nb9, out9, cd9, pl9) P' Q', MGA X.1 m (nI c0) (t9, us9, np9, nb9, out9, cd9, pl9) (pm + 3001), pt ob (aJ X.1 1 f')]) (by repeat (first | with_reducible exact pick_0 | with_reducible apply pick_s | exact sel_0 | apply sel_s)) ?_
    exact kk (t9, us9, np9, nb9, out9, cd9, pl9) P' Q' _ _ _ _ _ (ls_step (dc := dc) (ds := ds) (M := 40000) (N := 1726880 - Q) hLS hc ⟨hb1, hb2, hb3, hb4⟩ hln)
  have e0 : c0 = 0 := (nI_eq (b := 0) (by omega) (by decide)).mp h0
  refine j_aload_n E 347 dL_law_346 3 rfl rfl rfl ?_
  refine j_iconst E (0) 348 dL_law_347 (by decide) rfl ?_
  refine j_lald E 349 dL_law_348 (by repeat (first | with_reducible exact pick_0 | with_reducible apply pick_s)) vp_in01 rfl ?_
  refine j_eql (y := v0.toInt64) (by rw [clamp0]; exact hf e0) ?_
  refine j_iload E 351 dL_law_349 rfl rfl ?_
  refine j_i2l E 352 dL_law_351 rfl ?_
  refine j_lcmp E 353 dL_law_352 rfl ?_
  refine j_eqi (y := 0) ((lg_cmp_eq _ _).mpr rfl) ?_
  refine j_if_eq E 358 356 dL_law_353 (by decide) rfl (fun _ => ?_) (fun h => absurd rfl h)
  refine j_goto E 1696 dL_law_358 (by decide) ?_
  refine j_forget 5 ?_
  refine j_forget 6 ?_
  dsimp only [List.set]
  refine j_sel (pre := [PGA X.1 z x (t9, us9, np9, nb9, out9, cd9, pl9) P' Q', MGA X.1 m (nI c0) (t9, us9, np9, nb9, out9, cd9, pl9) (pm + 3001), pt ob (aJ X.1 1 f')]) (by repeat (first | with_reducible exact pick_0 | with_reducible apply pick_s | exact sel_0 | apply sel_s)) ?_
  exact kk (t9, us9, np9, nb9, out9, cd9, pl9) P' Q' _ _ _ _ _ (ls_step (dc := dc) (ds := ds) (M := 40000) (N := 1726880 - Q) hLS hc ⟨hb1, hb2, hb3, hb4⟩ hln)
set_option maxHeartbeats 8000000 in
theorem lw_skip {X : XT} {z : Nat → Nat} (hA : GA X.1 z) (h4 : GLB4 X.1) (E : JE X RL cL_law 8 2048 600384 7289322) {b L i c x m ob P Q pm k n : Nat} {xs : Nat → Int32} {S : AS} {th : Int32} {f : Nat → Int64} (hT : OT X.1 .int b L (fun j => .int (xs j))) (hL : L ≤ 384) (hi : i + 6 ≤ L) (hc : c < 64) (hok : AOk S) (hP : P ≤ 9100000) (hQ : Q ≤ 1500000) (hLS : RMC c S.1.length P Q pm k n) (kk : KK X z b x m ob i (c + 1)) : J X 8 [PGA X.1 z x S P Q, MGA X.1 m th S pm, pt ob (aJ X.1 1 f)] k n 361 [some (.ref b), some (.ref x), some (.ref m), some (.ref ob), some (.int (nI i)), none, none, none] [] := by
  obtain ⟨tape, us, np, nb, out, cd, pl⟩ := S
  have hls := hLS
  obtain ⟨l1, l2, l3, l4⟩ := hls
  dsimp only at l1
  obtain ⟨T, hT9⟩ : ∃ T, T = (sSkip (xs (i + 1)) (tape, us, np, nb, out, cd, pl)) := ⟨_, rfl⟩
  have hln : LNt (tape, us, np, nb, out, cd, pl) (sSkip (xs (i + 1)) (tape, us, np, nb, out, cd, pl)).2.2 := ln_skip
  have K1 := c_L_skip hA h4 2047 40000 (1726880 - Q) x ob P Q f (xs (i + 1)) (tape, us, np, nb, out, cd, pl) (by decide) (by dsimp only; omega) (by dsimp only; omega)
  have K2 := c_mg_skip hA.1 2047 m th tape us np nb out cd pl pm (xs (i + 1)) (by decide)
  rw [← hT9] at K1 K2 hln
  clear hT9
  obtain ⟨c0, v0, t9, us9, np9, nb9, out9, cd9, pl9⟩ := T
  dsimp only at K1 K2 hln
  refine j_aload_n E 362 dL_law_361 1 rfl rfl rfl ?_
  refine j_scr E hT 368 1 dL_law_362 dL_law_363 dL_law_365 dL_law_366 dL_law_367 (by decide) rfl rfl rfl (by omega) hL ?_
  refine j_aload_n E 369 dL_law_368 3 rfl rfl rfl ?_
  refine j_callSH E K1 372 dL_law_369 sv_L_skip rfl rfl (by repeat (first | with_reducible exact pick_0 | with_reducible apply pick_s | exact sel_0 | apply sel_s)) (by decide) (by omega) (by omega) (Nat.le_of_ble_eq_true rfl) rfl ?_
  rintro o dc ds ws' ⟨P', Q', f', rfl, h3, hf, rfl, hb1, hb2, hb3, hb4⟩
  dsimp only [List.cons_append, List.nil_append, Option.toList]
  dsimp only at h3 hf
  refine j_istore E 374 dL_law_372 (Nat.le_of_ble_eq_true rfl) rfl rfl ?_
  dsimp only [List.set]
  refine j_aload_n E 375 dL_law_374 2 rfl rfl rfl ?_
  refine j_scr E hT 381 1 dL_law_375 dL_law_376 dL_law_378 dL_law_379 dL_law_380 (by decide) rfl rfl rfl (by omega) hL ?_
  refine j_callV E K2 384 dL_law_381 _ _ _ iv_L_121 rfl rfl rfl (by repeat (first | with_reducible exact pick_0 | with_reducible apply pick_s | exact sel_0 | apply sel_s)) (by decide) (by omega) (by omega) (Nat.le_of_ble_eq_true rfl) rfl ?_
  rintro _ _ _ _ ⟨rfl, rfl, rfl, rfl⟩
  dsimp only [List.cons_append, List.nil_append, Option.toList]
  refine j_istore E 386 dL_law_384 (Nat.le_of_ble_eq_true rfl) rfl rfl ?_
  dsimp only [List.set]
  refine j_aload_n E 387 dL_law_386 2 rfl rfl rfl ?_
  refine j_callV E (c_mg_thrown hA.1 2047 m c0 (pm + 3001) t9 us9 np9 nb9 out9 cd9 pl9) 390 dL_law_387 _ _ _ iv_L_104 rfl rfl rfl (by repeat (first | with_reducible exact pick_0 | with_reducible apply pick_s | exact sel_0 | apply sel_s)) (by decide) (by omega) (by omega) (Nat.le_of_ble_eq_true rfl) rfl ?_
  rintro _ _ _ _ ⟨rfl, rfl, rfl, rfl⟩
  dsimp only [List.cons_append, List.nil_append, Option.toList]
  refine j_iload E 392 dL_law_390 rfl rfl ?_
  refine j_icmp_eq E 397 395 dL_law_392 (by decide) rfl (fun _ => ?_) (fun h => absurd rfl h)
  refine j_iload E 399 dL_law_397 rfl rfl ?_
  refine j_if_ne E 414 402 dL_law_399 (by decide) rfl (fun _ => ?_) (fun h0 => ?_)
  · refine j_goto E 1696 dL_law_414 (by decide) ?_
    refine j_forget 5 ?_
    refine j_forget 6 ?_
    dsimp only [List.set]
    refine j_sel (pre := [PGA X.1 z x (t9, us9, np9, nb9, out9, cd9, pl9) P' Q', MGA X.1 m (nI c0) (t9, us9, np9, nb9, out9, cd9, pl9) (pm + 3001), pt ob (aJ X.1 1 f')]) (by repeat (first | with_reducible exact pick_0 | with_reducible apply pick_s | exact sel_0 | apply sel_s)) ?_
    exact kk (t9, us9, np9, nb9, out9, cd9, pl9) P' Q' _ _ _ _ _ (ls_step (dc := dc) (ds := ds) (M := 40000) (N := 1726880 - Q) hLS hc ⟨hb1, hb2, hb3, hb4⟩ hln)
  have e0 : c0 = 0 := (nI_eq (b := 0) (by omega) (by decide)).mp h0
  refine j_aload_n E 403 dL_law_402 3 rfl rfl rfl ?_
  refine j_iconst E (0) 404 dL_law_403 (by decide) rfl ?_
  refine j_lald E 405 dL_law_404 (by repeat (first | with_reducible exact pick_0 | with_reducible apply pick_s)) vp_in01 rfl ?_
  refine j_eql (y := v0.toInt64) (by rw [clamp0]; exact hf e0) ?_
  refine j_iload E 407 dL_law_405 rfl rfl ?_
  refine j_i2l E 408 dL_law_407 rfl ?_
  refine j_lcmp E 409 dL_law_408 rfl ?_
  refine j_eqi (y := 0) ((lg_cmp_eq _ _).mpr rfl) ?_
  refine j_if_eq E 414 412 dL_law_409 (by decide) rfl (fun _ => ?_) (fun h => absurd rfl h)
  refine j_goto E 1696 dL_law_414 (by decide) ?_
  refine j_forget 5 ?_
  refine j_forget 6 ?_
  dsimp only [List.set]
  refine j_sel (pre := [PGA X.1 z x (t9, us9, np9, nb9, out9, cd9, pl9) P' Q', MGA X.1 m (nI c0) (t9, us9, np9, nb9, out9, cd9, pl9) (pm + 3001), pt ob (aJ X.1 1 f')]) (by repeat (first | with_reducible exact pick_0 | with_reducible apply pick_s | exact sel_0 | apply sel_s)) ?_
  exact kk (t9, us9, np9, nb9, out9, cd9, pl9) P' Q' _ _ _ _ _ (ls_step (dc := dc) (ds := ds) (M := 40000) (N := 1726880 - Q) hLS hc ⟨hb1, hb2, hb3, hb4⟩ hln)
set_option maxHeartbeats 8000000 in
theorem lw_pack {X : XT} {z : Nat → Nat} (hA : GA X.1 z) (h4 : GLB4 X.1) (E : JE X RL cL_law 8 2048 600384 7289322) {b L i c x m ob P Q pm k n : Nat} {xs : Nat → Int32} {S : AS} {th : Int32} {f : Nat → Int64} (hT : OT X.1 .int b L (fun j => .int (xs j))) (hL : L ≤ 384) (hi : i + 6 ≤ L) (hc : c < 64) (hok : AOk S) (hP : P ≤ 9100000) (hQ : Q ≤ 1500000) (hLS : RMC c S.1.length P Q pm k n) (kk : KK X z b x m ob i (c + 1)) : J X 8 [PGA X.1 z x S P Q, MGA X.1 m th S pm, pt ob (aJ X.1 1 f)] k n 417 [some (.ref b), some (.ref x), some (.ref m), some (.ref ob), some (.int (nI i)), none, none, none] [] := by
  obtain ⟨tape, us, np, nb, out, cd, pl⟩ := S
  have hls := hLS
  obtain ⟨l1, l2, l3, l4⟩ := hls
  dsimp only at l1
  obtain ⟨T, hT9⟩ : ∃ T, T = (sPack (xs (i + 1)) (tape, us, np, nb, out, cd, pl)) := ⟨_, rfl⟩
  have hln : LNt (tape, us, np, nb, out, cd, pl) (sPack (xs (i + 1)) (tape, us, np, nb, out, cd, pl)).2.2 := ln_pack
  have K1 := c_L_pack hA h4 2047 40000 (1726880 - Q) x ob P Q f (xs (i + 1)) (tape, us, np, nb, out, cd, pl) (by decide) (by dsimp only; omega) (by dsimp only; omega)
  have K2 := c_mg_pack hA.1 2047 m th tape us np nb out cd pl pm (xs (i + 1)) hok (by omega) (by decide)
  rw [← hT9] at K1 K2 hln
  clear hT9
  obtain ⟨c0, v0, t9, us9, np9, nb9, out9, cd9, pl9⟩ := T
  dsimp only at K1 K2 hln
  refine j_aload_n E 418 dL_law_417 1 rfl rfl rfl ?_
  refine j_scr E hT 424 1 dL_law_418 dL_law_419 dL_law_421 dL_law_422 dL_law_423 (by decide) rfl rfl rfl (by omega) hL ?_
  refine j_aload_n E 425 dL_law_424 3 rfl rfl rfl ?_
  refine j_callSH E K1 428 dL_law_425 sv_L_pack rfl rfl (by repeat (first | with_reducible exact pick_0 | with_reducible apply pick_s | exact sel_0 | apply sel_s)) (by decide) (by omega) (by omega) (Nat.le_of_ble_eq_true rfl) rfl ?_
  rintro o dc ds ws' ⟨P', Q', f', rfl, h3, hf, rfl, hb1, hb2, hb3, hb4⟩
  dsimp only [List.cons_append, List.nil_append, Option.toList]
  dsimp only at h3 hf
  refine j_istore E 430 dL_law_428 (Nat.le_of_ble_eq_true rfl) rfl rfl ?_
  dsimp only [List.set]
  refine j_aload_n E 431 dL_law_430 2 rfl rfl rfl ?_
  refine j_scr E hT 437 1 dL_law_431 dL_law_432 dL_law_434 dL_law_435 dL_law_436 (by decide) rfl rfl rfl (by omega) hL ?_
  refine j_callV E K2 440 dL_law_437 _ _ _ iv_L_124 rfl rfl rfl (by repeat (first | with_reducible exact pick_0 | with_reducible apply pick_s | exact sel_0 | apply sel_s)) (by decide) (by omega) (by omega) (Nat.le_of_ble_eq_true rfl) rfl ?_
  rintro _ _ _ _ ⟨rfl, rfl, rfl, rfl⟩
  dsimp only [List.cons_append, List.nil_append, Option.toList]
  refine j_istore E 442 dL_law_440 (Nat.le_of_ble_eq_true rfl) rfl rfl ?_
  dsimp only [List.set]
  refine j_aload_n E 443 dL_law_442 2 rfl rfl rfl ?_
  refine j_callV E (c_mg_thrown hA.1 2047 m c0 (pm + 3001) t9 us9 np9 nb9 out9 cd9 pl9) 446 dL_law_443 _ _ _ iv_L_104 rfl rfl rfl (by repeat (first | with_reducible exact pick_0 | with_reducible apply pick_s | exact sel_0 | apply sel_s)) (by decide) (by omega) (by omega) (Nat.le_of_ble_eq_true rfl) rfl ?_
  rintro _ _ _ _ ⟨rfl, rfl, rfl, rfl⟩
  dsimp only [List.cons_append, List.nil_append, Option.toList]
  refine j_iload E 448 dL_law_446 rfl rfl ?_
  refine j_icmp_eq E 453 451 dL_law_448 (by decide) rfl (fun _ => ?_) (fun h => absurd rfl h)
  refine j_iload E 455 dL_law_453 rfl rfl ?_
  refine j_if_ne E 470 458 dL_law_455 (by decide) rfl (fun _ => ?_) (fun h0 => ?_)
  · refine j_goto E 1696 dL_law_470 (by decide) ?_
    refine j_forget 5 ?_
    refine j_forget 6 ?_
    dsimp only [List.set]
    refine j_sel (pre := [PGA X.1 z x (t9, us9, np9, nb9, out9, cd9, pl9) P' Q', MGA X.1 m (nI c0) (t9, us9, np9, nb9, out9, cd9, pl9) (pm + 3001), pt ob (aJ X.1 1 f')]) (by repeat (first | with_reducible exact pick_0 | with_reducible apply pick_s | exact sel_0 | apply sel_s)) ?_
    exact kk (t9, us9, np9, nb9, out9, cd9, pl9) P' Q' _ _ _ _ _ (ls_step (dc := dc) (ds := ds) (M := 40000) (N := 1726880 - Q) hLS hc ⟨hb1, hb2, hb3, hb4⟩ hln)
  have e0 : c0 = 0 := (nI_eq (b := 0) (by omega) (by decide)).mp h0
  refine j_aload_n E 459 dL_law_458 3 rfl rfl rfl ?_
  refine j_iconst E (0) 460 dL_law_459 (by decide) rfl ?_
  refine j_lald E 461 dL_law_460 (by repeat (first | with_reducible exact pick_0 | with_reducible apply pick_s)) vp_in01 rfl ?_
  refine j_eql (y := v0.toInt64) (by rw [clamp0]; exact hf e0) ?_
  refine j_iload E 463 dL_law_461 rfl rfl ?_
  refine j_i2l E 464 dL_law_463 rfl ?_
  refine j_lcmp E 465 dL_law_464 rfl ?_
  refine j_eqi (y := 0) ((lg_cmp_eq _ _).mpr rfl) ?_
  refine j_if_eq E 470 468 dL_law_465 (by decide) rfl (fun _ => ?_) (fun h => absurd rfl h)
  refine j_goto E 1696 dL_law_470 (by decide) ?_
  refine j_forget 5 ?_
  refine j_forget 6 ?_
  dsimp only [List.set]
  refine j_sel (pre := [PGA X.1 z x (t9, us9, np9, nb9, out9, cd9, pl9) P' Q', MGA X.1 m (nI c0) (t9, us9, np9, nb9, out9, cd9, pl9) (pm + 3001), pt ob (aJ X.1 1 f')]) (by repeat (first | with_reducible exact pick_0 | with_reducible apply pick_s | exact sel_0 | apply sel_s)) ?_
  exact kk (t9, us9, np9, nb9, out9, cd9, pl9) P' Q' _ _ _ _ _ (ls_step (dc := dc) (ds := ds) (M := 40000) (N := 1726880 - Q) hLS hc ⟨hb1, hb2, hb3, hb4⟩ hln)

/-! the model: goodPart -/
theorem gp_div : ∀ i : Fin 256, nI i.val / 64 = nI (i.val / 64) := by decide +kernel
theorem gp_next {c x : Nat} (hx : x < 256) : nI c * 64 + (nI x - nI x / 64 * 64) = nI (c * 64 + x % 64) := by
  rw [show (64 : Int32) = nI 64 from rfl, pk_rem (by omega) (by decide) (by decide), show nI c * nI 64 = nI (c * 64) from (Int32.ofNat_mul c 64).symm]
  exact nI_add _ _
theorem chV_b (bs : List UInt8) (i n : Nat) : ∀ j, chV bs i n j < 2 ^ (7 - n) * 64 ^ j
  | 0 => by
    rw [chV, Nat.pow_zero, Nat.mul_one]
    exact Nat.mod_lt _ (Nat.pow_pos (by decide))
  | j + 1 => by
    have h := chV_b bs i n j
    rw [chV, Nat.pow_succ, ← Nat.mul_assoc]
    generalize 2 ^ (7 - n) * 64 ^ j = A at h ⊢
    omega
theorem bI_0 {b : Bool} : bI b = 0 ↔ b = false := by cases b <;> decide
/-- how many from f on before t are characters -/
def gpN (bs : List UInt8) (f t : Nat) : Nat := match chBad bs t (t - f) f with
  | none => t - f
  | some p => p - f
set_option maxHeartbeats 4000000 in
theorem c_m_good {g : GT} (hG : GLB g) (d a f t : Nat) (bs : List UInt8) (hf : f ≤ t) (ht : t ≤ bs.length) : Ctr g mX8_goodPart d 0 0 [.ref a, .int (nI f), .int (nI t)] [BA g a bs] (fun o dc ds ws' => o = some (.int (nI (gpN bs f t))) ∧ dc = 0 ∧ ds = 0 ∧ ws' = [BA g a bs]) noX := by
  refine ctr_intro hG (by decide +kernel) (Nat.le_of_ble_eq_true rfl) ?_
  rintro X F rfl E B hI T
  replace E : JE X RX8 cX8_goodPart 10 d 0 0 := E
  show J X _ [BA X.1 a bs, F] 0 0 0 [some (.ref a), some (.int (nI f)), some (.int (nI t)), none, none, none, none, none, none, none] []
  refine j_know (pick_know (P := BA X.1 a bs) (by repeat (first | with_reducible exact pick_0 | with_reducible apply pick_s)) ba_know) (fun hbl => ?_)
  obtain ⟨R, hR⟩ : ∃ R, R = chBad bs t (t - f) f := ⟨_, rfl⟩
  rw [gpN, ← hR] at B
  have exit : ∀ (k : Nat) (l4 : Option Value) (l5 : Option Value) (l6 : Option Value) (l7 : Option Value) (l8 : Option Value) (l9 : Option Value), k = t → R = none → J X 10 [BA X.1 a bs, F] 0 0 2 [some (.ref a), some (.int (nI f)), some (.int (nI t)), some (.int (nI k)), l4, l5, l6, l7, l8, l9] [] := by
    intro k l4 l5 l6 l7 l8 l9 hk hn
    rw [hn] at B
    refine j_iload_n E 3 dX8_goodPart_2 3 rfl rfl rfl ?_
    refine j_iload_n E 4 dX8_goodPart_3 2 rfl rfl rfl ?_
    refine j_icmp_ge E 279 7 dX8_goodPart_4 (by decide) rfl (fun h4 => ?_) (fun h4 => ?_)
    · refine j_iload_n E 280 dX8_goodPart_279 2 rfl rfl rfl ?_
      refine j_iload_n E 281 dX8_goodPart_280 1 rfl rfl rfl ?_
      refine j_isub E 282 dX8_goodPart_281 rfl ?_
      refine j_eqi (pk_sub hf) ?_
      exact j_iret E B rfl 0 0 dX8_goodPart_282 (by repeat (first | with_reducible exact pick_0 | with_reducible apply pick_s | exact sel_0 | apply sel_s)) ⟨rfl, rfl, rfl, rfl⟩ (by omega) (by omega) (by omega) (by omega)
    · exact absurd (nI_le (by omega) (by omega)) h4
  have main : ∀ (q k : Nat) (l4 : Option Value) (l5 : Option Value) (l6 : Option Value) (l7 : Option Value) (l8 : Option Value) (l9 : Option Value), t - k ≤ q → f ≤ k → k ≤ t → chBad bs t q k = R → J X 10 [BA X.1 a bs, F] 0 0 2 [some (.ref a), some (.int (nI f)), some (.int (nI t)), some (.int (nI k)), l4, l5, l6, l7, l8, l9] [] := by
    intro q
    induction q with
    | zero =>
      intro k l4 l5 l6 l7 l8 l9 hq hfk hkt hc
      exact exit k l4 l5 l6 l7 l8 l9 (by omega) hc.symm
    | succ q ih =>
      intro k l4 l5 l6 l7 l8 l9 hq hfk hkt hc
      rw [chBad] at hc
      by_cases hk : k < t
      · rw [if_pos hk] at hc
        obtain ⟨lb, hlb⟩ : ∃ lb, lb = bN bs k := ⟨_, rfl⟩
        have hl : lb < 256 := by rw [hlb]; exact bN_lt bs k
        obtain ⟨sn, hsn⟩ : ∃ sn, sn = sLen lb := ⟨_, rfl⟩
        have hs4 : sn ≤ 4 := by rw [hsn]; exact sLen_le lb
        have hch : chLen bs k t = if sn ≤ 1 then sn else if t - k < sn then 0 else if chR bs k (sn - 1) = true then (if chS (chV bs k sn (sn - 1)) = sn then sn else 0) else 0 := by rw [chLen, ← hlb, ← hsn]
        have bad : ∀ (l5 : Option Value) (l6 : Option Value) (l7 : Option Value) (l8 : Option Value) (l9 : Option Value), chLen bs k t = 0 → (J X 10 [BA X.1 a bs, F] 0 0 104 [some (.ref a), some (.int (nI f)), some (.int (nI t)), some (.int (nI k)), some (.int (nI lb)), l5, l6, l7, l8, l9] []) ∧ (J X 10 [BA X.1 a bs, F] 0 0 267 [some (.ref a), some (.int (nI f)), some (.int (nI t)), some (.int (nI k)), some (.int (nI lb)), l5, l6, l7, l8, l9] []) := by
          intro l5 l6 l7 l8 l9 h0
          rw [if_pos h0] at hc
          rw [← hc] at B
          refine ⟨?_, ?_⟩
          · refine j_iload_n E 105 dX8_goodPart_104 3 rfl rfl rfl ?_
            refine j_iload_n E 106 dX8_goodPart_105 1 rfl rfl rfl ?_
            refine j_isub E 107 dX8_goodPart_106 rfl ?_
            refine j_eqi (pk_sub hfk) ?_
            exact j_iret E B rfl 0 0 dX8_goodPart_107 (by repeat (first | with_reducible exact pick_0 | with_reducible apply pick_s | exact sel_0 | apply sel_s)) ⟨rfl, rfl, rfl, rfl⟩ (by omega) (by omega) (by omega) (by omega)
          · refine j_iload_n E 268 dX8_goodPart_267 3 rfl rfl rfl ?_
            refine j_iload_n E 269 dX8_goodPart_268 1 rfl rfl rfl ?_
            refine j_isub E 270 dX8_goodPart_269 rfl ?_
            refine j_eqi (pk_sub hfk) ?_
            exact j_iret E B rfl 0 0 dX8_goodPart_270 (by repeat (first | with_reducible exact pick_0 | with_reducible apply pick_s | exact sel_0 | apply sel_s)) ⟨rfl, rfl, rfl, rfl⟩ (by omega) (by omega) (by omega) (by omega)
        have next : ∀ (l6 : Option Value) (l7 : Option Value) (l8 : Option Value) (l9 : Option Value), 0 < sn → k + sn ≤ t → chLen bs k t = sn → J X 10 [BA X.1 a bs, F] 0 0 271 [some (.ref a), some (.int (nI f)), some (.int (nI t)), some (.int (nI k)), some (.int (nI lb)), some (.int (nI sn)), l6, l7, l8, l9] [] := by
          intro l6 l7 l8 l9 h0 hkn he
          rw [if_neg (by omega), he] at hc
          refine j_iload_n E 272 dX8_goodPart_271 3 rfl rfl rfl ?_
          refine j_iload E 274 dX8_goodPart_272 rfl rfl ?_
          refine j_iadd E 275 dX8_goodPart_274 rfl ?_
          refine j_eqi (nI_add k sn) ?_
          refine j_istore_n E 276 dX8_goodPart_275 3 rfl (Nat.le_of_ble_eq_true rfl) rfl rfl ?_
          dsimp only [List.set]
          refine j_goto E 2 dX8_goodPart_276 (by decide) ?_
          exact ih (k + sn) _ _ _ _ _ _ (by omega) (by omega) hkn hc
        have at234 : ∀ (v L : Nat) (rb : Bool) (l9 : Option Value), v < 2 ^ 26 → L ≤ 65536 → 0 < sn → k + sn ≤ t → (chLen bs k t = if rb = true ∧ L ≤ v ∧ v ≤ 1114111 ∧ ¬ (55296 ≤ v ∧ v ≤ 57343) then sn else 0) → J X 10 [BA X.1 a bs, F] 0 0 234 [some (.ref a), some (.int (nI f)), some (.int (nI t)), some (.int (nI k)), some (.int (nI lb)), some (.int (nI sn)), some (.int (nI v)), some (.int (bI rb)), some (.int (nI L)), l9] [] := by
          intro v L rb l9 hv hL h0 hkn he
          refine j_iload E 236 dX8_goodPart_234 rfl rfl ?_
          refine j_if_eq E 267 239 dX8_goodPart_236 (by decide) rfl (fun h236 => ?_) (fun h236 => ?_)
          · have q := bI_0.mp h236
            exact (bad _ _ _ _ _ (by rw [he, if_neg (fun x => by rw [q] at x; exact absurd x.1 (by decide))])).2
          · have q236 : rb = true := by
              cases rb
              · exact absurd rfl h236
              · rfl
            refine j_iload E 241 dX8_goodPart_239 rfl rfl ?_
            refine j_iload E 243 dX8_goodPart_241 rfl rfl ?_
            refine j_icmp_lt E 267 246 dX8_goodPart_243 (by decide) rfl (fun h243 => ?_) (fun h243 => ?_)
            · have q243 : v < L := (nI_ltI (a := v) (b := L) (by omega) (by omega)).mp h243
              exact (bad _ _ _ _ _ (by rw [he, if_neg (fun x => by omega)])).2
            · have q243 : ¬ v < L := mt (nI_ltI (a := v) (b := L) (by omega) (by omega)).mpr h243
              refine j_iload E 248 dX8_goodPart_246 rfl rfl ?_
              refine j_ldcI E _ 250 dX8_goodPart_248 kc_X8_104 rfl ?_
              refine j_icmp_gt E 267 253 dX8_goodPart_250 (by decide) rfl (fun h250 => ?_) (fun h250 => ?_)
              · have q250 : 1114111 < v := (nI_ltI (a := 1114111) (b := v) (by omega) (by omega)).mp h250
                exact (bad _ _ _ _ _ (by rw [he, if_neg (fun x => by omega)])).2
              · have q250 : ¬ 1114111 < v := mt (nI_ltI (a := 1114111) (b := v) (by omega) (by omega)).mpr h250
                refine j_iload E 255 dX8_goodPart_253 rfl rfl ?_
                refine j_ldcI E _ 257 dX8_goodPart_255 kc_X8_105 rfl ?_
                refine j_icmp_lt E 271 260 dX8_goodPart_257 (by decide) rfl (fun h257 => ?_) (fun h257 => ?_)
                · have q257 : v < 55296 := (nI_ltI (a := v) (b := 55296) (by omega) (by omega)).mp h257
                  exact next _ _ _ _ h0 hkn (by rw [he, if_pos ⟨q236, by omega, by omega, by omega⟩])
                · have q257 : ¬ v < 55296 := mt (nI_ltI (a := v) (b := 55296) (by omega) (by omega)).mpr h257
                  refine j_iload E 262 dX8_goodPart_260 rfl rfl ?_
                  refine j_ldcI E _ 264 dX8_goodPart_262 kc_X8_106 rfl ?_
                  refine j_icmp_gt E 271 267 dX8_goodPart_264 (by decide) rfl (fun h264 => ?_) (fun h264 => ?_)
                  · have q264 : 57343 < v := (nI_ltI (a := 57343) (b := v) (by omega) (by omega)).mp h264
                    exact next _ _ _ _ h0 hkn (by rw [he, if_pos ⟨q236, by omega, by omega, by omega⟩])
                  · have q264 : ¬ 57343 < v := mt (nI_ltI (a := 57343) (b := v) (by omega) (by omega)).mpr h264
                    exact (bad _ _ _ _ _ (by rw [he, if_neg (fun x => by omega)])).2
        have loop : 2 ≤ sn → k + sn ≤ t → ∀ (q j : Nat) (l9 : Option Value), j + q = sn - 1 → J X 10 [BA X.1 a bs, F] 0 0 137 [some (.ref a), some (.int (nI f)), some (.int (nI t)), some (.int (nI k)), some (.int (nI lb)), some (.int (nI sn)), some (.int (nI (chV bs k sn j))), some (.int (bI (chR bs k j))), some (.int (nI (j + 1))), l9] [] := by
          intro h2 hkn q
          induction q with
          | zero =>
            intro j l9 hj
            have hv := chV_b bs k sn j
            have hle : chLen bs k t = if chR bs k j = true then (if chS (chV bs k sn j) = sn then sn else 0) else 0 := by
              rw [hch, if_neg (by omega), if_neg (by omega), show sn - 1 = j by omega]
            have hbnd := chV_lt2 (bs := bs) (i := k) (n := sn) (j := j) (by omega)
            have done : ∀ L : Nat, (chS (chV bs k sn j) = sn ↔ (L ≤ chV bs k sn j ∧ chV bs k sn j ≤ 1114111 ∧ ¬ (55296 ≤ chV bs k sn j ∧ chV bs k sn j ≤ 57343))) → chLen bs k t = if chR bs k j = true ∧ L ≤ chV bs k sn j ∧ chV bs k sn j ≤ 1114111 ∧ ¬ (55296 ≤ chV bs k sn j ∧ chV bs k sn j ≤ 57343) then sn else 0 := by
              intro L hiff
              rw [hle]
              by_cases q1 : chR bs k j = true
              · rw [if_pos q1]
                by_cases q2 : chS (chV bs k sn j) = sn
                · rw [if_pos q2, if_pos ⟨q1, hiff.mp q2⟩]
                · rw [if_neg q2, if_neg (fun x => q2 (hiff.mpr x.2))]
              · rw [if_neg q1, if_neg (fun x => q1 x.1)]
            refine j_iload E 139 dX8_goodPart_137 rfl rfl ?_
            refine j_iload E 141 dX8_goodPart_139 rfl rfl ?_
            refine j_icmp_ge E 196 144 dX8_goodPart_141 (by decide) rfl (fun h141 => ?_) (fun h141 => ?_)
            · have h3 : sn = 2 ∨ sn = 3 ∨ sn = 4 := by omega
              rcases h3 with rfl | rfl | rfl
              · have hj1 : j = 1 := by omega
                subst hj1
                refine j_iload E 198 dX8_goodPart_196 rfl rfl ?_
                refine j_iconst E (1) 199 dX8_goodPart_198 (by decide) rfl ?_
                refine j_icmp_ne E 206 202 dX8_goodPart_199 (by decide) rfl (fun h199 => ?_) (fun h199 => ?_)
                · refine j_iload E 208 dX8_goodPart_206 rfl rfl ?_
                  refine j_iconst E (2) 209 dX8_goodPart_208 (by decide) rfl ?_
                  refine j_icmp_ne E 218 212 dX8_goodPart_209 (by decide) rfl (fun h209 => ?_) (fun h209 => ?_)
                  · exact absurd rfl h209
                  · refine j_sipush E (128) 215 dX8_goodPart_212 (by decide) rfl ?_
                    refine j_goto E 232 dX8_goodPart_215 (by decide) ?_
                    refine j_istore E 234 dX8_goodPart_232 (Nat.le_of_ble_eq_true rfl) rfl rfl ?_
                    dsimp only [List.set]
                    exact at234 _ 128 _ _ hbnd (by decide) (by decide) hkn (done 128 (by
                      have hv2 : chV bs k 2 1 < 2048 := hv
                      generalize chV bs k 2 1 = v at hv2 ⊢
                      unfold chS
                      repeat' (first | omega | split)))
                · exact absurd h199 (by decide)
              · have hj1 : j = 2 := by omega
                subst hj1
                refine j_iload E 198 dX8_goodPart_196 rfl rfl ?_
                refine j_iconst E (1) 199 dX8_goodPart_198 (by decide) rfl ?_
                refine j_icmp_ne E 206 202 dX8_goodPart_199 (by decide) rfl (fun h199 => ?_) (fun h199 => ?_)
                · refine j_iload E 208 dX8_goodPart_206 rfl rfl ?_
                  refine j_iconst E (2) 209 dX8_goodPart_208 (by decide) rfl ?_
                  refine j_icmp_ne E 218 212 dX8_goodPart_209 (by decide) rfl (fun h209 => ?_) (fun h209 => ?_)
                  · refine j_iload E 220 dX8_goodPart_218 rfl rfl ?_
                    refine j_iconst E (3) 221 dX8_goodPart_220 (by decide) rfl ?_
                    refine j_icmp_ne E 230 224 dX8_goodPart_221 (by decide) rfl (fun h221 => ?_) (fun h221 => ?_)
                    · exact absurd rfl h221
                    · refine j_sipush E (2048) 227 dX8_goodPart_224 (by decide) rfl ?_
                      refine j_goto E 232 dX8_goodPart_227 (by decide) ?_
                      refine j_istore E 234 dX8_goodPart_232 (Nat.le_of_ble_eq_true rfl) rfl rfl ?_
                      dsimp only [List.set]
                      exact at234 _ 2048 _ _ hbnd (by decide) (by decide) hkn (done 2048 (by
                        have hv2 : chV bs k 3 2 < 65536 := hv
                        generalize chV bs k 3 2 = v at hv2 ⊢
                        unfold chS
                        repeat' (first | omega | split)))
                  · exact absurd h209 (by decide)
                · exact absurd h199 (by decide)
              · have hj1 : j = 3 := by omega
                subst hj1
                refine j_iload E 198 dX8_goodPart_196 rfl rfl ?_
                refine j_iconst E (1) 199 dX8_goodPart_198 (by decide) rfl ?_
                refine j_icmp_ne E 206 202 dX8_goodPart_199 (by decide) rfl (fun h199 => ?_) (fun h199 => ?_)
                · refine j_iload E 208 dX8_goodPart_206 rfl rfl ?_
                  refine j_iconst E (2) 209 dX8_goodPart_208 (by decide) rfl ?_
                  refine j_icmp_ne E 218 212 dX8_goodPart_209 (by decide) rfl (fun h209 => ?_) (fun h209 => ?_)
                  · refine j_iload E 220 dX8_goodPart_218 rfl rfl ?_
                    refine j_iconst E (3) 221 dX8_goodPart_220 (by decide) rfl ?_
                    refine j_icmp_ne E 230 224 dX8_goodPart_221 (by decide) rfl (fun h221 => ?_) (fun h221 => ?_)
                    · refine j_ldcI E _ 232 dX8_goodPart_230 kc_X8_7 rfl ?_
                      refine j_istore E 234 dX8_goodPart_232 (Nat.le_of_ble_eq_true rfl) rfl rfl ?_
                      dsimp only [List.set]
                      exact at234 _ 65536 _ _ hbnd (by decide) (by decide) hkn (done 65536 (by
                        generalize chV bs k 4 3 = v
                        unfold chS
                        repeat' (first | omega | split)))
                    · exact absurd h221 (by decide)
                  · exact absurd h209 (by decide)
                · exact absurd h199 (by decide)
            · exact absurd (nI_le (by omega) (by omega)) h141
          | succ q ih2 =>
            intro j l9 hj
            refine j_iload E 139 dX8_goodPart_137 rfl rfl ?_
            refine j_iload E 141 dX8_goodPart_139 rfl rfl ?_
            refine j_icmp_ge E 196 144 dX8_goodPart_141 (by decide) rfl (fun h141 => ?_) (fun h141 => ?_)
            · exact absurd h141 (nI_ge (by omega) (by omega))
            · refine j_aload_n E 145 dX8_goodPart_144 0 rfl rfl rfl ?_
              refine j_iload_n E 146 dX8_goodPart_145 3 rfl rfl rfl ?_
              refine j_iload E 148 dX8_goodPart_146 rfl rfl ?_
              refine j_iadd E 149 dX8_goodPart_148 rfl ?_
              refine j_eqi (nI_add k (j + 1)) ?_
              refine j_baldBA E 150 dX8_goodPart_149 (by repeat (first | with_reducible exact pick_0 | with_reducible apply pick_s)) (by omega) rfl ?_
              refine j_sipush E (255) 153 dX8_goodPart_150 (by decide) rfl ?_
              refine j_iand E 154 dX8_goodPart_153 rfl ?_
              refine j_eqi (by8_bN bs (k + (j + 1))) ?_
              have at177 : ∀ rb : Bool, rb = chR bs k (j + 1) → J X 10 [BA X.1 a bs, F] 0 0 177 [some (.ref a), some (.int (nI f)), some (.int (nI t)), some (.int (nI k)), some (.int (nI lb)), some (.int (nI sn)), some (.int (nI (chV bs k sn j))), some (.int (bI rb)), some (.int (nI (j + 1))), some (.int (nI (bN bs (k + (j + 1)))))] [] := by
                intro rb hrb
                subst hrb
                refine j_iload E 179 dX8_goodPart_177 rfl rfl ?_
                refine j_bipush E (64) 181 dX8_goodPart_179 (by decide) rfl ?_
                refine j_imul E 182 dX8_goodPart_181 rfl ?_
                refine j_iload E 184 dX8_goodPart_182 rfl rfl ?_
                refine j_bipush E (64) 186 dX8_goodPart_184 (by decide) rfl ?_
                refine j_irem E 187 dX8_goodPart_186 (by decide) rfl ?_
                refine j_iadd E 188 dX8_goodPart_187 rfl ?_
                refine j_eqi (gp_next (c := chV bs k sn j) (bN_lt bs (k + (j + 1)))) ?_
                refine j_istore E 190 dX8_goodPart_188 (Nat.le_of_ble_eq_true rfl) rfl rfl ?_
                dsimp only [List.set]
                refine j_iinc E _ 193 dX8_goodPart_190 rfl rfl (Nat.le_of_ble_eq_true rfl) rfl rfl ?_
                dsimp only [List.set]
                refine j_goto E 137 dX8_goodPart_193 (by decide) ?_
                have := ih2 (j + 1) (some (.int (nI (bN bs (k + (j + 1)))))) (by omega)
                rw [← nI_1 (j + 1)] at this
                exact this
              refine j_istore E 156 dX8_goodPart_154 (Nat.le_of_ble_eq_true rfl) rfl rfl ?_
              dsimp only [List.set]
              refine j_iload E 158 dX8_goodPart_156 rfl rfl ?_
              refine j_if_eq E 174 161 dX8_goodPart_158 (by decide) rfl (fun h158 => ?_) (fun h158 => ?_)
              · refine j_iconst E (0) 175 dX8_goodPart_174 (by decide) rfl ?_
                refine j_istore E 177 dX8_goodPart_175 (Nat.le_of_ble_eq_true rfl) rfl rfl ?_
                dsimp only [List.set]
                exact at177 false (by rw [chR, bI_0.mp h158, Bool.false_and])
              · have q158 : chR bs k j = true := by
                  cases hcr : chR bs k j
                  · rw [hcr] at h158
                    exact absurd rfl h158
                  · rfl
                refine j_iload E 163 dX8_goodPart_161 rfl rfl ?_
                refine j_bipush E (64) 165 dX8_goodPart_163 (by decide) rfl ?_
                refine j_idiv E 166 dX8_goodPart_165 (by decide) rfl ?_
                refine j_eqi (gp_div ⟨bN bs (k + (j + 1)), bN_lt bs (k + (j + 1))⟩) ?_
                dsimp only
                have hlt := bN_lt bs (k + (j + 1))
                refine j_iconst E (2) 167 dX8_goodPart_166 (by decide) rfl ?_
                refine j_icmp_ne E 174 170 dX8_goodPart_167 (by decide) rfl (fun h167 => ?_) (fun h167 => ?_)
                · refine j_iconst E (0) 175 dX8_goodPart_174 (by decide) rfl ?_
                  refine j_istore E 177 dX8_goodPart_175 (Nat.le_of_ble_eq_true rfl) rfl rfl ?_
                  dsimp only [List.set]
                  exact at177 false (by
                    rw [chR, q158, Bool.true_and]
                    exact (decide_eq_false (fun q => h167 (by rw [q]; rfl))).symm)
                · refine j_iconst E (1) 171 dX8_goodPart_170 (by decide) rfl ?_
                  refine j_goto E 175 dX8_goodPart_171 (by decide) ?_
                  refine j_istore E 177 dX8_goodPart_175 (Nat.le_of_ble_eq_true rfl) rfl rfl ?_
                  dsimp only [List.set]
                  exact at177 true (by
                    rw [chR, q158, Bool.true_and]
                    exact (decide_eq_true ((nI_eq (b := 2) (by omega) (by decide)).mp h167)).symm)
        have at91 : ∀ (l6 : Option Value) (l7 : Option Value) (l8 : Option Value) (l9 : Option Value), J X 10 [BA X.1 a bs, F] 0 0 91 [some (.ref a), some (.int (nI f)), some (.int (nI t)), some (.int (nI k)), some (.int (nI lb)), some (.int (nI sn)), l6, l7, l8, l9] [] := by
          intro l6 l7 l8 l9
          refine j_iload E 93 dX8_goodPart_91 rfl rfl ?_
          refine j_if_eq E 104 96 dX8_goodPart_93 (by decide) rfl (fun h93 => ?_) (fun h93 => ?_)
          · have q : sn = 0 := (nI_eq (b := 0) (by omega) (by decide)).mp h93
            exact (bad _ _ _ _ _ (by rw [hch, q]; rfl)).1
          · have q : ¬ sn = 0 := fun q => h93 (by rw [q]; rfl)
            refine j_iload_n E 97 dX8_goodPart_96 3 rfl rfl rfl ?_
            refine j_iload E 99 dX8_goodPart_97 rfl rfl ?_
            refine j_iadd E 100 dX8_goodPart_99 rfl ?_
            refine j_eqi (nI_add k sn) ?_
            refine j_iload_n E 101 dX8_goodPart_100 2 rfl rfl rfl ?_
            refine j_icmp_le E 108 104 dX8_goodPart_101 (by decide) rfl (fun h101 => ?_) (fun h101 => ?_)
            · have q101 : k+sn ≤ t := (nI_leI (a := k+sn) (b := t) (by omega) (by omega)).mp h101
              refine j_iload E 110 dX8_goodPart_108 rfl rfl ?_
              refine j_iconst E (1) 111 dX8_goodPart_110 (by decide) rfl ?_
              refine j_icmp_ne E 119 114 dX8_goodPart_111 (by decide) rfl (fun h111 => ?_) (fun h111 => ?_)
              · have q1 : ¬ sn = 1 := fun q => h111 (by rw [q]; rfl)
                refine j_iload E 121 dX8_goodPart_119 rfl rfl ?_
                refine j_iconst E (1) 122 dX8_goodPart_121 (by decide) rfl ?_
                refine j_bipush E (7) 124 dX8_goodPart_122 (by decide) rfl ?_
                refine j_iload E 126 dX8_goodPart_124 rfl rfl ?_
                refine j_isub E 127 dX8_goodPart_126 rfl ?_
                refine j_ishl E 128 dX8_goodPart_127 rfl ?_
                have e7 : (1 : Int32) <<< ((7 - nI sn) &&& 31) = nI (2 ^ (7 - sn)) := by
                  have h3 : sn = 2 ∨ sn = 3 ∨ sn = 4 := by omega
                  rcases h3 with e | e | e <;> (rw [e]; decide)
                refine j_eqi e7 ?_
                have h3 : sn = 2 ∨ sn = 3 ∨ sn = 4 := by omega
                refine j_irem E 129 dX8_goodPart_128 (by rcases h3 with e | e | e <;> (rw [e]; decide)) rfl ?_
                refine j_eqi (y := nI (chV bs k sn 0)) (by
                  rw [pk_rem (by omega) (Nat.pow_pos (by decide)) (Nat.lt_of_le_of_lt (Nat.pow_le_pow_right (by decide) (show 7 - sn ≤ 5 by omega)) (by decide)), hlb]
                  rfl) ?_
                refine j_istore E 131 dX8_goodPart_129 (Nat.le_of_ble_eq_true rfl) rfl rfl ?_
                dsimp only [List.set]
                refine j_iconst E (1) 132 dX8_goodPart_131 (by decide) rfl ?_
                refine j_istore E 134 dX8_goodPart_132 (Nat.le_of_ble_eq_true rfl) rfl rfl ?_
                dsimp only [List.set]
                refine j_iconst E (1) 135 dX8_goodPart_134 (by decide) rfl ?_
                refine j_istore E 137 dX8_goodPart_135 (Nat.le_of_ble_eq_true rfl) rfl rfl ?_
                dsimp only [List.set]
                exact loop (by omega) q101 (sn - 1) 0 _ (by omega)
              · have q1 : sn = 1 := (nI_eq (b := 1) (by omega) (by decide)).mp h111
                have hl1 : lb < 128 := by
                  have e := hsn
                  rw [q1] at e
                  unfold sLen at e
                  repeat' split at e
                  all_goals omega
                refine j_iload E 116 dX8_goodPart_114 rfl rfl ?_
                refine j_goto E 129 dX8_goodPart_116 (by decide) ?_
                refine j_istore E 131 dX8_goodPart_129 (Nat.le_of_ble_eq_true rfl) rfl rfl ?_
                dsimp only [List.set]
                refine j_iconst E (1) 132 dX8_goodPart_131 (by decide) rfl ?_
                refine j_istore E 134 dX8_goodPart_132 (Nat.le_of_ble_eq_true rfl) rfl rfl ?_
                dsimp only [List.set]
                refine j_iconst E (1) 135 dX8_goodPart_134 (by decide) rfl ?_
                refine j_istore E 137 dX8_goodPart_135 (Nat.le_of_ble_eq_true rfl) rfl rfl ?_
                dsimp only [List.set]
                refine j_iload E 139 dX8_goodPart_137 rfl rfl ?_
                refine j_iload E 141 dX8_goodPart_139 rfl rfl ?_
                refine j_icmp_ge E 196 144 dX8_goodPart_141 (by decide) rfl (fun h141 => ?_) (fun h141 => ?_)
                · refine j_iload E 198 dX8_goodPart_196 rfl rfl ?_
                  refine j_iconst E (1) 199 dX8_goodPart_198 (by decide) rfl ?_
                  refine j_icmp_ne E 206 202 dX8_goodPart_199 (by decide) rfl (fun h199 => ?_) (fun h199 => ?_)
                  · exact absurd (by rw [q1]; rfl) h199
                  · refine j_iconst E (0) 203 dX8_goodPart_202 (by decide) rfl ?_
                    refine j_goto E 232 dX8_goodPart_203 (by decide) ?_
                    refine j_istore E 234 dX8_goodPart_232 (Nat.le_of_ble_eq_true rfl) rfl rfl ?_
                    dsimp only [List.set]
                    exact at234 lb 0 true _ (by omega) (by decide) (by omega) q101 (by rw [hch, if_pos (by omega), if_pos ⟨rfl, by omega, by omega, by omega⟩])
                · exact absurd (by rw [q1]; decide) h141
            · have q101 : ¬ k+sn ≤ t := mt (nI_leI (a := k+sn) (b := t) (by omega) (by omega)).mpr h101
              exact (bad _ _ _ _ _ (by rw [hch, if_neg (by omega), if_pos (by omega)])).1
        have fin : ∀ (c : Nat) (l5 : Option Value) (l6 : Option Value) (l7 : Option Value) (l8 : Option Value) (l9 : Option Value), sLen lb = c → J X 10 [BA X.1 a bs, F] 0 0 89 [some (.ref a), some (.int (nI f)), some (.int (nI t)), some (.int (nI k)), some (.int (nI lb)), l5, l6, l7, l8, l9] [.int (nI c)] := by
          intro c l5 l6 l7 l8 l9 e
          refine j_istore E 91 dX8_goodPart_89 (Nat.le_of_ble_eq_true rfl) rfl rfl ?_
          dsimp only [List.set]
          have := at91 l6 l7 l8 l9
          rw [hsn, e] at this
          exact this
        refine j_iload_n E 3 dX8_goodPart_2 3 rfl rfl rfl ?_
        refine j_iload_n E 4 dX8_goodPart_3 2 rfl rfl rfl ?_
        refine j_icmp_ge E 279 7 dX8_goodPart_4 (by decide) rfl (fun h4 => ?_) (fun h4 => ?_)
        · exact absurd h4 (nI_ge (by omega) (by omega))
        · refine j_aload_n E 8 dX8_goodPart_7 0 rfl rfl rfl ?_
          refine j_iload_n E 9 dX8_goodPart_8 3 rfl rfl rfl ?_
          refine j_baldBA E 10 dX8_goodPart_9 (by repeat (first | with_reducible exact pick_0 | with_reducible apply pick_s)) (by omega) rfl ?_
          refine j_sipush E (255) 13 dX8_goodPart_10 (by decide) rfl ?_
          refine j_iand E 14 dX8_goodPart_13 rfl ?_
          refine j_eqi (by8_bN bs k) ?_
          rw [← hlb]
          refine j_istore E 16 dX8_goodPart_14 (Nat.le_of_ble_eq_true rfl) rfl rfl ?_
          dsimp only [List.set]
          refine j_iload E 18 dX8_goodPart_16 rfl rfl ?_
          refine j_sipush E (128) 21 dX8_goodPart_18 (by decide) rfl ?_
          refine j_icmp_ge E 28 24 dX8_goodPart_21 (by decide) rfl (fun h21 => ?_) (fun h21 => ?_)
          · have q21 : 128 ≤ lb := (nI_leI (a := 128) (b := lb) (by omega) (by omega)).mp h21
            have at68 : 192 ≤ lb → 224 ≤ lb → J X 10 [BA X.1 a bs, F] 0 0 48 [some (.ref a), some (.int (nI f)), some (.int (nI t)), some (.int (nI k)), some (.int (nI lb)), l5, l6, l7, l8, l9] [] := by
              intro a1 a2
              refine j_iload E 50 dX8_goodPart_48 rfl rfl ?_
              refine j_sipush E (224) 53 dX8_goodPart_50 (by decide) rfl ?_
              refine j_icmp_lt E 68 56 dX8_goodPart_53 (by decide) rfl (fun h53 => ?_) (fun h53 => ?_)
              · have q53 : lb < 224 := (nI_ltI (a := lb) (b := 224) (by omega) (by omega)).mp h53
                omega
              · refine j_iload E 58 dX8_goodPart_56 rfl rfl ?_
                refine j_sipush E (240) 61 dX8_goodPart_58 (by decide) rfl ?_
                refine j_icmp_ge E 68 64 dX8_goodPart_61 (by decide) rfl (fun h61 => ?_) (fun h61 => ?_)
                · have q61 : 240 ≤ lb := (nI_leI (a := 240) (b := lb) (by omega) (by omega)).mp h61
                  refine j_iload E 70 dX8_goodPart_68 rfl rfl ?_
                  refine j_sipush E (240) 73 dX8_goodPart_70 (by decide) rfl ?_
                  refine j_icmp_lt E 88 76 dX8_goodPart_73 (by decide) rfl (fun h73 => ?_) (fun h73 => ?_)
                  · have q73 : lb < 240 := (nI_ltI (a := lb) (b := 240) (by omega) (by omega)).mp h73
                    omega
                  · refine j_iload E 78 dX8_goodPart_76 rfl rfl ?_
                    refine j_sipush E (248) 81 dX8_goodPart_78 (by decide) rfl ?_
                    refine j_icmp_ge E 88 84 dX8_goodPart_81 (by decide) rfl (fun h81 => ?_) (fun h81 => ?_)
                    · have q81 : 248 ≤ lb := (nI_leI (a := 248) (b := lb) (by omega) (by omega)).mp h81
                      refine j_iconst E (0) 89 dX8_goodPart_88 (by decide) rfl ?_
                      exact fin 0 _ _ _ _ _ (by unfold sLen; repeat' (first | omega | split))
                    · have q81 : ¬ 248 ≤ lb := mt (nI_leI (a := 248) (b := lb) (by omega) (by omega)).mpr h81
                      refine j_iconst E (4) 85 dX8_goodPart_84 (by decide) rfl ?_
                      refine j_goto E 89 dX8_goodPart_85 (by decide) ?_
                      exact fin 4 _ _ _ _ _ (by unfold sLen; repeat' (first | omega | split))
                · have q61 : ¬ 240 ≤ lb := mt (nI_leI (a := 240) (b := lb) (by omega) (by omega)).mpr h61
                  refine j_iconst E (3) 65 dX8_goodPart_64 (by decide) rfl ?_
                  refine j_goto E 89 dX8_goodPart_65 (by decide) ?_
                  exact fin 3 _ _ _ _ _ (by unfold sLen; repeat' (first | omega | split))
            refine j_iload E 30 dX8_goodPart_28 rfl rfl ?_
            refine j_sipush E (192) 33 dX8_goodPart_30 (by decide) rfl ?_
            refine j_icmp_lt E 48 36 dX8_goodPart_33 (by decide) rfl (fun h33 => ?_) (fun h33 => ?_)
            · have q33 : lb < 192 := (nI_ltI (a := lb) (b := 192) (by omega) (by omega)).mp h33
              refine j_iload E 50 dX8_goodPart_48 rfl rfl ?_
              refine j_sipush E (224) 53 dX8_goodPart_50 (by decide) rfl ?_
              refine j_icmp_lt E 68 56 dX8_goodPart_53 (by decide) rfl (fun h53 => ?_) (fun h53 => ?_)
              · refine j_iload E 70 dX8_goodPart_68 rfl rfl ?_
                refine j_sipush E (240) 73 dX8_goodPart_70 (by decide) rfl ?_
                refine j_icmp_lt E 88 76 dX8_goodPart_73 (by decide) rfl (fun h73 => ?_) (fun h73 => ?_)
                · refine j_iconst E (0) 89 dX8_goodPart_88 (by decide) rfl ?_
                  exact fin 0 _ _ _ _ _ (by unfold sLen; repeat' (first | omega | split))
                · exact absurd (show nI lb < 240 from nI_lt (b := 240) (by omega) (by decide)) h73
              · exact absurd (show nI lb < 224 from nI_lt (b := 224) (by omega) (by decide)) h53
            · have q33 : ¬ lb < 192 := mt (nI_ltI (a := lb) (b := 192) (by omega) (by omega)).mpr h33
              refine j_iload E 38 dX8_goodPart_36 rfl rfl ?_
              refine j_sipush E (224) 41 dX8_goodPart_38 (by decide) rfl ?_
              refine j_icmp_ge E 48 44 dX8_goodPart_41 (by decide) rfl (fun h41 => ?_) (fun h41 => ?_)
              · have q41 : 224 ≤ lb := (nI_leI (a := 224) (b := lb) (by omega) (by omega)).mp h41
                exact at68 (by omega) q41
              · have q41 : ¬ 224 ≤ lb := mt (nI_leI (a := 224) (b := lb) (by omega) (by omega)).mpr h41
                refine j_iconst E (2) 45 dX8_goodPart_44 (by decide) rfl ?_
                refine j_goto E 89 dX8_goodPart_45 (by decide) ?_
                exact fin 2 _ _ _ _ _ (by unfold sLen; repeat' (first | omega | split))
          · have q21 : ¬ 128 ≤ lb := mt (nI_leI (a := 128) (b := lb) (by omega) (by omega)).mpr h21
            refine j_iconst E (1) 25 dX8_goodPart_24 (by decide) rfl ?_
            refine j_goto E 89 dX8_goodPart_25 (by decide) ?_
            exact fin 1 _ _ _ _ _ (by unfold sLen; repeat' (first | omega | split))
      · rw [if_neg hk] at hc
        exact exit k l4 l5 l6 l7 l8 l9 (by omega) hc.symm
  refine j_iload_n E 1 dX8_goodPart_0 1 rfl rfl rfl ?_
  refine j_istore_n E 2 dX8_goodPart_1 3 rfl (Nat.le_of_ble_eq_true rfl) rfl rfl ?_
  dsimp only [List.set]
  exact main (t - f) f _ _ _ _ _ _ (Nat.le_refl _) (Nat.le_refl _) hf hR.symm

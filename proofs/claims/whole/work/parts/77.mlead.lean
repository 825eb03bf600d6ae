/-! the model: its object, rows of bytes -/
abbrev MF (m : Nat) (r : Nat → Nat) (th ts os vc lc bc pkd pkg cm fu op fc fp at_ bgc got : Int32) (pr : Int64) : Asn := pt m (.inr (7, [.int th, .ref (r 1), .int ts, .ref (r 3), .int os, .int vc, .ref (r 6), .ref (r 7), .ref (r 8), .ref (r 9), .ref (r 10), .ref (r 11), .ref (r 12), .int lc, .ref (r 14), .ref (r 15), .ref (r 16), .int bc, .ref (r 18), .ref (r 19), .int pkd, .int pkg, .ref (r 22), .ref (r 23), .int cm, .int fu, .int op, .ref (r 27), .ref (r 28), .int fc, .int fp, .int at_, .ref (r 32), .int bgc, .int got, .long pr]))
/-- a row of 65536 bytes that begins with bs -/
def BA (g : GT) (a : Nat) (bs : List UInt8) : Asn := fun w => ∃ f : Nat → Int32, (Fit8 f ∧ Lat bs f ∧ bs.length ≤ 65536) ∧ sepL [pt a (aB g 65536 f)] w
theorem ba_open {g : GT} {a : Nat} {bs : List UInt8} : ∀ w, BA g a bs w → ∃ f : Nat → Int32, (Fit8 f ∧ Lat bs f ∧ bs.length ≤ 65536) ∧ sepL [pt a (aB g 65536 f)] w := fun _ h => h
theorem ba_of {g : GT} {a : Nat} {bs : List UInt8} {f : Nat → Int32} (h1 : Fit8 f) (h2 : Lat bs f) (h3 : bs.length ≤ 65536) : ∀ w, sepL [pt a (aB g 65536 f)] w → BA g a bs w := fun _ h => ⟨f, ⟨h1, h2, h3⟩, h⟩
theorem ba_know {g : GT} {a : Nat} {bs : List UInt8} : ∀ w, BA g a bs w → bs.length ≤ 65536 := fun _ ⟨_, h, _⟩ => h.2.2
section
variable {X : XT} {own : String} {cc : ByteArray} {nL d mc ms k n pc : Nat} {lv : List (Option Value)} {st : List Value} {ws ws1 : List Asn}
theorem j_baldBA (E : JE X own cc nL d mc ms) {a i : Nat} {bs : List UInt8} (pc' : Nat) (hd : decode cc pc = .ok (.baload, 1)) (hp : Pick ws (BA X.1 a bs) ws1) (hi : i < bs.length) (hpc : pc + 1 = pc') (kk : J X nL (BA X.1 a bs :: ws1) k n pc' lv (.int (by8 (bs.getD i 0)) :: st)) : J X nL ws k n pc lv (.int (nI i) :: .ref a :: st) := by
  refine j_open hp ba_open ?_
  rintro f ⟨h1, h2, h3⟩
  refine j_bald E pc' hd (by exact pick_0) (vp_in_nI (N := 65536) (by omega) (by omega)) hpc ?_
  refine j_eqi (y := by8 (bs.getD i 0)) (by rw [nI_clamp (by omega)]; exact h2 i hi) ?_
  exact j_close (sel_s pick_0 sel_0) (ba_of h1 h2 h3) kk
end
theorem by8_bN (bs : List UInt8) (i : Nat) : by8 (bs.getD i 0) &&& 255 = nI (bN bs i) := by8_and _
/-! the model: what lead bytes say -/
def kO (lb : Nat) : Nat := if lb < 128 ∨ 224 ≤ lb then 2 else if lb < 144 then 8 else if lb < 160 then 7 else if lb < 192 then 5 else tbK.getD (lb - 192) 0
def tbW : List Nat := [1, 2, 4, 1, 2, 4, 4, 8, 1, 2, 4, 8, 1, 2, 4, 8, 0, 0, 0, 0, 0, 1, 2, 4, 2, 4, 2, 4]
def wO (lb : Nat) : Nat := if 196 ≤ lb ∧ lb ≤ 223 then tbW.getD (lb - 196) 0 else 0
def hO (lb : Nat) : Nat := 1 + wO lb + (if kO lb = 9 then 1 else 0)
def mO (bs : List UInt8) (i : Nat) : Nat := if bN bs i < 128 ∨ 224 ≤ bN bs i then 0 else if bN bs i < 160 then bN bs i % 16 else if bN bs i < 192 then bN bs i % 32 else if 212 ≤ bN bs i ∧ bN bs i ≤ 216 then 2 ^ (bN bs i - 212) else if kO (bN bs i) < 5 ∨ kO (bN bs i) = 12 then 0 else beN bs (i + 1) (wO (bN bs i))
theorem kO_2 : ∀ b : Fin 256, (b.val < 128 ∨ 224 ≤ b.val ∨ (204 ≤ b.val ∧ b.val ≤ 211)) → kO b.val = 2 := by decide +kernel
theorem kO_8 : ∀ b : Fin 256, ((128 ≤ b.val ∧ b.val < 144) ∨ (222 ≤ b.val ∧ b.val < 224)) → kO b.val = 8 := by decide +kernel
theorem kO_7 : ∀ b : Fin 256, ((144 ≤ b.val ∧ b.val < 160) ∨ (220 ≤ b.val ∧ b.val < 222)) → kO b.val = 7 := by decide +kernel
theorem kO_5 : ∀ b : Fin 256, ((160 ≤ b.val ∧ b.val < 192) ∨ (217 ≤ b.val ∧ b.val < 220)) → kO b.val = 5 := by decide +kernel
theorem kO_9 : ∀ b : Fin 256, (212 ≤ b.val ∧ b.val ≤ 216) → kO b.val = 9 := by decide +kernel
theorem kO_le : ∀ b : Fin 256, kO b.val ≤ 12 := by decide +kernel
theorem wO_le : ∀ b : Fin 256, wO b.val ≤ 8 := by decide +kernel
theorem wO_5 : ∀ b : Fin 256, 5 ≤ kO b.val → wO b.val ≤ 4 := by decide +kernel
theorem kOle {lb : Nat} (h : lb < 256) : kO lb ≤ 12 := kO_le ⟨lb, h⟩
theorem wOle {lb : Nat} (h : lb < 256) : wO lb ≤ 8 := wO_le ⟨lb, h⟩
theorem wO5 {lb : Nat} (h : lb < 256) (h5 : 5 ≤ kO lb) : wO lb ≤ 4 := wO_5 ⟨lb, h⟩ h5
theorem hO_le {lb : Nat} (h : lb < 256) : 1 ≤ hO lb ∧ hO lb ≤ 10 := by
  have h1 := wOle h
  unfold hO
  split <;> omega
theorem wO_in : ∀ t : Fin 28, (#[127, 129, 131, 127, 129, 131, 131, 133, 127, 129, 131, 133, 127, 129, 131, 133, 136, 136, 136, 136, 136, 127, 129, 131, 129, 131, 129, 131] : Array Int)[t.val]? = some (if wO (196 + t.val) = 1 then 127 else if wO (196 + t.val) = 2 then 129 else if wO (196 + t.val) = 4 then 131 else if wO (196 + t.val) = 8 then 133 else 136) := by decide +kernel
theorem wO_vals : ∀ b : Fin 256, wO b.val = 0 ∨ wO b.val = 1 ∨ wO b.val = 2 ∨ wO b.val = 4 ∨ wO b.val = 8 := by decide +kernel
theorem f_low : ∀ b : Fin 256, (b.val < 192 ∨ 224 ≤ b.val) → wO b.val = 0 := by decide +kernel
theorem f_1 : ∀ t : Fin 32, tbK.getD t.val 0 ≤ 4 → tblL.getD t.val 0 = 0 ∧ tblF.getD t.val 0 = wO (192 + t.val) := by decide +kernel
theorem f_2 : ∀ t : Fin 32, 5 ≤ tbK.getD t.val 0 → ¬ tbK.getD t.val 0 = 12 → tblL.getD t.val 0 = wO (192 + t.val) ∧ (wO (192 + t.val) = 0 → 20 ≤ t.val ∧ t.val ≤ 24 ∧ tblF.getD t.val 0 = 2 ^ (t.val - 20)) ∧ (¬ wO (192 + t.val) = 0 → ¬ (20 ≤ t.val ∧ t.val ≤ 24)) := by decide +kernel
/-- what the lead says, by the model's words -/
theorem lead0_m {bs : List UInt8} {i : Nat} (h12 : ¬ kO (bN bs i) = 12) (hi : i + (1 + wO (bN bs i)) ≤ bs.length) : lead0 bs i = (kO (bN bs i), (if kO (bN bs i) ≤ 4 then 1 else 1 + wO (bN bs i)), (if kO (bN bs i) ≤ 4 then wO (bN bs i) else if kO (bN bs i) = 8 then 2 * mO bs i else mO bs i)) := by
  have hl := bN_lt bs i
  obtain ⟨lb, hlb⟩ : ∃ lb, lb = bN bs i := ⟨_, rfl⟩
  have hm : mO bs i = if lb < 128 ∨ 224 ≤ lb then 0 else if lb < 160 then lb % 16 else if lb < 192 then lb % 32 else if 212 ≤ lb ∧ lb ≤ 216 then 2 ^ (lb - 212) else if kO lb < 5 ∨ kO lb = 12 then 0 else beN bs (i + 1) (wO lb) := by rw [mO, ← hlb]
  unfold lead0
  rw [← hlb] at h12 hi hl ⊢
  by_cases q1 : lb < 128 ∨ 224 ≤ lb
  · rw [if_pos q1]
    have e1 : kO lb = 2 := if_pos q1
    have e2 := f_low ⟨lb, hl⟩ (by dsimp only; omega)
    dsimp only at e2
    rw [e1, e2]
    rfl
  rw [if_neg q1]
  by_cases q2 : lb < 144
  · rw [if_pos q2]
    have e1 : kO lb = 8 := by rw [kO, if_neg q1, if_pos q2]
    have e2 := f_low ⟨lb, hl⟩ (by dsimp only; omega)
    dsimp only at e2
    have hm2 : mO bs i = lb % 16 := by rw [hm, if_neg q1, if_pos (show lb < 160 by omega)]
    rw [hm2, e1, e2]
    rfl
  rw [if_neg q2]
  by_cases q3 : lb < 160
  · rw [if_pos q3]
    have e1 : kO lb = 7 := by rw [kO, if_neg q1, if_neg q2, if_pos q3]
    have e2 := f_low ⟨lb, hl⟩ (by dsimp only; omega)
    dsimp only at e2
    have hm2 : mO bs i = lb % 16 := by rw [hm, if_neg q1, if_pos q3]
    rw [hm2, e1, e2]
    rfl
  rw [if_neg q3]
  by_cases q4 : lb < 192
  · rw [if_pos q4]
    have e1 : kO lb = 5 := by rw [kO, if_neg q1, if_neg q2, if_neg q3, if_pos q4]
    have e2 := f_low ⟨lb, hl⟩ (by dsimp only; omega)
    dsimp only at e2
    have hm2 : mO bs i = lb % 32 := by rw [hm, if_neg q1, if_neg q3, if_pos q4]
    rw [hm2, e1, e2]
    rfl
  rw [if_neg q4]
  have e1 : kO lb = tbK.getD (lb - 192) 0 := by rw [kO, if_neg q1, if_neg q2, if_neg q3, if_neg q4]
  have ew : 192 + (lb - 192) = lb := by omega
  by_cases q5 : kO lb ≤ 4
  · have e2 := f_1 ⟨lb - 192, by omega⟩ (by dsimp only; omega)
    dsimp only at e2
    rw [ew] at e2
    rw [if_pos q5, if_pos q5, e2.1, ← e1]
    have e3 : upBody bs i (lb - 192) = wO lb := by
      unfold upBody upLen
      rw [if_neg (by omega), e2.1, if_neg (by omega), e2.2]
    rw [e3]
  · have e2 := f_2 ⟨lb - 192, by omega⟩ (by dsimp only; omega) (by dsimp only; omega)
    dsimp only at e2
    rw [ew] at e2
    rw [if_neg q5, if_neg q5, e2.1, ← e1]
    have e4 : upLen bs i (lb - 192) = mO bs i := by
      unfold upLen
      rw [e2.1, hm, if_neg q1, if_neg q3, if_neg q4]
      by_cases q6 : wO lb = 0
      · have e5 := e2.2.1 q6
        rw [if_neg (by omega), if_pos (by omega), e5.2.2]
        rw [show lb - 192 - 20 = lb - 212 by omega]
      · have e5 := e2.2.2 q6
        rw [if_pos (by omega), if_neg (by omega), if_neg (by omega)]
    unfold upBody
    rw [e4, ← e1]
theorem lead0_k {bs : List UInt8} {i : Nat} : (lead0 bs i).1 = kO (bN bs i) := by
  unfold lead0 kO
  split
  · rfl
  split
  · rfl
  split
  · rfl
  split
  · rfl
  · dsimp only
theorem lead_12 {bs : List UInt8} {i : Nat} : (lead bs i).1 = 12 ↔ kO (bN bs i) = 12 := by
  obtain ⟨k, h0, b, e⟩ : ∃ k h b, lead0 bs i = (k, h, b) := ⟨_, _, _, rfl⟩
  have hk : kO (bN bs i) = k := by rw [← lead0_k, e]
  rw [hk]
  by_cases q : k = 9
  · rw [lead_ext e q]
    have := typK_le bs (i + h0)
    dsimp only
    omega
  · rw [lead_pl e q]
theorem mO_4 {bs : List UInt8} {i : Nat} (h : kO (bN bs i) ≤ 4) : mO bs i = 0 := by
  have hl := bN_lt bs i
  unfold mO
  split
  · rfl
  rename_i q1
  by_cases q2 : bN bs i < 144
  · have := kO_8 ⟨bN bs i, hl⟩ (Or.inl (by dsimp only; omega))
    dsimp only at this
    omega
  by_cases q3 : bN bs i < 160
  · have := kO_7 ⟨bN bs i, hl⟩ (Or.inl (by dsimp only; omega))
    dsimp only at this
    omega
  by_cases q4 : bN bs i < 192
  · have := kO_5 ⟨bN bs i, hl⟩ (Or.inl (by dsimp only; omega))
    dsimp only at this
    omega
  rw [if_neg q3, if_neg q4]
  split
  · rename_i q5
    have := kO_9 ⟨bN bs i, hl⟩ q5
    dsimp only at this
    omega
  · rw [if_pos (Or.inl (by omega))]
/-- own bytes, by the model's words -/
theorem own_m {bs : List UInt8} {i : Nat} (h12 : ¬ kO (bN bs i) = 12) (hi : i + hO (bN bs i) ≤ bs.length) : ownB (lead bs i).1 (lead bs i).2.1 (lead bs i).2.2.1 = if kO (bN bs i) = 7 ∨ kO (bN bs i) = 8 then hO (bN bs i) else hO (bN bs i) + mO bs i := by
  have hh : 1 + wO (bN bs i) ≤ hO (bN bs i) := by unfold hO; omega
  have e := lead0_m h12 (by omega)
  have hm4 := mO_4 (bs := bs) (i := i)
  have tk : ∀ y, 9 ≤ typK bs y := fun y => by
    unfold typK
    split
    · exact tyK_ge _
    · omega
  obtain ⟨K, hK⟩ : ∃ K, K = kO (bN bs i) := ⟨_, rfl⟩
  obtain ⟨W, hW⟩ : ∃ W, W = wO (bN bs i) := ⟨_, rfl⟩
  unfold hO
  rw [← hK, ← hW] at e
  rw [← hK] at hm4 h12 ⊢
  rw [← hW]
  by_cases q4 : K ≤ 4
  · rw [if_pos q4, if_pos q4] at e
    rw [lead_pl e (by omega)]
    unfold ownB
    dsimp only
    rw [if_neg (show ¬ (K = 7 ∨ K = 8) by omega), if_neg (show ¬ (K = 7 ∨ K = 8) by omega), if_neg (show ¬ K = 9 by omega), hm4 q4]
    omega
  · rw [if_neg q4, if_neg q4] at e
    by_cases q : K = 9
    · rw [if_neg (show ¬ K = 8 by omega)] at e
      rw [lead_ext e q]
      unfold ownB
      dsimp only
      have ht := tk (i + (1 + W))
      rw [if_neg (show ¬ (typK bs (i + (1 + W)) = 7 ∨ typK bs (i + (1 + W)) = 8) by omega), if_neg (show ¬ (K = 7 ∨ K = 8) by omega), if_pos q]
    · rw [lead_pl e q]
      unfold ownB
      dsimp only
      by_cases q7 : K = 7 ∨ K = 8
      · rw [if_pos q7, if_pos q7, if_neg q, Nat.add_zero]
      · rw [if_neg q7, if_neg q7, if_neg q, if_neg (show ¬ K = 8 by omega), Nat.add_zero]
theorem own_ge {bs : List UInt8} {i : Nat} (h12 : ¬ kO (bN bs i) = 12) : hO (bN bs i) ≤ ownB (lead bs i).1 (lead bs i).2.1 (lead bs i).2.2.1 := by
  have hl := bN_lt bs i
  have hk := lead0_k (bs := bs) (i := i)
  obtain ⟨k, h0, b, e⟩ : ∃ k h b, lead0 bs i = (k, h, b) := ⟨_, _, _, rfl⟩
  rw [e] at hk
  dsimp only at hk
  have key : hO (bN bs i) ≤ h0 + (if k = 9 then 1 else 0) + (if k ≤ 4 then b else 0) := by
    unfold hO
    rw [← hk]
    obtain ⟨lb, hlb⟩ : ∃ lb, lb = bN bs i := ⟨_, rfl⟩
    unfold lead0 at e
    rw [← hlb] at e hk hl h12 ⊢
    have low : (lb < 192 ∨ 224 ≤ lb) → 1 + wO lb ≤ 1 := fun q => by
      have := f_low ⟨lb, hl⟩ q
      dsimp only at this
      omega
    by_cases q1 : lb < 128 ∨ 224 ≤ lb
    · rw [if_pos q1] at e
      cases e
      have := low (by omega)
      omega
    rw [if_neg q1] at e
    by_cases q2 : lb < 144
    · rw [if_pos q2] at e
      cases e
      have := low (by omega)
      omega
    rw [if_neg q2] at e
    by_cases q3 : lb < 160
    · rw [if_pos q3] at e
      cases e
      have := low (by omega)
      omega
    rw [if_neg q3] at e
    by_cases q4 : lb < 192
    · rw [if_pos q4] at e
      cases e
      have := low (by omega)
      omega
    rw [if_neg q4, Prod.mk.injEq, Prod.mk.injEq] at e
    obtain ⟨e1, e2, e3⟩ := e
    have ew : 192 + (lb - 192) = lb := by omega
    by_cases q5 : k ≤ 4
    · have e4 := f_1 ⟨lb - 192, by omega⟩ (by dsimp only; omega)
      dsimp only at e4
      rw [ew] at e4
      have e5 : upBody bs i (lb - 192) = wO lb := by
        unfold upBody upLen
        rw [if_neg (by omega), e4.1, if_neg (by omega), e4.2]
      rw [if_pos q5]
      omega
    · have e4 := f_2 ⟨lb - 192, by omega⟩ (by dsimp only; omega) (by dsimp only; omega)
      dsimp only at e4
      rw [ew] at e4
      omega
  by_cases q : k = 9
  · rw [lead_ext e q]
    dsimp only
    rw [if_pos q, if_neg (by omega)] at key
    unfold ownB
    split <;> omega
  · rw [lead_pl e q]
    dsimp only
    rw [if_neg q] at key
    unfold ownB
    split
    · rw [if_neg (by omega)] at key
      omega
    · split at key <;> omega

/-! the model: readOne, pure -/
theorem chBad_ge {bs : List UInt8} {t p : Nat} : ∀ {q i : Nat}, chBad bs t q i = some p → i ≤ p
  | 0, i, h => by cases h
  | q + 1, i, h => by
    rw [chBad] at h
    by_cases h1 : i < t
    · rw [if_pos h1] at h
      by_cases h2 : chLen bs i t = 0
      · rw [if_pos h2] at h
        cases h
        exact Nat.le_refl _
      · rw [if_neg h2] at h
        exact Nat.le_trans (Nat.le_add_right _ _) (chBad_ge h)
    · rw [if_neg h1] at h
      cases h
theorem lead_mm {bs : List UInt8} {i : Nat} (h12 : ¬ kO (bN bs i) = 12) (hi : i + hO (bN bs i) ≤ bs.length) : lead bs i = ((if kO (bN bs i) = 9 then tyK (by8 (bs.getD (i + (1 + wO (bN bs i))) 0)) else kO (bN bs i)), (if kO (bN bs i) ≤ 4 then 1 else hO (bN bs i)), (if kO (bN bs i) ≤ 4 then wO (bN bs i) else if kO (bN bs i) = 8 then 2 * mO bs i else mO bs i), (if kO (bN bs i) = 9 then by8 (bs.getD (i + (1 + wO (bN bs i))) 0) else 0)) := by
  have h1 : 1 + wO (bN bs i) ≤ hO (bN bs i) := by unfold hO; omega
  have h2 := lead0_m h12 (by omega)
  by_cases q : kO (bN bs i) = 9
  · have h3 : hO (bN bs i) = 1 + wO (bN bs i) + 1 := by rw [hO, if_pos q]
    have h4 : i + (1 + wO (bN bs i)) < bs.length := by omega
    rw [lead_ext h2 q]
    rw [if_pos q, if_pos q, if_neg (show ¬ kO (bN bs i) ≤ 4 by omega), if_neg (show ¬ kO (bN bs i) ≤ 4 by omega), if_neg (show ¬ kO (bN bs i) ≤ 4 by omega), if_neg (show ¬ kO (bN bs i) = 8 by omega), typK, typT, if_pos h4, if_pos h4, h3]
  · have h3 : hO (bN bs i) = 1 + wO (bN bs i) := by rw [hO, if_neg q]; rfl
    rw [lead_pl h2 q, if_neg q, if_neg q, h3]
theorem beN_app (bs : List UInt8) (i a : Nat) : ∀ b, beN bs i (a + b) = beN bs i a * 256 ^ b + beN bs (i + a) b
  | 0 => by
    show beN bs i a = beN bs i a * 1 + 0
    omega
  | b + 1 => by
    have h := beN_app bs i a b
    show beN bs i (a + b) * 256 + (bs.getD (i + (a + b)) 0).toNat = beN bs i a * (256 ^ b * 256) + (beN bs (i + a) b * 256 + (bs.getD (i + a + b) 0).toNat)
    rw [h, Nat.add_mul, ← Nat.mul_assoc, Nat.add_assoc i a b, Nat.add_assoc]
theorem na_8 (bs : List UInt8) (i : Nat) : beN bs i 8 / 2 ^ 34 = beN bs i 4 / 4 := by
  have h := beN_app bs i 4 4
  have h2 := beN_lt bs (i + 4) 4
  have e : (256 : Nat) ^ 4 = 4294967296 := by decide
  rw [e] at h h2
  have h3 : beN bs i 8 = beN bs i 4 * 4294967296 + beN bs (i + 4) 4 := h
  omega
theorem lN_shr2 {x : Nat} (h : x < 2 ^ 63) : lN x >>> ((2 : Int32).toInt64 &&& 63) = lN (x / 4) := by
  apply Int64.toInt_inj.mp
  have e : (lN x >>> ((2 : Int32).toInt64 &&& 63)).toInt = ((BitVec.ofNat 64 x).sshiftRight 2).toInt := rfl
  have c := BitVec.toInt_eq_toNat_cond (BitVec.ofNat 64 x)
  rw [BitVec.toNat_ofNat, Nat.mod_eq_of_lt (by omega)] at c
  rw [e, BitVec.toInt_sshiftRight, Int.shiftRight_eq_div_pow, c, if_pos (by omega), lN_tiB (by omega)]
  omega
theorem lN_m34 {x : Nat} (h : x < 2 ^ 64) : lN x &&& 17179869183 = lN (x % 2 ^ 34) := by
  apply Int64.toBitVec_inj.mp
  apply BitVec.eq_of_toNat_eq
  have e : (lN x &&& 17179869183).toBitVec.toNat = (BitVec.ofNat 64 x &&& BitVec.ofNat 64 (2 ^ 34 - 1)).toNat := rfl
  rw [e, BitVec.toNat_and, BitVec.toNat_ofNat, BitVec.toNat_ofNat, Nat.mod_eq_of_lt h, Nat.mod_eq_of_lt (by decide), Nat.and_two_pow_sub_one_eq_mod, lN_nat (Nat.lt_of_le_of_lt (Nat.mod_le _ _) h)]
/-- what one reading does: a list or map is without its parts yet -/
def rd1 (op : Nat) (bs : List UInt8) (i n np nb : Nat) (gs : List Nat) : RO :=
  if bs.length ≤ i then .inl (1, i)
  else if (lead bs i).1 = 12 then .inl (2, i)
  else if bs.length - i < ownB (lead bs i).1 (lead bs i).2.1 (lead bs i).2.2.1 then .inl (1, i)
  else if (lead bs i).1 = 7 ∨ (lead bs i).1 = 8 then
    (if op = 24 then .inl (6, i)
    else if (n < 3000 ∧ nb + 0 ≤ 65536) ∧ np + (lead bs i).2.2.1 ≤ 6000 then .inr (n, i + (lead bs i).2.1, [((lead bs i).1, 0, 0, [], [])], np + (lead bs i).2.2.1, nb, gs ++ [n])
    else .inl (7, i))
  else rdLeaf bs i n np nb gs (lead bs i).1 (lead bs i).2.1 (lead bs i).2.2.1 (lead bs i).2.2.2
/-- what it puts on the pile -/
def gpu (bs : List UInt8) (i n : Nat) : PIL := if (lead bs i).1 = 7 ∨ (lead bs i).1 = 8 then [(n, lN (lead bs i).2.2.1)] else []
/-- the sizes said -/
def rz (bs : List UInt8) (i : Nat) (new : List VT) : List Nat := if (lead bs i).1 = 7 ∨ (lead bs i).1 = 8 then [if (lead bs i).1 = 8 then (lead bs i).2.2.1 / 2 else (lead bs i).2.2.1] else new.map vlen
def mkN (mk : Nat → Nat) (n : Nat) (new : List VT) : Nat → Nat := if new = [] then mk else mkS mk n 0
theorem tyK_9 {t : Int32} (h1 : ¬ t = -1) (h0 : ¬ t = 0) : tyK t = 9 := by rw [tyK, if_neg h1, if_neg h0]
theorem rl_row {bs : List UInt8} {i n np nb h b : Nat} {gs : List Nat} {ty : Int32} {k : Nat} (hk : k = 5 ∨ k = 6 ∨ k = 9) : rdLeaf bs i n np nb gs k h b ty = rdRow bs i n np nb gs k h b ty := by rw [rdLeaf, if_pos hk]
theorem rl_time {bs : List UInt8} {i n np nb h b : Nat} {gs : List Nat} {ty : Int32} : rdLeaf bs i n np nb gs 10 h b ty = rdTime bs i n np nb gs h b := by rw [rdLeaf, if_neg (by decide), if_pos rfl]
theorem rl_ref {bs : List UInt8} {i n np nb h b : Nat} {gs : List Nat} {ty : Int32} : rdLeaf bs i n np nb gs 11 h b ty = rdRef bs i np nb gs h b := by rw [rdLeaf, if_neg (by decide), if_neg (by decide), if_pos rfl]
theorem rl_plain {bs : List UInt8} {i n np nb h b : Nat} {gs : List Nat} {ty : Int32} {k : Nat} (hk : k ≤ 4) : rdLeaf bs i n np nb gs k h b ty = if n < 3000 ∧ nb + 0 ≤ 65536 then .inr (n, i + (h + b), [plV bs i k b], np, nb + 0, gs) else .inl (7, i) := by
  rw [rdLeaf, if_neg (by omega), if_neg (by omega), if_neg (by omega), rdPlain, plV]
  by_cases q1 : k = 1
  · rw [if_pos q1, if_pos q1]
    rfl
  · rw [if_neg q1, if_neg q1]
    by_cases q2 : k = 2
    · rw [if_pos q2, if_pos q2]
      rfl
    · rw [if_neg q2, if_neg q2]
      rfl

/-! what a tape says: pure -/
/-- the integer at i, of w bytes behind its lead -/
def intV (bs : List UInt8) (i w : Nat) : Int64 :=
  if w = 0 then (by8 (bs.getD i 0)).toInt64
  else if 208 ≤ bN bs i then ((lN (beN bs (i + 1) w)) <<< ((nI (64 - 8 * w)).toInt64 &&& 63)) >>> ((nI (64 - 8 * w)).toInt64 &&& 63)
  else lN (beN bs (i + 1) w)
/-- a reading: either fault and place, or the value, where it ends, the new values, the counts, the groups -/
abbrev RO : Type := Sum (Nat × Nat) (Nat × Nat × List VT × Nat × Nat × List Nat)
def rdKeep (i e n np nb : Nat) (gs : List Nat) (k : Nat) (nm : Int64) (dt : Int32) (cs : List UInt8) : RO :=
  if n < 3000 ∧ nb + cs.length ≤ 65536 then .inr (n, e, [(k, nm, dt, cs, [])], np, nb + cs.length, gs) else .inl (7, i)
def rdRow (bs : List UInt8) (i n np nb : Nat) (gs : List Nat) (k h b : Nat) (ty : Int32) : RO :=
  match (if k = 5 then chBad bs (i + (h + b)) (i + (h + b) - (i + h)) (i + h) else none) with
  | some p => .inl (3, p)
  | none => rdKeep i (i + (h + b)) n np nb gs k 0 ty (cutB bs (i + h) b)
def timeV (bs : List UInt8) (s b : Nat) : Option (Int64 × Nat) :=
  if b = 4 then some (lN (beN bs s 4), 0)
  else if b = 8 then some (lN (beN bs s 8 % 2 ^ 34), beN bs s 8 / 2 ^ 34)
  else if b = 12 then some (lN (beN bs (s + 4) 8), beN bs s 4)
  else none
def rdTime (bs : List UInt8) (i n np nb : Nat) (gs : List Nat) (h b : Nat) : RO :=
  match timeV bs (i + h) b with
  | none => .inl (4, i)
  | some (sec, na) => if 999999999 < na then .inl (4, i) else rdKeep i (i + (h + b)) n np nb gs 10 sec (nI na) []
def rdRef (bs : List UInt8) (i np nb : Nat) (gs : List Nat) (h b : Nat) : RO :=
  if b = 0 then .inl (5, i)
  else if (lead bs (i + h)).1 = 2 ∧ ownB (lead bs (i + h)).1 (lead bs (i + h)).2.1 (lead bs (i + h)).2.2.1 = b then
    (if 0 ≤ (intV bs (i + h) (lead bs (i + h)).2.2.1).toInt ∧ (intV bs (i + h) (lead bs (i + h)).2.2.1).toInt < gs.length then
      .inr (gs.getD (intV bs (i + h) (lead bs (i + h)).2.2.1).toInt.toNat 0, i + (h + b), [], np, nb, gs)
      else .inl (5, i))
  else .inl (5, i)
def rdPlain (bs : List UInt8) (i n np nb : Nat) (gs : List Nat) (k h b : Nat) : RO :=
  if k = 1 then rdKeep i (i + (h + b)) n np nb gs 1 0 (nI (bN bs i) - 194) []
  else if k = 2 then rdKeep i (i + (h + b)) n np nb gs 2 (intV bs i b) (if intV bs i b < 0 ∧ bN bs i = 207 then 1 else 0) []
  else rdKeep i (i + (h + b)) n np nb gs k (lN (beN bs (i + 1) b)) 0 []
def rdLeaf (bs : List UInt8) (i n np nb : Nat) (gs : List Nat) (k h b : Nat) (ty : Int32) : RO :=
  if k = 5 ∨ k = 6 ∨ k = 9 then rdRow bs i n np nb gs k h b ty
  else if k = 10 then rdTime bs i n np nb gs h b
  else if k = 11 then rdRef bs i np nb gs h b
  else rdPlain bs i n np nb gs k h b
/-- c values, one behind the other -/
def rdMany (rd : Nat → Nat → Nat → Nat → List Nat → RO) : Nat → Nat → Nat → Nat → Nat → List Nat → Sum (Nat × Nat) (List Nat × Nat × List VT × Nat × Nat × List Nat)
  | 0, i, _, np, nb, gs => .inr ([], i, [], np, nb, gs)
  | c + 1, i, n, np, nb, gs =>
    match rd i n np nb gs with
    | .inl x => .inl x
    | .inr (v, i1, new, np1, nb1, gs1) =>
      match rdMany rd c i1 (n + new.length) np1 nb1 gs1 with
      | .inl x => .inl x
      | .inr (ps, i2, new2, np2, nb2, gs2) => .inr (v :: ps, i2, new ++ new2, np2, nb2, gs2)
def rdGroup (sub : Option (Nat → Nat → Nat → Nat → List Nat → RO)) (i n np nb : Nat) (gs : List Nat) (k h b : Nat) : RO :=
  match sub with
  | none => .inl (6, i)
  | some rd =>
    if (n < 3000 ∧ nb + 0 ≤ 65536) ∧ np + b ≤ 6000 then
      (match rdMany rd b (i + h) (n + 1) (np + b) nb (gs ++ [n]) with
      | .inl x => .inl x
      | .inr (ps, i2, new, np2, nb2, gs2) => .inr (n, i2, (k, 0, 0, [], ps) :: new, np2, nb2, gs2))
    else .inl (7, i)
def rdOne (sub : Option (Nat → Nat → Nat → Nat → List Nat → RO)) (bs : List UInt8) (i n np nb : Nat) (gs : List Nat) : RO :=
  if bs.length ≤ i then .inl (1, i)
  else if (lead bs i).1 = 12 then .inl (2, i)
  else if bs.length - i < ownB (lead bs i).1 (lead bs i).2.1 (lead bs i).2.2.1 then .inl (1, i)
  else if (lead bs i).1 = 7 ∨ (lead bs i).1 = 8 then rdGroup sub i n np nb gs (lead bs i).1 (lead bs i).2.1 (lead bs i).2.2.1
  else rdLeaf bs i n np nb gs (lead bs i).1 (lead bs i).2.1 (lead bs i).2.2.1 (lead bs i).2.2.2
/-- one value, with f lists and maps more that may be open within -/
def rdV (bs : List UInt8) : Nat → Nat → Nat → Nat → Nat → List Nat → RO
  | 0 => rdOne none bs
  | f + 1 => rdOne (some (rdV bs f)) bs
theorem ownB_le {k h b : Nat} : h ≤ ownB k h b := by
  unfold ownB
  split
  · exact Nat.le_refl _
  · exact Nat.le_add_right _ _
theorem typK_le (bs : List UInt8) (i : Nat) : typK bs i ≤ 11 := by
  unfold typK tyK
  repeat' (first | omega | split)
theorem lead_ok (bs : List UInt8) (i : Nat) : (lead bs i).1 ≤ 12 ∧ 1 ≤ (lead bs i).2.1 ∧ (lead bs i).2.1 ≤ 6 ∧ (lead bs i).2.2.1 < 2 ^ 33 := by
  have h0 := lead0_ok bs i
  obtain ⟨k, h, b, e⟩ : ∃ k h b, lead0 bs i = (k, h, b) := ⟨_, _, _, rfl⟩
  rw [e] at h0
  dsimp only at h0
  by_cases hk : k = 9
  · rw [lead_ext e hk]
    have := typK_le bs (i + h)
    dsimp only
    omega
  · rw [lead_pl e hk]
    dsimp only
    omega

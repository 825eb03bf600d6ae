/-! what is packed: pure -/
def stN (v : Int64) (hb : Bool) : Nat :=
  if hb = true then 3
  else if -32 ≤ v.toInt ∧ v.toInt < 128 then 4
  else if 0 ≤ v.toInt then (if v.toInt < 256 then 0 else if v.toInt < 65536 then 1 else if v.toInt < 4294967296 then 2 else 3)
  else (if -128 ≤ v.toInt then 0 else if -32768 ≤ v.toInt then 1 else if -2147483648 ≤ v.toInt then 2 else 3)
theorem stN_le (v : Int64) (hb : Bool) : stN v hb ≤ 4 := by
  unfold stN
  repeat' (first | omega | split)
abbrev b1 (n : Nat) : List UInt8 := beB (lN n) 1
def intE (v : Int64) (hb : Bool) : List UInt8 := if stN v hb = 4 then beB v 1 else b1 ((if hb = true ∨ 0 ≤ v.toInt then 204 else 208) + stN v hb) ++ beB v (2 ^ stN v hb)
def intL (v : Int64) (hb : Bool) : Nat := if stN v hb = 4 then 1 else 1 + 2 ^ stN v hb
theorem intL_le (v : Int64) (hb : Bool) : 1 ≤ intL v hb ∧ intL v hb ≤ 9 := by
  have h := stN_le v hb
  unfold intL
  split
  · omega
  · have h2 : stN v hb ≤ 3 := by omega
    have h3 : 2 ^ stN v hb ≤ 8 := Nat.le_trans (Nat.pow_le_pow_right (by decide) h2) (by decide)
    exact ⟨Nat.le_add_right _ _, by omega⟩
theorem b1_len (n : Nat) : (b1 n).length = 1 := rfl
theorem intE_len (v : Int64) (hb : Bool) : (intE v hb).length = intL v hb := by
  unfold intE intL
  split
  · rfl
  · rw [List.length_append, beB_len, beB_len]
def xl (n : Nat) : Option Nat := if n = 1 then some 212 else if n = 2 then some 213 else if n = 4 then some 214 else if n = 8 then some 215 else if n = 16 then some 216 else none
def wid (n : Nat) : Nat := if n < 256 then 0 else if n < 65536 then 1 else 2
theorem wid_le (n : Nat) : wid n ≤ 2 := by
  unfold wid
  repeat' (first | omega | split)
def hdE (wh : Option Nat) (ld n : Nat) : List UInt8 := match wh with
  | some w => b1 w
  | none => b1 (ld + wid n) ++ beB (lN n) (2 ^ wid n)
def refE (t : Nat) : List UInt8 := hdE (xl (intL (lN t) false)) 199 (intL (lN t) false) ++ (beB 0 1 ++ intE (lN t) false)
def timeN (s : Int64) (na : Int32) : Nat := if na = 0 ∧ 0 ≤ s.toInt ∧ s.toInt < 4294967296 then 4 else if 0 ≤ s.toInt ∧ s.toInt < 17179869184 then 8 else 12
def timeE (s : Int64) (na : Int32) : List UInt8 := hdE (xl (timeN s na)) 199 (timeN s na) ++ (beB (-1) 1 ++ (if timeN s na = 4 then beB s 4 else if timeN s na = 8 then beB ((na.toInt64 <<< ((34 : Int32).toInt64 &&& 63)) ||| s) 8 else beB na.toInt64 4 ++ beB s 8))
def rowE (v : VT) : List UInt8 := (if v.1 = 5 then hdE (if v.2.2.2.1.length < 32 then some (160 + v.2.2.2.1.length) else none) 217 v.2.2.2.1.length else if v.1 = 6 then hdE none 196 v.2.2.2.1.length else hdE (xl v.2.2.2.1.length) 199 v.2.2.2.1.length ++ beB v.2.2.1.toInt64 1) ++ v.2.2.2.1
def grpE (v : VT) : List UInt8 := if vlen v < 16 then b1 ((if v.1 = 7 then 144 else 128) + vlen v) else b1 (if v.1 = 7 then 220 else 222) ++ beB (lN (vlen v)) 2
def leafE (v : VT) : List UInt8 :=
  if v.1 = 0 then b1 192
  else if v.1 = 1 then beB (194 + v.2.2.1).toInt64 1
  else if v.1 = 2 then intE v.2.1 (decide (v.2.2.1 = 1))
  else if v.1 = 3 then b1 202 ++ beB v.2.1 4
  else if v.1 = 4 then b1 203 ++ beB v.2.1 8
  else if v.1 = 10 then timeE v.2.1 v.2.2.1
  else rowE v
/-- written so far; none: it doesn't fit, or is too deep -/
def wr (most : Nat) (st : Option (List UInt8)) (bs : List UInt8) : Option (List UInt8) := match st with
  | none => none
  | some p => if p.length + bs.length ≤ most then some (p ++ bs) else none
theorem wr_app {most : Nat} {st : Option (List UInt8)} {as bs : List UInt8} : wr most (wr most st as) bs = wr most st (as ++ bs) := by
  rcases st with _ | p
  · rfl
  · unfold wr
    dsimp only
    rw [List.length_append]
    by_cases h : p.length + as.length ≤ most
    · rw [if_pos h]
      dsimp only
      rw [List.length_append, List.append_assoc, Nat.add_assoc]
    · rw [if_neg h, if_neg (by omega)]
abbrev PS : Type := Option (List UInt8) × List Nat
def pkMany (rd : Nat → PS → PS) : List Nat → PS → PS
  | [], s => s
  | p :: ps, s => match s.1 with
    | none => s
    | some _ => pkMany rd ps (rd p s)
def vAt (us : List VT) (j : Nat) : VT := us.getD j (0, 0, 0, [], [])
def pkOne (sub : Option (Nat → PS → PS)) (us : List VT) (most j : Nat) (s : PS) : PS :=
  if j ∈ s.2 then (wr most s.1 (refE (s.2.idxOf j)), s.2)
  else if (vAt us j).1 = 7 ∨ (vAt us j).1 = 8 then
    match sub with
    | none => (none, s.2)
    | some rd => pkMany rd (vAt us j).2.2.2.2 (wr most s.1 (grpE (vAt us j)), s.2 ++ [j])
  else (wr most s.1 (leafE (vAt us j)), s.2)
def pkV (us : List VT) (most : Nat) : Nat → Nat → PS → PS
  | 0 => pkOne none us most
  | f + 1 => pkOne (some (pkV us most f)) us most
def packU (us : List VT) (most j : Nat) : Option (List UInt8) := (pkV us most 24 j (some [], [])).1
/-- what was come to, each once -/
def COk (n : Nat) (come : List Nat) : Prop := come.Nodup ∧ ∀ j ∈ come, j < n
theorem nodup_le : ∀ (n : Nat) (l : List Nat), l.Nodup → (∀ x ∈ l, x < n) → l.length ≤ n
  | 0, l, _, h => by
    rcases l with _ | ⟨x, l⟩
    · exact Nat.le_refl _
    · exact absurd (h x List.mem_cons_self) (Nat.not_lt_zero _)
  | n + 1, l, hn, h => by
    have h1 := nodup_le n (l.erase n) (hn.erase n) (fun x hx => by
      have h2 := (hn.mem_erase_iff).mp hx
      have h3 := h x h2.2
      have h4 : x ≠ n := h2.1
      omega)
    have h2 : l.length - 1 ≤ (l.erase n).length := List.le_length_erase
    omega
theorem COk.len {n : Nat} {come : List Nat} (h : COk n come) : come.length ≤ n := nodup_le n come h.1 h.2
theorem COk.push {n j : Nat} {come : List Nat} (h : COk n come) (hj : j < n) (hc : ¬ j ∈ come) : COk n (come ++ [j]) := by
  refine ⟨List.nodup_append.mpr ⟨h.1, by simp, fun x hx y hy e => ?_⟩, fun x hx => ?_⟩
  · rw [List.mem_singleton] at hy
    exact hc (hy ▸ e ▸ hx)
  · rcases List.mem_append.mp hx with q | q
    · exact h.2 x q
    · rw [List.mem_singleton] at q
      omega
theorem pkMany_ok {n : Nat} {rd : Nat → PS → PS} (hr : ∀ p, p < n → ∀ s : PS, COk n s.2 → COk n (rd p s).2) : ∀ (ps : List Nat) (s : PS), (∀ p ∈ ps, p < n) → COk n s.2 → COk n (pkMany rd ps s).2
  | [], _, _, h => h
  | p :: ps, s, hp, h => by
    rw [pkMany]
    split
    · exact h
    · exact pkMany_ok hr ps _ (fun q hq => hp q (List.mem_cons_of_mem _ hq)) (hr p (hp p List.mem_cons_self) s h)
theorem pkOne_ok {n most j : Nat} {us : List VT} {sub : Option (Nat → PS → PS)} (hp : ∀ i, ∀ p ∈ (vAt us i).2.2.2.2, p < n) (hs : ∀ rd, sub = some rd → ∀ p, p < n → ∀ s : PS, COk n s.2 → COk n (rd p s).2) (hj : j < n) (s : PS) (h : COk n s.2) : COk n (pkOne sub us most j s).2 := by
  unfold pkOne
  split
  · exact h
  · rename_i q
    split
    · rcases sub with _ | rd
      · exact h
      · exact pkMany_ok (hs rd rfl) _ _ (hp j) (h.push hj q)
    · exact h
theorem pkV_ok {n most : Nat} {us : List VT} (hp : ∀ i, ∀ p ∈ (vAt us i).2.2.2.2, p < n) : ∀ f j, j < n → ∀ s : PS, COk n s.2 → COk n (pkV us most f j s).2
  | 0, _, hj, s, h => pkOne_ok hp (fun _ e => by cases e) hj s h
  | f + 1, _, hj, s, h => pkOne_ok hp (fun rd e => by
      cases e
      exact pkV_ok hp f) hj s h
/-! turns -/
def tn (come : List Nat) (i : Nat) : Int32 := if i ∈ come then nI (come.idxOf i) else -1
def tvs (vs : List VE) (t : Nat → Int32) : List VE := vs.mapIdx (fun i e => (e.1, e.2.1, t i))
theorem tvs_len (vs : List VE) (t : Nat → Int32) : (tvs vs t).length = vs.length := List.length_mapIdx
theorem tvs_at {vs : List VE} {t : Nat → Int32} {j : Nat} {e : VE} (h : vs[j]? = some e) : (tvs vs t)[j]? = some (e.1, e.2.1, t j) := by
  rw [tvs, List.getElem?_mapIdx, h]
  rfl
theorem adr_tvs (vs : List VE) (t : Nat → Int32) : adr (tvs vs t) = adr vs := by
  refine List.ext_getElem? fun j => ?_
  rw [adr, adr, List.getElem?_map, List.getElem?_map, tvs, List.getElem?_mapIdx]
  rcases vs[j]? with _ | e
  · rfl
  · rfl
theorem tvs_set {vs : List VE} {t : Nat → Int32} {j : Nat} {e : VE} (h : vs[j]? = some e) (y : Int32) : (tvs vs t).set j (e.1, e.2.1, y) = tvs vs (upd t j y) := by
  have hj := (List.getElem?_eq_some_iff.mp h).1
  refine List.ext_getElem? fun i => ?_
  rw [List.getElem?_set, tvs, tvs, List.getElem?_mapIdx, List.getElem?_mapIdx, List.length_mapIdx]
  by_cases q : j = i
  · subst q
    rw [if_pos rfl, if_pos hj, h]
    show some _ = some (e.1, e.2.1, upd t j y j)
    rw [pk_us]
  · rw [if_neg q]
    rcases vs[i]? with _ | e2
    · rfl
    · show some _ = some (e2.1, e2.2.1, upd t j y i)
      rw [pk_un (fun q2 => q q2.symm)]
theorem tvs_z {vs : List VE} (h : ∀ e ∈ vs, e.2.2 = -1) {t : Nat → Int32} (ht : ∀ i, t i = -1) : tvs vs t = vs := by
  refine List.ext_getElem? fun i => ?_
  rw [tvs, List.getElem?_mapIdx]
  rcases hv : vs[i]? with _ | e
  · rfl
  · have h1 := h e (List.mem_of_getElem? hv)
    show some (e.1, e.2.1, t i) = some e
    rw [ht i, ← h1]
theorem tn_push {come : List Nat} {j : Nat} (h : ¬ j ∈ come) : tn (come ++ [j]) = upd (tn come) j (nI come.length) := by
  funext i
  unfold tn
  by_cases q : i = j
  · subst q
    rw [pk_us, if_pos (by simp), List.idxOf_append, if_neg h]
    simp
  · rw [pk_un q]
    by_cases q2 : i ∈ come
    · rw [if_pos (List.mem_append_left _ q2), if_pos q2, List.idxOf_append, if_pos q2]
    · rw [if_neg (by simp [q, q2]), if_neg q2]
theorem tn_nil (i : Nat) : tn [] i = -1 := rfl
def vts (vs : List VE) : List VT := vs.map (fun e => e.2.1)
theorem vAt_of {vs : List VE} {j : Nat} {e : VE} (h : vs[j]? = some e) : vAt (vts vs) j = e.2.1 := by
  rw [vAt, vts, List.getD_eq_getElem?_getD, List.getElem?_map, h]
  rfl
theorem vts_tvs (vs : List VE) (t : Nat → Int32) : vts (tvs vs t) = vts vs := by
  refine List.ext_getElem? fun j => ?_
  rw [vts, vts, List.getElem?_map, List.getElem?_map, tvs, List.getElem?_mapIdx]
  rcases vs[j]? with _ | e
  · rfl
  · rfl
theorem gad_tvs (vs : List VE) (t : Nat → Int32) (gs : List Nat) : gad (tvs vs t) gs = gad vs gs := gad_adr (adr_tvs vs t)

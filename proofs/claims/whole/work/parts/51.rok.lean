/-! what a reading keeps: pure -/
def OKs (n np nb : Nat) (gs : List Nat) : Prop := n ≤ 3000 ∧ np ≤ 6000 ∧ nb ≤ 65536 ∧ gs.length ≤ n ∧ ∀ j ∈ gs, j < n
def ROk (bs : List UInt8) (i n : Nat) (R : RO) : Prop :=
  match R with
  | .inl _ => True
  | .inr x => OKs (n + x.2.2.1.length) x.2.2.2.1 x.2.2.2.2.1 x.2.2.2.2.2 ∧ x.1 < n + x.2.2.1.length ∧ i < x.2.1 ∧ x.2.1 ≤ bs.length
def MOk (bs : List UInt8) (i n : Nat) (R : Sum (Nat × Nat) (List Nat × Nat × List VT × Nat × Nat × List Nat)) : Prop :=
  match R with
  | .inl _ => True
  | .inr x => OKs (n + x.2.2.1.length) x.2.2.2.1 x.2.2.2.2.1 x.2.2.2.2.2 ∧ i ≤ x.2.1 ∧ x.2.1 ≤ bs.length
theorem OKs.more {n n2 np nb : Nat} {gs : List Nat} (h : OKs n np nb gs) (h1 : n ≤ n2) (h2 : n2 ≤ 3000) {np2 nb2 : Nat} (h3 : np2 ≤ 6000) (h4 : nb2 ≤ 65536) : OKs n2 np2 nb2 gs := ⟨h2, h3, h4, by have := h.2.2.2.1; omega, fun j hj => by have := h.2.2.2.2 j hj; omega⟩
theorem rdKeep_ok {bs cs : List UInt8} {i e n np nb k : Nat} {gs : List Nat} {nm : Int64} {dt : Int32} (h : OKs n np nb gs) (h1 : i < e) (h2 : e ≤ bs.length) : ROk bs i n (rdKeep i e n np nb gs k nm dt cs) := by
  unfold rdKeep
  split
  · rename_i q
    exact ⟨h.more (Nat.le_add_right _ _) (by show n + 1 ≤ 3000; omega) h.2.1 q.2, by show n < n + 1; omega, h1, h2⟩
  · trivial
theorem rdLeaf_ok {bs : List UInt8} {i n np nb k h b : Nat} {gs : List Nat} {ty : Int32} (hk : OKs n np nb gs) (h1 : 1 ≤ h) (h2 : i + (h + b) ≤ bs.length) : ROk bs i n (rdLeaf bs i n np nb gs k h b ty) := by
  unfold rdLeaf
  split
  · unfold rdRow
    split
    · trivial
    · exact rdKeep_ok hk (by omega) h2
  split
  · unfold rdTime
    split
    · trivial
    · split
      · trivial
      · exact rdKeep_ok hk (by omega) h2
  split
  · unfold rdRef
    split
    · trivial
    split
    · split
      · rename_i q
        have hj : (intV bs (i + h) (lead bs (i + h)).2.2.1).toInt.toNat < gs.length := by omega
        refine ⟨hk, ?_, by show i < i + (h + b); omega, h2⟩
        show gs.getD _ 0 < n + 0
        rw [List.getD_eq_getElem?_getD, List.getElem?_eq_getElem hj]
        exact hk.2.2.2.2 _ (List.getElem_mem hj)
      · trivial
    · trivial
  · unfold rdPlain
    split
    · exact rdKeep_ok hk (by omega) h2
    split
    · exact rdKeep_ok hk (by omega) h2
    · exact rdKeep_ok hk (by omega) h2
theorem rdMany_ok {bs : List UInt8} {rd : Nat → Nat → Nat → Nat → List Nat → RO} (hrd : ∀ i n np nb gs, OKs n np nb gs → ROk bs i n (rd i n np nb gs)) : ∀ c i n np nb gs, OKs n np nb gs → i ≤ bs.length → MOk bs i n (rdMany rd c i n np nb gs)
  | 0, i, n, np, nb, gs, h, hi => ⟨h, Nat.le_refl _, hi⟩
  | c + 1, i, n, np, nb, gs, h, hi => by
    have h1 := hrd i n np nb gs h
    rw [rdMany]
    rcases hr : rd i n np nb gs with x | ⟨v, i1, new, np1, nb1, gs1⟩
    · trivial
    · rw [hr] at h1
      obtain ⟨a1, a2, a3, a4⟩ := h1
      dsimp only at a1 a2 a3 a4 ⊢
      have h2 := rdMany_ok hrd c i1 (n + new.length) np1 nb1 gs1 a1 a4
      rcases hm : rdMany rd c i1 (n + new.length) np1 nb1 gs1 with x | ⟨ps, i2, new2, np2, nb2, gs2⟩
      · trivial
      · rw [hm] at h2
        obtain ⟨b1, b2, b3⟩ := h2
        dsimp only at b1 b2 b3 ⊢
        refine ⟨?_, by show i ≤ i2; omega, b3⟩
        show OKs (n + (new ++ new2).length) np2 nb2 gs2
        rw [List.length_append, ← Nat.add_assoc]
        exact b1
theorem rdOne_ok {bs : List UInt8} {sub : Option (Nat → Nat → Nat → Nat → List Nat → RO)} (hs : ∀ rd, sub = some rd → ∀ i n np nb gs, OKs n np nb gs → ROk bs i n (rd i n np nb gs)) {i n np nb : Nat} {gs : List Nat} (h : OKs n np nb gs) : ROk bs i n (rdOne sub bs i n np nb gs) := by
  have hok := lead_ok bs i
  unfold rdOne
  split
  · trivial
  split
  · trivial
  split
  · trivial
  rename_i q1 q2 q3
  split
  · rename_i q4
    unfold rdGroup
    rcases hsub : sub with _ | rd
    · trivial
    · dsimp only
      split
      · rename_i q5
        have hown : ownB (lead bs i).1 (lead bs i).2.1 (lead bs i).2.2.1 = (lead bs i).2.1 := by rw [ownB, if_pos q4]
        have h2 := rdMany_ok (hs rd hsub) (lead bs i).2.2.1 (i + (lead bs i).2.1) (n + 1) (np + (lead bs i).2.2.1) nb (gs ++ [n]) ⟨by omega, q5.2, h.2.2.1, by rw [List.length_append, List.length_singleton]; have := h.2.2.2.1; omega, fun j hj => by
          rcases List.mem_append.mp hj with e | e
          · have := h.2.2.2.2 j e
            omega
          · have := List.mem_singleton.mp e
            omega⟩ (by omega)
        rcases hm : rdMany rd (lead bs i).2.2.1 (i + (lead bs i).2.1) (n + 1) (np + (lead bs i).2.2.1) nb (gs ++ [n]) with x | ⟨ps, i2, new, np2, nb2, gs2⟩
        · trivial
        · rw [hm] at h2
          obtain ⟨b1, b2, b3⟩ := h2
          dsimp only at b1 b2 b3 ⊢
          refine ⟨?_, by show n < n + (new.length + 1); omega, by show i < i2; omega, b3⟩
          show OKs (n + (new.length + 1)) np2 nb2 gs2
          rw [show n + (new.length + 1) = n + 1 + new.length by omega]
          exact b1
      · trivial
  · rename_i q4
    have hown : ownB (lead bs i).1 (lead bs i).2.1 (lead bs i).2.2.1 = (lead bs i).2.1 + (lead bs i).2.2.1 := by rw [ownB, if_neg q4]
    exact rdLeaf_ok h (by omega) (by omega)
theorem rdV_ok {bs : List UInt8} : ∀ f i n np nb gs, OKs n np nb gs → ROk bs i n (rdV bs f i n np nb gs)
  | 0, i, n, np, nb, gs, h => rdOne_ok (fun _ e => by cases e) h
  | f + 1, i, n, np, nb, gs, h => rdOne_ok (fun rd e i n np nb gs h => by
      cases e
      exact rdV_ok f i n np nb gs h) h

/-! faults: pure -/
def BOk {α : Type} (bs : List UInt8) (R : Sum (Nat × Nat) α) : Prop :=
  match R with
  | .inl x => 1 ≤ x.1 ∧ x.1 ≤ 8 ∧ x.2 ≤ bs.length
  | .inr _ => True
theorem BOk.mk' {α : Type} {bs : List UInt8} {c p : Nat} (h1 : 1 ≤ c) (h2 : c ≤ 8) (h3 : p ≤ bs.length) : BOk (α := α) bs (.inl (c, p)) := ⟨h1, h2, h3⟩
theorem rdKeep_bad {bs cs : List UInt8} {i e n np nb k : Nat} {gs : List Nat} {nm : Int64} {dt : Int32} (h : i ≤ bs.length) : BOk bs (rdKeep i e n np nb gs k nm dt cs) := by
  unfold rdKeep
  split
  · trivial
  · exact BOk.mk' (by decide) (by decide) h
theorem rdLeaf_bad {bs : List UInt8} {i n np nb k h b : Nat} {gs : List Nat} {ty : Int32} (h1 : i ≤ bs.length) (h2 : i + (h + b) ≤ bs.length) : BOk bs (rdLeaf bs i n np nb gs k h b ty) := by
  unfold rdLeaf
  split
  · unfold rdRow
    split
    · rename_i p hp
      refine BOk.mk' (by decide) (by decide) ?_
      show p ≤ bs.length
      split at hp
      · have := chBad_lt hp
        omega
      · cases hp
    · exact rdKeep_bad h1
  split
  · unfold rdTime
    split
    · exact BOk.mk' (by decide) (by decide) h1
    · split
      · exact BOk.mk' (by decide) (by decide) h1
      · exact rdKeep_bad h1
  split
  · unfold rdRef
    split
    · exact BOk.mk' (by decide) (by decide) h1
    split
    · split
      · trivial
      · exact BOk.mk' (by decide) (by decide) h1
    · exact BOk.mk' (by decide) (by decide) h1
  · unfold rdPlain
    split
    · exact rdKeep_bad h1
    split
    · exact rdKeep_bad h1
    · exact rdKeep_bad h1
theorem rdMany_bad {bs : List UInt8} {rd : Nat → Nat → Nat → Nat → List Nat → RO} (hok : ∀ i n np nb gs, OKs n np nb gs → ROk bs i n (rd i n np nb gs)) (hrd : ∀ i n np nb gs, OKs n np nb gs → i ≤ bs.length → BOk bs (rd i n np nb gs)) : ∀ c i n np nb gs, OKs n np nb gs → i ≤ bs.length → BOk bs (rdMany rd c i n np nb gs)
  | 0, _, _, _, _, _, _, _ => trivial
  | c + 1, i, n, np, nb, gs, h, hi => by
    have h1 := hok i n np nb gs h
    have h2 := hrd i n np nb gs h hi
    rw [rdMany]
    rcases hr : rd i n np nb gs with x | ⟨v, i1, new, np1, nb1, gs1⟩
    · rw [hr] at h2
      exact h2
    · rw [hr] at h1
      obtain ⟨a1, a2, a3, a4⟩ := h1
      dsimp only at a1 a2 a3 a4 ⊢
      have h3 := rdMany_bad hok hrd c i1 (n + new.length) np1 nb1 gs1 a1 a4
      rcases hm : rdMany rd c i1 (n + new.length) np1 nb1 gs1 with x | ⟨ps, i2, new2, np2, nb2, gs2⟩
      · rw [hm] at h3
        exact h3
      · trivial
theorem rdOne_bad {bs : List UInt8} {sub : Option (Nat → Nat → Nat → Nat → List Nat → RO)} (hs0 : ∀ rd, sub = some rd → ∀ i n np nb gs, OKs n np nb gs → ROk bs i n (rd i n np nb gs)) (hs : ∀ rd, sub = some rd → ∀ i n np nb gs, OKs n np nb gs → i ≤ bs.length → BOk bs (rd i n np nb gs)) {i n np nb : Nat} {gs : List Nat} (h : OKs n np nb gs) (hi : i ≤ bs.length) : BOk bs (rdOne sub bs i n np nb gs) := by
  have hok := lead_ok bs i
  unfold rdOne
  split
  · exact BOk.mk' (by decide) (by decide) hi
  split
  · exact BOk.mk' (by decide) (by decide) hi
  split
  · exact BOk.mk' (by decide) (by decide) hi
  rename_i q1 q2 q3
  split
  · rename_i q4
    unfold rdGroup
    rcases hsub : sub with _ | rd
    · exact BOk.mk' (by decide) (by decide) hi
    · dsimp only
      split
      · rename_i q5
        have hown : ownB (lead bs i).1 (lead bs i).2.1 (lead bs i).2.2.1 = (lead bs i).2.1 := by rw [ownB, if_pos q4]
        have h2 := rdMany_bad (hs0 rd hsub) (hs rd hsub) (lead bs i).2.2.1 (i + (lead bs i).2.1) (n + 1) (np + (lead bs i).2.2.1) nb (gs ++ [n]) ⟨by omega, q5.2, h.2.2.1, by rw [List.length_append, List.length_singleton]; have := h.2.2.2.1; omega, fun j hj => by
          rcases List.mem_append.mp hj with e | e
          · have := h.2.2.2.2 j e
            omega
          · have := List.mem_singleton.mp e
            omega⟩ (by omega)
        rcases hm : rdMany rd (lead bs i).2.2.1 (i + (lead bs i).2.1) (n + 1) (np + (lead bs i).2.2.1) nb (gs ++ [n]) with x | ⟨ps, i2, new, np2, nb2, gs2⟩
        · rw [hm] at h2
          exact h2
        · trivial
      · exact BOk.mk' (by decide) (by decide) hi
  · rename_i q4
    have hown : ownB (lead bs i).1 (lead bs i).2.1 (lead bs i).2.2.1 = (lead bs i).2.1 + (lead bs i).2.2.1 := by rw [ownB, if_neg q4]
    exact rdLeaf_bad hi (by omega)
theorem rdV_bad {bs : List UInt8} : ∀ f i n np nb gs, OKs n np nb gs → i ≤ bs.length → BOk bs (rdV bs f i n np nb gs)
  | 0, i, n, np, nb, gs, h, hi => rdOne_bad (fun _ e => by cases e) (fun _ e => by cases e) h hi
  | f + 1, i, n, np, nb, gs, h, hi => rdOne_bad (fun rd e i n np nb gs h => by
      cases e
      exact rdV_ok f i n np nb gs h) (fun rd e i n np nb gs h hi => by
      cases e
      exact rdV_bad f i n np nb gs h hi) h hi

/-! the model: readAll, pure -/
theorem lkP_app : ∀ (A B : LK) (i : Nat), lkP (A ++ B) i = lkP B i ++ lkP A i
  | [], B, i => by rw [List.nil_append, lkP, List.append_nil]
  | (h, v) :: A, B, i => by
    rw [List.cons_append, lkP, lkP, lkP_app A B i]
    by_cases q : h = i
    · rw [if_pos q, if_pos q, List.append_assoc]
    · rw [if_neg q, if_neg q]
theorem lkP_no : ∀ {A : LK} {i : Nat}, (∀ x ∈ A, ¬ x.1 = i) → lkP A i = []
  | [], _, _ => rfl
  | (h, v) :: A, i, hA => by
    rw [lkP, if_neg (hA (h, v) List.mem_cons_self)]
    exact lkP_no (fun x hx => hA x (List.mem_cons_of_mem _ hx))
theorem rdMany_len {rd : Nat → Nat → Nat → Nat → List Nat → RO} : ∀ {c i n np nb : Nat} {gs : List Nat} {x : List Nat × Nat × List VT × Nat × Nat × List Nat}, rdMany rd c i n np nb gs = .inr x → x.1.length = c
  | 0, i, n, np, nb, gs, x, h => by
    cases h
    rfl
  | c + 1, i, n, np, nb, gs, x, h => by
    rw [rdMany] at h
    rcases h1 : rd i n np nb gs with y | ⟨v, i1, new, np1, nb1, gs1⟩
    · rw [h1] at h
      cases h
    · rw [h1] at h
      dsimp only at h
      rcases h2 : rdMany rd c i1 (n + new.length) np1 nb1 gs1 with y | ⟨ps, i2, new2, np2, nb2, gs2⟩
      · rw [h2] at h
        cases h
      · rw [h2] at h
        cases h
        have h3 := rdMany_len h2
        dsimp only at h3
        show (v :: ps).length = c + 1
        rw [List.length_cons, h3]
theorem rdKeep_new {i e n np nb k : Nat} {gs : List Nat} {nm : Int64} {dt : Int32} {cs : List UInt8} {x : Nat × Nat × List VT × Nat × Nat × List Nat} (h : rdKeep i e n np nb gs k nm dt cs = .inr x) : x.1 = n ∧ (∀ v ∈ x.2.2.1, v.2.2.2.2 = []) ∧ x.2.2.2.1 = np ∧ x.2.2.1.length ≤ 1 := by
  unfold rdKeep at h
  split at h
  · cases h
    exact ⟨rfl, fun v hv => by rw [List.mem_singleton.mp hv], rfl, Nat.le_refl _⟩
  · cases h
theorem rdLeaf_new {bs : List UInt8} {i n np nb k h b : Nat} {gs : List Nat} {ty : Int32} {x : Nat × Nat × List VT × Nat × Nat × List Nat} (e : rdLeaf bs i n np nb gs k h b ty = .inr x) : (gs = [] → x.1 = n) ∧ (∀ v ∈ x.2.2.1, v.2.2.2.2 = []) ∧ x.2.2.2.1 = np ∧ x.2.2.1.length ≤ 1 := by
  unfold rdLeaf at e
  split at e
  · unfold rdRow at e
    split at e
    · cases e
    · have h1 := rdKeep_new e
      exact ⟨fun _ => h1.1, h1.2⟩
  · split at e
    · unfold rdTime at e
      split at e
      · cases e
      · split at e
        · cases e
        · have h1 := rdKeep_new e
          exact ⟨fun _ => h1.1, h1.2⟩
    · split at e
      · have h1 := ref_inr e
        refine ⟨fun hg => ?_, ?_, ?_, ?_⟩
        · exfalso
          subst hg
          unfold rdRef at e
          split at e
          · cases e
          · split at e
            · split at e
              · rename_i q
                have := q.2
                have h0 := q.1
                rw [List.length_nil] at this
                omega
              · cases e
            · cases e
        · rw [h1]
          exact fun v hv => absurd hv List.not_mem_nil
        · rw [h1]
        · rw [h1]
          exact Nat.zero_le _
      · unfold rdPlain at e
        split at e
        · have h1 := rdKeep_new e
          exact ⟨fun _ => h1.1, h1.2⟩
        · split at e
          · have h1 := rdKeep_new e
            exact ⟨fun _ => h1.1, h1.2⟩
          · have h1 := rdKeep_new e
            exact ⟨fun _ => h1.1, h1.2⟩
abbrev SUBF : Type := Option (Nat → Nat → Nat → Nat → List Nat → RO)
def grpB (bs : List UInt8) (i : Nat) : Prop := (lead bs i).1 = 7 ∨ (lead bs i).1 = 8
theorem rd1_l {sub : SUBF} {op : Nat} {bs : List UInt8} {i n np nb : Nat} {gs : List Nat} {x : Nat × Nat} (hs : sub = none ↔ op = 24) (h : rd1 op bs i n np nb gs = .inl x) : rdOne sub bs i n np nb gs = .inl x := by
  unfold rd1 at h
  unfold rdOne
  split
  · rw [if_pos (by assumption)] at h
    exact h
  · rw [if_neg (by assumption)] at h
    split
    · rw [if_pos (by assumption)] at h
      exact h
    · rw [if_neg (by assumption)] at h
      split
      · rw [if_pos (by assumption)] at h
        exact h
      · rw [if_neg (by assumption)] at h
        split
        · rw [if_pos (by assumption)] at h
          rcases sub with _ | rd
          · rw [if_pos (hs.mp rfl)] at h
            exact h
          · rw [if_neg (fun q => by have := hs.mpr q; cases this)] at h
            split at h
            · cases h
            · rename_i q
              rw [rdGroup, if_neg q]
              exact h
        · rw [if_neg (by assumption)] at h
          exact h
theorem rd1_leaf {sub : SUBF} {op : Nat} {bs : List UInt8} {i n np nb : Nat} {gs : List Nat} {x : Nat × Nat × List VT × Nat × Nat × List Nat} (hg : ¬ grpB bs i) (h : rd1 op bs i n np nb gs = .inr x) : rdOne sub bs i n np nb gs = .inr x ∧ (gs = [] → x.1 = n) ∧ (∀ v ∈ x.2.2.1, v.2.2.2.2 = []) ∧ x.2.2.2.1 = np ∧ x.2.2.1.length ≤ 1 := by
  unfold rd1 at h
  unfold rdOne
  split
  · rw [if_pos (by assumption)] at h
    cases h
  · rw [if_neg (by assumption)] at h
    split
    · rw [if_pos (by assumption)] at h
      cases h
    · rw [if_neg (by assumption)] at h
      split
      · rw [if_pos (by assumption)] at h
        cases h
      · have hg' : ¬ ((lead bs i).1 = 7 ∨ (lead bs i).1 = 8) := hg
        rw [if_neg (by assumption), if_neg hg'] at h
        rw [if_neg hg']
        exact ⟨h, rdLeaf_new h⟩
theorem rd1_grp {sub : SUBF} {op : Nat} {bs : List UInt8} {i n np nb : Nat} {gs : List Nat} {x : Nat × Nat × List VT × Nat × Nat × List Nat} (hs : sub = none ↔ op = 24) (hg : grpB bs i) (h : rd1 op bs i n np nb gs = .inr x) : ¬ op = 24 ∧ n < 3000 ∧ np + (lead bs i).2.2.1 ≤ 6000 ∧ x = (n, i + (lead bs i).2.1, [((lead bs i).1, 0, 0, [], [])], np + (lead bs i).2.2.1, nb, gs ++ [n]) ∧ i + (lead bs i).2.1 ≤ bs.length ∧ ∀ rd, sub = some rd → (∀ y, rdMany rd (lead bs i).2.2.1 (i + (lead bs i).2.1) (n + 1) (np + (lead bs i).2.2.1) nb (gs ++ [n]) = .inl y → rdOne sub bs i n np nb gs = .inl y) ∧ ∀ ps i2 new np2 nb2 gs2, rdMany rd (lead bs i).2.2.1 (i + (lead bs i).2.1) (n + 1) (np + (lead bs i).2.2.1) nb (gs ++ [n]) = .inr (ps, i2, new, np2, nb2, gs2) → rdOne sub bs i n np nb gs = .inr (n, i2, ((lead bs i).1, 0, 0, [], ps) :: new, np2, nb2, gs2) := by
  unfold rd1 at h
  have hu : rdOne sub bs i n np nb gs = rdOne sub bs i n np nb gs := rfl
  conv at hu => rhs; unfold rdOne
  rw [hu]
  clear hu
  split
  · rw [if_pos (by assumption)] at h
    cases h
  · rw [if_neg (by assumption)] at h
    split
    · rw [if_pos (by assumption)] at h
      cases h
    · rw [if_neg (by assumption)] at h
      split
      · rw [if_pos (by assumption)] at h
        cases h
      · rename_i q1 q2 q3
        have hg' : (lead bs i).1 = 7 ∨ (lead bs i).1 = 8 := hg
        rw [if_neg q3, if_pos hg'] at h
        rw [if_pos hg']
        by_cases q : op = 24
        · rw [if_pos q] at h
          cases h
        · rw [if_neg q] at h
          by_cases c : (n < 3000 ∧ nb + 0 ≤ 65536) ∧ np + (lead bs i).2.2.1 ≤ 6000
          · rw [if_pos c] at h
            cases h
            refine ⟨q, c.1.1, c.2, rfl, ?_, fun rd hrd => ?_⟩
            · have h3 : ownB (lead bs i).1 (lead bs i).2.1 (lead bs i).2.2.1 = (lead bs i).2.1 := by
                rw [ownB, if_pos hg']
              rw [h3] at q3
              omega
            · refine ⟨fun y hy => ?_, fun ps i2 new np2 nb2 gs2 hy => ?_⟩
              · rw [hrd, rdGroup, if_pos c, hy]
              · rw [hrd, rdGroup, if_pos c, hy]
          · rw [if_neg c] at h
            cases h
/-- the pile of a reading -/
def pil (s : List (Nat × Nat)) : PIL := s.map (fun e => (e.1, lN e.2))
theorem pil_len (s : List (Nat × Nat)) : (pil s).length = s.length := List.length_map _
theorem pil_app (s t : List (Nat × Nat)) : pil (s ++ t) = pil s ++ pil t := List.map_append
def lsum (s : List (Nat × Nat)) : Nat := (s.map Prod.snd).sum
theorem lsum_app (s t : List (Nat × Nat)) : lsum (s ++ t) = lsum s + lsum t := by
  rw [lsum, lsum, lsum, List.map_append, List.sum_append]
theorem lsum_1 (p c : Nat) : lsum [(p, c)] = c := by simp [lsum]
/-- what holds in a reading -/
def INV (us0 : List VT) (zs0 : List Nat) (R0 : LK) (pg : Nat) (bs : List UInt8) (i : Nat) (s : List (Nat × Nat)) (us : List VT) (zs : List Nat) (R : LK) (np nb : Nat) (gs : List Nat) (mk : Nat → Nat) : Prop :=
  (∃ (e : List VT) (ze : List Nat) (f : LK), us = us0 ++ e ∧ zs = zs0 ++ ze ∧ R = f ++ R0 ∧ ∀ x ∈ f, us0.length ≤ x.1) ∧ (∀ j, mk j ≤ pg) ∧ R.length + lsum s = np ∧ OKs us.length np nb gs ∧ (∀ x ∈ s, us0.length ≤ x.1 ∧ x.1 < us.length ∧ ((vAt us x.1).1 = 7 ∨ (vAt us x.1).1 = 8) ∧ (vAt us x.1).2.2.2.1 = []) ∧ i ≤ bs.length
theorem mkN_le {mk : Nat → Nat} {pg n : Nat} {new : List VT} (h : ∀ j, mk j ≤ pg) : ∀ j, mkN mk n new j ≤ pg := fun j => by
  unfold mkN
  split
  · exact h j
  · by_cases q : j = n
    · rw [q, mkS_s]
      exact Nat.zero_le _
    · rw [mkS_n mk q]
      exact h j
section
variable {us0 : List VT} {zs0 : List Nat} {R0 : LK} {pg : Nat} {bs : List UInt8} {i : Nat} {s : List (Nat × Nat)} {us : List VT} {zs : List Nat} {R : LK} {np nb : Nat} {gs : List Nat} {mk : Nat → Nat}
theorem inv_leaf {new : List VT} {zz : List Nat} {nb1 e1 : Nat} {gs1 : List Nat} (h : INV us0 zs0 R0 pg bs i s us zs R np nb gs mk) (hO : OKs (us.length + new.length) np nb1 gs1) (he : e1 ≤ bs.length) : INV us0 zs0 R0 pg bs e1 s (us ++ new) (zs ++ zz) R np nb1 gs1 (mkN mk us.length new) := by
  obtain ⟨⟨e, ze, f, rfl, rfl, rfl, hf⟩, h2, h3, h4, h5, h6⟩ := h
  refine ⟨⟨e ++ new, ze ++ zz, f, by rw [List.append_assoc], by rw [List.append_assoc], rfl, hf⟩, mkN_le h2, h3, ?_, fun x hx => ?_, he⟩
  · rw [List.length_append (as := us0 ++ e)]
    exact hO
  · obtain ⟨a1, a2, a3, a4⟩ := h5 x hx
    rw [vat_old _ a2, List.length_append (as := us0 ++ e)]
    exact ⟨a1, by omega, a3, a4⟩
theorem inv_push {k b e1 : Nat} {zz : List Nat} (h : INV us0 zs0 R0 pg bs i s us zs R np nb gs mk) (h3000 : us.length < 3000) (hb : np + b ≤ 6000) (hk : k = 7 ∨ k = 8) (he : e1 ≤ bs.length) : INV us0 zs0 R0 pg bs e1 (s ++ [(us.length, b)]) (us ++ [(k, 0, 0, [], [])]) (zs ++ zz) R (np + b) nb (gs ++ [us.length]) (mkS mk us.length 0) := by
  obtain ⟨⟨e, ze, f, rfl, rfl, rfl, hf⟩, h2, h3, h4, h5, h6⟩ := h
  refine ⟨⟨e ++ [(k, 0, 0, [], [])], ze ++ zz, f, by rw [List.append_assoc], by rw [List.append_assoc], rfl, hf⟩, fun j => ?_, ?_, ?_, fun x hx => ?_, he⟩
  · have := mkN_le (n := (us0 ++ e).length) (new := [(0, 0, 0, [], [])]) h2 j
    rw [mkN, if_neg (List.cons_ne_nil _ _)] at this
    exact this
  · rw [lsum_app, lsum_1]
    omega
  · obtain ⟨o1, o2, o3, o4, o5⟩ := h4
    rw [List.length_append (as := us0 ++ e), List.length_singleton]
    refine ⟨by omega, hb, o3, by rw [List.length_append, List.length_singleton]; omega, fun j hj => ?_⟩
    rcases List.mem_append.mp hj with q | q
    · have := o5 j q
      omega
    · rw [List.mem_singleton.mp q]
      exact Nat.lt_succ_self _
  · rw [List.length_append (as := us0 ++ e), List.length_singleton]
    rcases List.mem_append.mp hx with q | q
    · obtain ⟨a1, a2, a3, a4⟩ := h5 x q
      rw [vat_old _ a2]
      exact ⟨a1, by omega, a3, a4⟩
    · rw [List.mem_singleton.mp q]
      dsimp only
      rw [vat_new]
      exact ⟨by rw [List.length_append]; exact Nat.le_add_right _ _, Nat.lt_succ_self _, hk, rfl⟩
theorem inv_link {p c v : Nat} {t : List (Nat × Nat)} (h : INV us0 zs0 R0 pg bs i (s ++ (p, c + 1) :: t) us zs R np nb gs mk) : INV us0 zs0 R0 pg bs i (s ++ (p, c) :: t) us zs ((p, v) :: R) np nb gs mk ∧ R.length < 6000 := by
  obtain ⟨⟨e, ze, f, rfl, rfl, rfl, hf⟩, h2, h3, h4, h5, h6⟩ := h
  have hp := h5 (p, c + 1) (List.mem_append_right _ List.mem_cons_self)
  have e1 : lsum ((p, c + 1) :: t) = c + 1 + lsum t := by
    rw [← List.singleton_append, lsum_app, lsum_1]
  have e2 : lsum ((p, c) :: t) = c + lsum t := by
    rw [← List.singleton_append, lsum_app, lsum_1]
  rw [lsum_app, e1] at h3
  have hnp := h4.2.1
  refine ⟨⟨⟨e, ze, (p, v) :: f, rfl, rfl, rfl, fun x hx => ?_⟩, h2, ?_, h4, fun x hx => ?_, h6⟩, by omega⟩
  · rcases List.mem_cons.mp hx with q | q
    · rw [q]
      exact hp.1
    · exact hf x q
  · rw [lsum_app, e2, List.length_cons]
    omega
  · rcases List.mem_append.mp hx with q | q
    · exact h5 x (List.mem_append_left _ q)
    · rcases List.mem_cons.mp q with q | q
      · rw [q]
        exact hp
      · exact h5 x (List.mem_append_right _ (List.mem_cons_of_mem _ q))
theorem inv_pop {g : Nat} (h : INV us0 zs0 R0 pg bs i (s ++ [(g, 0)]) us zs R np nb gs mk) : INV us0 zs0 R0 pg bs i s us zs R np nb gs mk := by
  obtain ⟨h1, h2, h3, h4, h5, h6⟩ := h
  rw [lsum_app, lsum_1] at h3
  exact ⟨h1, h2, h3, h4, fun x hx => h5 x (List.mem_append_left _ hx), h6⟩
end

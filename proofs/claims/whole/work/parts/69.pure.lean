/-! what is read is well: pure -/
theorem tyK_ge (t : Int32) : 9 ≤ tyK t := by
  unfold tyK
  repeat' (first | omega | split)
theorem lead_ty {bs : List UInt8} {i : Nat} (h : (lead bs i).1 ≤ 8) : (lead bs i).2.2.2 = 0 := by
  obtain ⟨k, h0, b, e⟩ : ∃ k h b, lead0 bs i = (k, h, b) := ⟨_, _, _, rfl⟩
  by_cases hk : k = 9
  · rw [lead_ext e hk] at h ⊢
    dsimp only at h ⊢
    unfold typK at h
    split at h
    · have := tyK_ge (by8 (bs.getD (i + h0) 0))
      omega
    · omega
  · rw [lead_pl e hk]
theorem lead_even {bs : List UInt8} {i : Nat} (h : (lead bs i).1 = 8) : (lead bs i).2.2.1 % 2 = 0 := by
  obtain ⟨k, h0, b, e⟩ : ∃ k h b, lead0 bs i = (k, h, b) := ⟨_, _, _, rfl⟩
  by_cases hk : k = 9
  · rw [lead_ext e hk] at h
    dsimp only at h
    unfold typK at h
    split at h
    · have := tyK_ge (by8 (bs.getD (i + h0) 0))
      omega
    · omega
  · rw [lead_pl e hk] at h ⊢
    dsimp only at h ⊢
    unfold lead0 at e
    split at e
    · cases e
      omega
    split at e
    · cases e
      omega
    split at e
    · cases e
      omega
    split at e
    · cases e
      omega
    · rw [Prod.mk.injEq, Prod.mk.injEq] at e
      obtain ⟨e1, -, e3⟩ := e
      rw [← e3]
      unfold upBody
      rw [if_pos (e1.trans h)]
      omega
def VN (n np : Nat) (R : RO) : Prop := match R with
  | .inl _ => True
  | .inr x => (∀ v ∈ x.2.2.1, VTok (n + x.2.2.1.length) x.2.2.2.1 v) ∧ np ≤ x.2.2.2.1
def VM (n np c : Nat) (R : Sum (Nat × Nat) (List Nat × Nat × List VT × Nat × Nat × List Nat)) : Prop := match R with
  | .inl _ => True
  | .inr x => (∀ v ∈ x.2.2.1, VTok (n + x.2.2.1.length) x.2.2.2.1 v) ∧ np ≤ x.2.2.2.1 ∧ x.1.length = c ∧ ∀ p ∈ x.1, p < n + x.2.2.1.length
theorem rdKeep_vn {i e n np nb k : Nat} {gs : List Nat} {nm : Int64} {dt : Int32} {cs : List UInt8} (hk : k ≤ 10) (h1 : ¬ (k = 5 ∨ k = 6 ∨ k = 9) → cs = []) (h2 : k = 10 → ∃ m, m ≤ 999999999 ∧ dt = nI m) (h3 : ¬ (k = 1 ∨ k = 2 ∨ k = 9 ∨ k = 10) → dt = 0) (h4 : k = 2 → dt = 0 ∨ dt = 1) : VN n np (rdKeep i e n np nb gs k nm dt cs) := by
  unfold rdKeep
  split
  · rename_i q
    refine ⟨fun v hv => ?_, Nat.le_refl _⟩
    have e9 : v = (k, nm, dt, cs, []) := List.mem_singleton.mp hv
    subst e9
    exact ⟨hk, by show cs.length ≤ 65536; omega, Nat.zero_le _, fun p hp => absurd hp List.not_mem_nil, h1, fun _ => rfl, fun _ => rfl, h2, h3, h4⟩
  · trivial
theorem rdLeaf_vn {bs : List UInt8} {i n np nb k h b : Nat} {gs : List Nat} {ty : Int32} (hk : k ≤ 11) (h7 : ¬ (k = 7 ∨ k = 8)) (ht : k ≤ 8 → ty = 0) : VN n np (rdLeaf bs i n np nb gs k h b ty) := by
  unfold rdLeaf
  split
  · rename_i q
    unfold rdRow
    split
    · trivial
    · refine rdKeep_vn (by omega) (fun q2 => absurd q q2) (fun q2 => by omega) (fun q2 => ht (by omega)) (fun q2 => by omega)
  split
  · rename_i q
    unfold rdTime
    split
    · trivial
    · split
      · trivial
      · rename_i q3
        exact rdKeep_vn (by decide) (fun _ => rfl) (fun _ => ⟨_, by omega, rfl⟩) (fun q2 => absurd (Or.inr (Or.inr (Or.inr rfl))) q2) (fun q2 => absurd q2 (by decide))
  split
  · unfold rdRef
    split
    · trivial
    split
    · split
      · exact ⟨fun v hv => absurd hv List.not_mem_nil, Nat.le_refl _⟩
      · trivial
    · trivial
  · rename_i q1 q2 q3
    unfold rdPlain
    split
    · exact rdKeep_vn (by decide) (fun _ => rfl) (fun q => absurd q (by decide)) (fun q => absurd (Or.inl rfl) q) (fun q => absurd q (by decide))
    split
    · refine rdKeep_vn (by decide) (fun _ => rfl) (fun q => absurd q (by decide)) (fun q => absurd (Or.inr (Or.inl rfl)) q) (fun _ => ?_)
      split
      · exact Or.inr rfl
      · exact Or.inl rfl
    · exact rdKeep_vn (by omega) (fun _ => rfl) (fun q => by omega) (fun _ => rfl) (fun q => by omega)
theorem rdMany_vn {bs : List UInt8} {rd : Nat → Nat → Nat → Nat → List Nat → RO} (hok : ∀ i n np nb gs, OKs n np nb gs → ROk bs i n (rd i n np nb gs)) (hvn : ∀ i n np nb gs, OKs n np nb gs → VN n np (rd i n np nb gs)) : ∀ c i n np nb gs, OKs n np nb gs → VM n np c (rdMany rd c i n np nb gs)
  | 0, _, _, _, _, _, _ => ⟨fun v hv => absurd hv List.not_mem_nil, Nat.le_refl _, rfl, fun p hp => absurd hp List.not_mem_nil⟩
  | c + 1, i, n, np, nb, gs, h => by
    have h1 := hok i n np nb gs h
    have h2 := hvn i n np nb gs h
    rw [rdMany]
    rcases hr : rd i n np nb gs with x | ⟨v, i1, new, np1, nb1, gs1⟩
    · trivial
    · rw [hr] at h1 h2
      obtain ⟨a1, a2, a3, a4⟩ := h1
      obtain ⟨b1, b2⟩ := h2
      dsimp only at a1 a2 a3 a4 b1 b2 ⊢
      have h3 := rdMany_vn hok hvn c i1 (n + new.length) np1 nb1 gs1 a1
      rcases hm : rdMany rd c i1 (n + new.length) np1 nb1 gs1 with x | ⟨ps, i2, new2, np2, nb2, gs2⟩
      · trivial
      · rw [hm] at h3
        obtain ⟨c1, c2, c3, c4⟩ := h3
        dsimp only at c1 c2 c3 c4 ⊢
        have e9 : n + (new ++ new2).length = n + new.length + new2.length := by rw [List.length_append]; omega
        refine ⟨fun u hu => ?_, by show np ≤ np2; omega, by show (v :: ps).length = c + 1; rw [List.length_cons, c3], fun p hp => ?_⟩
        · show VTok (n + (new ++ new2).length) np2 u
          rw [e9]
          rcases List.mem_append.mp hu with q | q
          · exact (b1 u q).more (Nat.le_add_right _ _) c2
          · exact c1 u q
        · show p < n + (new ++ new2).length
          rw [e9]
          rcases List.mem_cons.mp hp with q | q
          · omega
          · exact c4 p q
theorem rdOne_vn {bs : List UInt8} {sub : Option (Nat → Nat → Nat → Nat → List Nat → RO)} (hs : ∀ rd, sub = some rd → (∀ i n np nb gs, OKs n np nb gs → ROk bs i n (rd i n np nb gs)) ∧ ∀ i n np nb gs, OKs n np nb gs → VN n np (rd i n np nb gs)) {i n np nb : Nat} {gs : List Nat} (h : OKs n np nb gs) : VN n np (rdOne sub bs i n np nb gs) := by
  have hok := lead_ok bs i
  unfold rdOne
  split
  · trivial
  split
  · trivial
  split
  · trivial
  rename_i q1 q2 q3
  split
  · rename_i q4
    unfold rdGroup
    rcases hsub : sub with _ | rd
    · trivial
    · dsimp only
      split
      · rename_i q5
        obtain ⟨s1, s2⟩ := hs rd hsub
        have h2 := rdMany_vn s1 s2 (lead bs i).2.2.1 (i + (lead bs i).2.1) (n + 1) (np + (lead bs i).2.2.1) nb (gs ++ [n]) ⟨by omega, q5.2, h.2.2.1, by rw [List.length_append, List.length_singleton]; have := h.2.2.2.1; omega, fun j hj => by
          rcases List.mem_append.mp hj with e | e
          · have := h.2.2.2.2 j e
            omega
          · have := List.mem_singleton.mp e
            omega⟩
        rcases hm : rdMany rd (lead bs i).2.2.1 (i + (lead bs i).2.1) (n + 1) (np + (lead bs i).2.2.1) nb (gs ++ [n]) with x | ⟨ps, i2, new, np2, nb2, gs2⟩
        · trivial
        · rw [hm] at h2
          obtain ⟨b1, b2, b3, b4⟩ := h2
          dsimp only at b1 b2 b3 b4 ⊢
          refine ⟨fun v hv => ?_, by show np ≤ np2; omega⟩
          show VTok (n + (new.length + 1)) np2 v
          rw [show n + (new.length + 1) = n + 1 + new.length by omega]
          rcases List.mem_cons.mp hv with e | e
          · subst e
            refine ⟨by show (lead bs i).1 ≤ 10; omega, Nat.zero_le _, by show ps.length ≤ np2; omega, b4, fun _ => rfl, fun q => absurd q4 q, fun q => ?_, fun q => ?_, fun _ => rfl, fun q => ?_⟩
            · show ps.length % 2 = 0
              rw [b3]
              exact lead_even q
            · have q9 : (lead bs i).1 = 10 := q
              omega
            · have q9 : (lead bs i).1 = 2 := q
              omega
          · exact b1 v e
      · trivial
  · rename_i q4
    exact rdLeaf_vn (by omega) q4 (fun q => lead_ty q)
theorem rdV_vn {bs : List UInt8} : ∀ f i n np nb gs, OKs n np nb gs → VN n np (rdV bs f i n np nb gs)
  | 0, _, _, _, _, _, h => rdOne_vn (fun _ e => by cases e) h
  | f + 1, _, _, _, _, _, h => rdOne_vn (fun rd e => by
      cases e
      exact ⟨fun i n np nb gs h => rdV_ok f i n np nb gs h, fun i n np nb gs h => rdV_vn f i n np nb gs h⟩) h
theorem rdAll_ok {bs : List UInt8} {n np nb : Nat} (h1 : n ≤ 3000) (h2 : np ≤ 6000) (h3 : nb ≤ 65536) (hb : bs.length ≤ 65536) : match rdAll bs n np nb with
    | .inl x => 1 ≤ x.1 ∧ x.1 ≤ 8 ∧ x.2 ≤ 65536
    | .inr x => (∀ v ∈ x.2.1, VTok (n + x.2.1.length) x.2.2.1 v) ∧ np ≤ x.2.2.1 ∧ n + x.2.1.length ≤ 3000 ∧ x.2.2.1 ≤ 6000 ∧ x.2.2.2 ≤ 65536 ∧ x.1 < n + x.2.1.length := by
  have hok : OKs n np nb [] := ⟨h1, h2, h3, Nat.zero_le _, fun j hj => absurd hj List.not_mem_nil⟩
  have a1 := rdV_ok (bs := bs) 24 0 n np nb [] hok
  have a2 := rdV_bad (bs := bs) 24 0 n np nb [] hok (Nat.zero_le _)
  have a3 := rdV_vn (bs := bs) 24 0 n np nb [] hok
  rw [rdAll]
  rcases hr : rdV bs 24 0 n np nb [] with x | ⟨v, e, new, np2, nb2, gs2⟩
  · rw [hr] at a2
    obtain ⟨b1, b2, b3⟩ := a2
    dsimp only
    exact ⟨b1, b2, by omega⟩
  · rw [hr] at a1 a3
    obtain ⟨b1, b2, b3, b4⟩ := a1
    obtain ⟨c1, c2⟩ := a3
    dsimp only at b1 b2 b3 b4 c1 c2 ⊢
    by_cases q : e < bs.length
    · rw [if_pos q]
      dsimp only
      omega
    · rw [if_neg q]
      dsimp only
      exact ⟨c1, c2, b1.1, b1.2.1, b1.2.2.1, b2⟩
/-! packing: lengths, and less room -/
theorem wr_le {m : Nat} {st : Option (List UInt8)} {bs p : List UInt8} (h : wr m st bs = some p) : p.length ≤ m := by
  rcases st with _ | q
  · cases h
  · unfold wr at h
    dsimp only at h
    split at h
    · cases h
      rw [List.length_append]
      assumption
    · cases h
/-- with less room: the same, or nothing -/
def LIM (m : Nat) (a b : PS) : Prop := match b.1 with
  | none => a.1 = none
  | some q => (q.length ≤ m → a = b) ∧ (m < q.length → a.1 = none)
def GRW (a b : PS) : Prop := ∀ q, b.1 = some q → ∃ p, a.1 = some p ∧ p.length ≤ q.length
theorem GRW.refl (a : PS) : GRW a a := fun q h => ⟨q, h, Nat.le_refl _⟩
theorem GRW.trans {a b c : PS} (h : GRW a b) (h2 : GRW b c) : GRW a c := fun q hq => by
  obtain ⟨p, e, l⟩ := h2 q hq
  obtain ⟨p2, e2, l2⟩ := h p e
  exact ⟨p2, e2, Nat.le_trans l2 l⟩
theorem wr_grw {m : Nat} {st : Option (List UInt8)} {bs : List UInt8} {c c2 : List Nat} : GRW (st, c) (wr m st bs, c2) := fun q h => by
  rcases st with _ | p
  · cases h
  · have h9 : wr m (some p) bs = some q := h
    unfold wr at h9
    dsimp only at h9
    split at h9
    · cases h9
      exact ⟨p, rfl, by rw [List.length_append]; exact Nat.le_add_right _ _⟩
    · cases h9
theorem pkMany_grw {rd : Nat → PS → PS} (h : ∀ p s, GRW s (rd p s)) : ∀ (ps : List Nat) (s : PS), GRW s (pkMany rd ps s)
  | [], s => GRW.refl s
  | p :: ps, s => by
    rw [pkMany]
    split
    · exact GRW.refl s
    · exact (h p s).trans (pkMany_grw h ps _)
theorem pkOne_grw {sub : Option (Nat → PS → PS)} {us : List VT} {m : Nat} (h : ∀ rd, sub = some rd → ∀ p s, GRW s (rd p s)) (j : Nat) (s : PS) : GRW s (pkOne sub us m j s) := by
  obtain ⟨st, c⟩ := s
  unfold pkOne
  split
  · exact wr_grw
  split
  · rcases sub with _ | rd
    · exact fun q hq => by cases hq
    · exact GRW.trans wr_grw (pkMany_grw (h rd rfl) _ _)
  · exact wr_grw
theorem pkV_grw {us : List VT} {m : Nat} : ∀ f j s, GRW s (pkV us m f j s)
  | 0, j, s => pkOne_grw (fun _ e => by cases e) j s
  | f + 1, j, s => pkOne_grw (fun rd e => by
      cases e
      exact pkV_grw f) j s
theorem lim_none {m : Nat} {a b : PS} (h : a.1 = none) (hb : ∀ q, b.1 = some q → m < q.length) : LIM m a b := by
  unfold LIM
  split
  · exact h
  · rename_i q hq
    have := hb q hq
    exact ⟨fun q2 => by omega, fun _ => h⟩
theorem wr_lim {m M : Nat} (hm : m ≤ M) {a b : PS} (h : LIM m a b) (bs : List UInt8) (f : List Nat → List Nat) : LIM m (wr m a.1 bs, f a.2) (wr M b.1 bs, f b.2) := by
  obtain ⟨b1, b2⟩ := b
  obtain ⟨a1, a2⟩ := a
  rcases b1 with _ | q
  · have e : a1 = none := h
    subst e
    exact rfl
  · obtain ⟨h1, h2⟩ := h
    dsimp only at h1 h2 ⊢
    by_cases hq : q.length ≤ m
    · have e := h1 hq
      cases e
      by_cases q1 : q.length + bs.length ≤ m
      · have e1 : wr m (some q) bs = some (q ++ bs) := if_pos q1
        have e2 : wr M (some q) bs = some (q ++ bs) := if_pos (by omega)
        rw [e1, e2]
        exact ⟨fun _ => rfl, fun q2 => by rw [List.length_append] at q2; omega⟩
      · have e1 : wr m (some q) bs = none := if_neg q1
        rw [e1]
        refine lim_none rfl (fun q9 h9 => ?_)
        have h8 : wr M (some q) bs = some q9 := h9
        unfold wr at h8
        dsimp only at h8
        split at h8
        · cases h8
          rw [List.length_append]
          omega
        · cases h8
    · have e := h2 (by omega)
      subst e
      refine lim_none rfl (fun q9 h9 => ?_)
      obtain ⟨p, e3, e4⟩ := wr_grw (m := M) (st := some q) (bs := bs) (c := b2) (c2 := f b2) q9 h9
      cases e3
      omega
theorem lim_some {m : Nat} {a b : PS} {q : List UInt8} (h : LIM m a b) (ha : a.1 = some q) : a = b := by
  unfold LIM at h
  split at h
  · rw [h] at ha
    cases ha
  · rename_i q2 h2
    by_cases hq : q2.length ≤ m
    · exact h.1 hq
    · have := h.2 (by omega)
      rw [this] at ha
      cases ha
theorem lim_big {m : Nat} {a b : PS} (h : LIM m a b) (ha : a.1 = none) : ∀ q, b.1 = some q → m < q.length := by
  intro q hq
  unfold LIM at h
  rw [hq] at h
  dsimp only at h
  by_cases h9 : q.length ≤ m
  · have := h.1 h9
    rw [this, hq] at ha
    cases ha
  · omega
theorem pkMany_lim {m : Nat} {r1 r2 : Nat → PS → PS} (h0 : ∀ p c, (r1 p (none, c)).1 = none) (hg : ∀ p s, GRW s (r2 p s)) (h : ∀ p a b, LIM m a b → LIM m (r1 p a) (r2 p b)) : ∀ (ps : List Nat) (a b : PS), LIM m a b → LIM m (pkMany r1 ps a) (pkMany r2 ps b)
  | [], a, b, hl => hl
  | p :: ps, a, b, hl => by
    rw [pkMany, pkMany]
    rcases ha : a.1 with _ | q
    · dsimp only
      refine lim_none ha (fun q9 h9 => ?_)
      have hb := lim_big hl ha
      rcases hb1 : b.1 with _ | q2
      · rw [hb1] at h9
        dsimp only at h9
        rw [hb1] at h9
        cases h9
      · rw [hb1] at h9
        dsimp only at h9
        obtain ⟨p2, e2, l2⟩ := ((hg p b).trans (pkMany_grw hg ps _)) q9 h9
        have := hb p2 e2
        omega
    · have e := lim_some hl ha
      subst e
      rw [ha]
      dsimp only
      exact pkMany_lim h0 hg h ps _ _ (h p _ _ hl)
theorem pkMany_n {rd : Nat → PS → PS} {a : PS} (h : a.1 = none) : ∀ ps : List Nat, (pkMany rd ps a).1 = none
  | [] => h
  | _ :: _ => by rw [pkMany, h]; exact h
theorem pkOne_n {sub : Option (Nat → PS → PS)} {us : List VT} {m : Nat} (j : Nat) (c : List Nat) : (pkOne sub us m j (none, c)).1 = none := by
  unfold pkOne
  split
  · rfl
  split
  · rcases sub with _ | rd
    · rfl
    · exact pkMany_n rfl _
  · rfl
theorem pkV_n {us : List VT} {m : Nat} : ∀ f j c, (pkV us m f j (none, c)).1 = none
  | 0, j, c => pkOne_n j c
  | _ + 1, j, c => pkOne_n j c
theorem pkOne_lim {s1 s2 : Option (Nat → PS → PS)} {us : List VT} {m M : Nat} (hm : m ≤ M) (hs : (s1 = none ∧ s2 = none) ∨ ∃ r1 r2, s1 = some r1 ∧ s2 = some r2 ∧ (∀ p c, (r1 p (none, c)).1 = none) ∧ (∀ p s, GRW s (r2 p s)) ∧ ∀ p a b, LIM m a b → LIM m (r1 p a) (r2 p b)) (j : Nat) (a b : PS) (hl : LIM m a b) : LIM m (pkOne s1 us m j a) (pkOne s2 us M j b) := by
  rcases ha : a.1 with _ | q
  · have hb := lim_big hl ha
    refine lim_none ?_ (fun q9 h9 => ?_)
    · obtain ⟨a1, a2⟩ := a
      dsimp only at ha
      subst ha
      exact pkOne_n j a2
    · have hg : GRW b (pkOne s2 us M j b) := by
        refine pkOne_grw (fun rd e => ?_) j b
        rcases hs with ⟨-, e2⟩ | ⟨r1, r2, -, e2, -, hg, -⟩
        · rw [e2] at e
          cases e
        · rw [e2] at e
          cases e
          exact hg
      obtain ⟨p2, e2, l2⟩ := hg q9 h9
      have := hb p2 e2
      omega
  · have e := lim_some hl ha
    subst e
    unfold pkOne
    split
    · exact wr_lim hm hl _ (fun c => c)
    split
    · rcases hs with ⟨e1, e2⟩ | ⟨r1, r2, e1, e2, h0, hg, h⟩
      · rw [e1, e2]
        exact rfl
      · rw [e1, e2]
        exact pkMany_lim h0 hg h _ _ _ (wr_lim hm hl _ (fun c => c ++ [j]))
    · exact wr_lim hm hl _ (fun c => c)
theorem pkV_lim {us : List VT} {m M : Nat} (hm : m ≤ M) : ∀ f j a b, LIM m a b → LIM m (pkV us m f j a) (pkV us M f j b)
  | 0, j, a, b, h => pkOne_lim hm (Or.inl ⟨rfl, rfl⟩) j a b h
  | f + 1, j, a, b, h => pkOne_lim hm (Or.inr ⟨_, _, rfl, rfl, pkV_n f, pkV_grw f, pkV_lim hm f⟩) j a b h
theorem packU_lim {us : List VT} {m M j : Nat} (hm : m ≤ M) {p : List UInt8} (hp : p.length ≤ m) : packU us m j = some p ↔ packU us M j = some p := by
  have h := pkV_lim (us := us) hm 24 j (some [], []) (some [], []) ⟨fun _ => rfl, fun q => absurd q (Nat.not_lt_zero _)⟩
  unfold packU
  constructor
  · intro h1
    rw [← lim_some h h1]
    exact h1
  · intro h1
    unfold LIM at h
    rw [h1] at h
    rw [h.1 hp]
    exact h1
theorem packU_len {us : List VT} {m j : Nat} {p : List UInt8} (h : packU us m j = some p) : p.length ≤ m := by
  have h1 : ∀ f j (s : PS), (∀ q, s.1 = some q → q.length ≤ m) → ∀ q, (pkV us m f j s).1 = some q → q.length ≤ m := by
    have many : ∀ rd : Nat → PS → PS, (∀ p (s : PS), (∀ q, s.1 = some q → q.length ≤ m) → ∀ q, (rd p s).1 = some q → q.length ≤ m) → ∀ (ps : List Nat) (s : PS), (∀ q, s.1 = some q → q.length ≤ m) → ∀ q, (pkMany rd ps s).1 = some q → q.length ≤ m := by
      intro rd hrd ps
      induction ps with
      | nil => exact fun s hs => hs
      | cons p ps ih =>
        intro s hs
        rw [pkMany]
        split
        · exact hs
        · exact ih _ (hrd p s hs)
    have one : ∀ sub : Option (Nat → PS → PS), (∀ rd, sub = some rd → ∀ p (s : PS), (∀ q, s.1 = some q → q.length ≤ m) → ∀ q, (rd p s).1 = some q → q.length ≤ m) → ∀ j (s : PS), (∀ q, s.1 = some q → q.length ≤ m) → ∀ q, (pkOne sub us m j s).1 = some q → q.length ≤ m := by
      intro sub hsub j s hs
      unfold pkOne
      split
      · exact fun q hq => wr_le hq
      split
      · rcases sub with _ | rd
        · exact fun q hq => by cases hq
        · exact many rd (hsub rd rfl) _ _ (fun q hq => wr_le hq)
      · exact fun q hq => wr_le hq
    intro f
    induction f with
    | zero => exact one none (fun _ e => by cases e)
    | succ f ih => exact one _ (fun rd e => by cases e; exact ih)
  exact h1 24 j (some [], []) (fun q hq => by cases hq; exact Nat.zero_le _) p h

/-! the model's links: the latest first, (group, value) each -/
abbrev LK : Type := List (Nat × Nat)
def lkL : LK → Nat → Option Nat
  | [], _ => none
  | (h, _) :: R, i => if h = i then some R.length else lkL R i
def lkF : LK → Nat → Option Nat
  | [], _ => none
  | (h, _) :: R, i => match lkF R i with
    | some k => some k
    | none => if h = i then some R.length else none
def lkN : LK → Nat → Option Nat
  | [], _ => none
  | (h, _) :: R, k => if lkL R h = some k then some R.length else lkN R k
def lkV : LK → Nat → Nat
  | [], _ => 0
  | (_, v) :: R, k => if k = R.length then v else lkV R k
def lkO : LK → Nat → Nat
  | [], _ => 0
  | (h, _) :: R, k => if k = R.length then h else lkO R k
def lkP : LK → Nat → List Nat
  | [], _ => []
  | (h, v) :: R, i => if h = i then lkP R i ++ [v] else lkP R i
theorem lkL_lt : ∀ {R : LK} {i k : Nat}, lkL R i = some k → k < R.length ∧ lkO R k = i
  | (h, v) :: R, i, k, e => by
    rw [lkL] at e
    by_cases q : h = i
    · rw [if_pos q] at e
      cases e
      exact ⟨Nat.lt_succ_self _, by rw [lkO, if_pos rfl]; exact q⟩
    · rw [if_neg q] at e
      have h1 := lkL_lt e
      refine ⟨Nat.lt_succ_of_lt h1.1, ?_⟩
      rw [lkO, if_neg (by omega)]
      exact h1.2
theorem lkN_out : ∀ {R : LK} {k : Nat}, R.length ≤ k → lkN R k = none
  | [], _, _ => rfl
  | (h, v) :: R, k, hk => by
    have hk1 : R.length + 1 ≤ k := hk
    rw [lkN, if_neg (fun e => by have := (lkL_lt e).1; omega)]
    exact lkN_out (by omega)
theorem lkN_iff : ∀ {R : LK} {k : Nat}, k < R.length → (lkN R k = none ↔ lkL R (lkO R k) = some k)
  | (h, v) :: R, k, hk => by
    have hk1 : k < R.length + 1 := hk
    by_cases q : k = R.length
    · subst q
      rw [lkO, if_pos rfl, lkL, if_pos rfl, lkN, if_neg (fun e => by have := (lkL_lt e).1; omega), lkN_out (Nat.le_refl _)]
      exact ⟨fun _ => rfl, fun _ => rfl⟩
    · have h1 := lkN_iff (R := R) (k := k) (by omega)
      rw [lkO, if_neg q, lkN, lkL]
      by_cases q1 : h = lkO R k
      · rw [if_pos q1]
        subst q1
        by_cases q2 : lkL R (lkO R k) = some k
        · rw [if_pos q2]
          exact ⟨fun e => (by cases e), fun e => (by cases e; exact absurd rfl q)⟩
        · rw [if_neg q2]
          exact ⟨fun e => absurd (h1.mp e) q2, fun e => (by cases e; exact absurd rfl q)⟩
      · rw [if_neg q1, if_neg (fun e => q1 (lkL_lt e).2.symm)]
        exact h1
theorem lkF_none : ∀ {R : LK} {i : Nat}, lkF R i = none ↔ lkL R i = none
  | [], _ => ⟨fun _ => rfl, fun _ => rfl⟩
  | (h, v) :: R, i => by
    have h1 := lkF_none (R := R) (i := i)
    rw [lkF, lkL]
    by_cases q : h = i
    · rw [if_pos q, if_pos q]
      rcases hf : lkF R i with _ | k
      · exact ⟨fun e => (by cases e), fun e => (by cases e)⟩
      · exact ⟨fun e => (by cases e), fun e => (by cases e)⟩
    · rw [if_neg q, if_neg q]
      rcases hf : lkF R i with _ | k
      · rw [hf] at h1
        exact h1
      · rw [hf] at h1
        exact h1
/-- from a link on, the values of a group -/
def Chn (R : LK) (i : Nat) : Option Nat → List Nat → Prop
  | none, [] => True
  | some k, p :: ps => k < R.length ∧ lkO R k = i ∧ lkV R k = p ∧ Chn R i (lkN R k) ps
  | none, _ :: _ => False
  | some _, [] => False
theorem chn_other {R : LK} {h v i : Nat} (hi : ¬ h = i) : ∀ {ps : List Nat} {o : Option Nat}, Chn R i o ps → Chn ((h, v) :: R) i o ps
  | [], none, _ => trivial
  | [], some _, e => e.elim
  | _ :: _, none, e => e.elim
  | p :: ps, some k, ⟨h1, h2, h3, h4⟩ => by
    refine ⟨Nat.lt_succ_of_lt h1, ?_, ?_, ?_⟩
    · rw [lkO, if_neg (by omega)]
      exact h2
    · rw [lkV, if_neg (by omega)]
      exact h3
    · rw [lkN, if_neg (fun e => hi ((lkL_lt e).2.symm.trans h2))]
      exact chn_other hi h4
theorem chn_push {R : LK} {v i : Nat} : ∀ {ps : List Nat} {k : Nat}, Chn R i (some k) ps → Chn ((i, v) :: R) i (some k) (ps ++ [v])
  | p :: ps, k, ⟨h1, h2, h3, h4⟩ => by
    refine ⟨Nat.lt_succ_of_lt h1, ?_, ?_, ?_⟩
    · rw [lkO, if_neg (by omega)]
      exact h2
    · rw [lkV, if_neg (by omega)]
      exact h3
    · have hn := lkN_iff h1
      rw [h2] at hn
      rw [lkN]
      by_cases q : lkL R i = some k
      · rw [if_pos q]
        rw [hn.mpr q] at h4
        rcases ps with _ | ⟨p2, ps⟩
        · refine ⟨Nat.lt_succ_self _, ?_, ?_, ?_⟩
          · rw [lkO, if_pos rfl]
          · rw [lkV, if_pos rfl]
          · rw [lkN, if_neg (fun e => by have := (lkL_lt e).1; omega), lkN_out (Nat.le_refl _)]
            trivial
        · exact h4.elim
      · rw [if_neg q]
        rcases hk : lkN R k with _ | k2
        · exact absurd (hn.mp hk) q
        · rw [hk] at h4
          exact chn_push h4
theorem chn_all : ∀ (R : LK) (i : Nat), Chn R i (lkF R i) (lkP R i)
  | [], _ => trivial
  | (h, v) :: R, i => by
    have h1 := chn_all R i
    rw [lkF, lkP]
    by_cases q : h = i
    · rw [if_pos q, if_pos q]
      rcases hf : lkF R i with _ | k
      · rw [hf] at h1
        rcases hp : lkP R i with _ | ⟨p, ps⟩
        · dsimp only
          refine ⟨Nat.lt_succ_self _, ?_, ?_, ?_⟩
          · rw [lkO, if_pos rfl]
            exact q
          · rw [lkV, if_pos rfl]
          · rw [lkN, if_neg (fun e => by have := (lkL_lt e).1; omega), lkN_out (Nat.le_refl _)]
            trivial
        · rw [hp] at h1
          exact h1.elim
      · rw [hf] at h1
        subst q
        exact chn_push h1
    · rw [if_neg q, if_neg q]
      rcases hf : lkF R i with _ | k
      · dsimp only
        rw [hf] at h1
        exact chn_other q h1
      · rw [hf] at h1
        exact chn_other q h1
/-- owners below n -/
def OWN (R : LK) (n : Nat) : Prop := ∀ x ∈ R, x.1 < n
theorem OWN.more {R : LK} {n n2 : Nat} (h : OWN R n) (h2 : n ≤ n2) : OWN R n2 := fun x hx => Nat.lt_of_lt_of_le (h x hx) h2
theorem OWN.push {R : LK} {n i v : Nat} (h : OWN R n) (hi : i < n) : OWN ((i, v) :: R) n := fun x hx => by
  rcases List.mem_cons.mp hx with q | q
  · rw [q]
    exact hi
  · exact h x q
theorem lkL_big : ∀ {R : LK} {n i : Nat}, OWN R n → n ≤ i → lkL R i = none
  | [], _, _, _, _ => rfl
  | (h, v) :: R, n, i, ho, hi => by
    have h1 := ho (h, v) List.mem_cons_self
    dsimp only at h1
    rw [lkL, if_neg (by omega)]
    exact lkL_big (fun x hx => ho x (List.mem_cons_of_mem _ hx)) hi
theorem lkP_big : ∀ {R : LK} {n i : Nat}, OWN R n → n ≤ i → lkP R i = []
  | [], _, _, _, _ => rfl
  | (h, v) :: R, n, i, ho, hi => by
    have h1 := ho (h, v) List.mem_cons_self
    dsimp only at h1
    rw [lkP, if_neg (by omega)]
    exact lkP_big (fun x hx => ho x (List.mem_cons_of_mem _ hx)) hi
theorem lkF_big {R : LK} {n i : Nat} (h : OWN R n) (hi : n ≤ i) : lkF R i = none := lkF_none.mpr (lkL_big h hi)
/-- what came later belongs to groups that came later: all before stands -/
theorem lk_old {R : LK} {n : Nat} (hR : OWN R n) : ∀ {ext : LK}, (∀ x ∈ ext, n ≤ x.1) → (∀ k, k < R.length → lkN (ext ++ R) k = lkN R k ∧ lkV (ext ++ R) k = lkV R k) ∧ ∀ i, i < n → lkF (ext ++ R) i = lkF R i ∧ lkL (ext ++ R) i = lkL R i ∧ lkP (ext ++ R) i = lkP R i
  | [], _ => ⟨fun _ _ => ⟨rfl, rfl⟩, fun _ _ => ⟨rfl, rfl, rfl⟩⟩
  | (h, v) :: ext, he => by
    have h1 := lk_old hR (ext := ext) (fun x hx => he x (List.mem_cons_of_mem _ hx))
    have h2 := he (h, v) List.mem_cons_self
    dsimp only at h2
    have big : ∀ (e2 : LK), (∀ x ∈ e2, n ≤ x.1) → ∀ k, lkL (e2 ++ R) h = some k → R.length ≤ k := by
      intro e2
      induction e2 with
      | nil =>
        intro _ k e
        rw [List.nil_append, lkL_big hR h2] at e
        cases e
      | cons y e2 ih =>
        intro hy k e
        obtain ⟨y1, y2⟩ := y
        rw [List.cons_append, lkL] at e
        by_cases q : y1 = h
        · rw [if_pos q] at e
          cases e
          rw [List.length_append]
          exact Nat.le_add_left _ _
        · rw [if_neg q] at e
          exact ih (fun x hx => hy x (List.mem_cons_of_mem _ hx)) k e
    refine ⟨fun k hk => ?_, fun i hi => ?_⟩
    · rw [List.cons_append, lkN, lkV, if_neg (fun e => by have := big ext (fun x hx => he x (List.mem_cons_of_mem _ hx)) k e; omega), if_neg (by rw [List.length_append]; omega)]
      exact h1.1 k hk
    · obtain ⟨a1, a2, a3⟩ := h1.2 i hi
      rw [List.cons_append, lkF, lkL, lkP, if_neg (show ¬ h = i by omega), if_neg (show ¬ h = i by omega), if_neg (show ¬ h = i by omega), a1, a2, a3]
      refine ⟨?_, rfl, rfl⟩
      rcases lkF R i with _ | k
      · rfl
      · rfl

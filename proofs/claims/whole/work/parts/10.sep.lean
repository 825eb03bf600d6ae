/-! parts of a world, side by side; own work -/
abbrev Asn : Type := va_W → Prop
def star (P Q : Asn) : Asn := fun w => ∃ w1 w2 : va_W, w.Perm (w1 ++ w2) ∧ P w1 ∧ Q w2
def emp : Asn := fun w => w = []
def pt (a : Nat) (e : va_E) : Asn := fun w => w = [(a, e)]
def sepL : List Asn → Asn
  | [] => emp
  | P :: L => star P (sepL L)
theorem star_perm {P Q : Asn} {w w' : va_W} (h : w'.Perm w) (s : star P Q w) : star P Q w' := by
  obtain ⟨w1, w2, hp, h1, h2⟩ := s
  exact ⟨w1, w2, h.trans hp, h1, h2⟩
theorem sepL_perm {L : List Asn} {w w' : va_W} (h : w'.Perm w) (s : sepL L w) : sepL L w' := by
  cases L with
  | nil =>
    have : w = [] := s
    subst this
    exact List.perm_nil.mp h
  | cons P L => exact star_perm h s
/-- P lies among the parts; the rest is ws' -/
def Pick (ws : List Asn) (P : Asn) (ws' : List Asn) : Prop := ∀ w, sepL ws w → star P (sepL ws') w
theorem pick_0 {P : Asn} {L : List Asn} : Pick (P :: L) P L := fun _ h => h
theorem perm_swap3 {a b c : va_W} : (a ++ (b ++ c)).Perm (b ++ (a ++ c)) := by
  rw [← List.append_assoc, ← List.append_assoc]
  exact List.perm_append_comm.append_right c
theorem pick_s {P R : Asn} {L L' : List Asn} (h : Pick L P L') : Pick (R :: L) P (R :: L') := by
  rintro w ⟨w1, w2, hp, h1, h2⟩
  obtain ⟨u1, u2, hq, g1, g2⟩ := h w2 h2
  refine ⟨u1, w1 ++ u2, ?_, g1, ⟨w1, u2, List.Perm.refl _, h1, g2⟩⟩
  exact hp.trans ((hq.append_left w1).trans perm_swap3)
def Sel (ws pre fr : List Asn) : Prop := ∀ w, sepL ws w → star (sepL pre) (sepL fr) w
theorem sel_0 {ws : List Asn} : Sel ws [] ws := fun w h => ⟨[], w, List.Perm.refl _, rfl, h⟩
theorem sel_s {ws ws1 L fr : List Asn} {P : Asn} (h : Pick ws P ws1) (g : Sel ws1 L fr) : Sel ws (P :: L) fr := by
  intro w hw
  obtain ⟨w1, w2, hp, h1, h2⟩ := h w hw
  obtain ⟨u1, u2, hq, g1, g2⟩ := g w2 h2
  refine ⟨w1 ++ u1, u2, ?_, ⟨w1, u1, List.Perm.refl _, h1, g1⟩, g2⟩
  rw [List.append_assoc]
  exact hp.trans (hq.append_left w1)
theorem sel_refl {ws : List Asn} : Sel ws ws [] := fun w h => ⟨w, [], by rw [List.append_nil], h, rfl⟩
theorem sepL_join : ∀ {A B : List Asn} {w : va_W}, star (sepL A) (sepL B) w → sepL (A ++ B) w
  | [], B, w, h => by
    obtain ⟨w1, w2, hp, h1, h2⟩ := h
    have : w1 = [] := h1
    subst this
    exact sepL_perm hp h2
  | P :: A, B, w, h => by
    obtain ⟨w1, w2, hp, ⟨u1, u2, hq, g1, g2⟩, h2⟩ := h
    refine ⟨u1, u2 ++ w2, ?_, g1, sepL_join ⟨u2, w2, List.Perm.refl _, g2, h2⟩⟩
    rw [← List.append_assoc]
    exact hp.trans (hq.append_right w2)
theorem sepL_split : ∀ {A B : List Asn} {w : va_W}, sepL (A ++ B) w → star (sepL A) (sepL B) w
  | [], B, w, h => ⟨[], w, List.Perm.refl _, rfl, h⟩
  | P :: A, B, w, h => by
    obtain ⟨w1, w2, hp, h1, h2⟩ := h
    obtain ⟨u1, u2, hq, g1, g2⟩ := sepL_split h2
    refine ⟨w1 ++ u1, u2, ?_, ⟨w1, u1, List.Perm.refl _, h1, g1⟩, g2⟩
    rw [List.append_assoc]
    exact hp.trans (hq.append_left w1)
theorem star_comm {P Q : Asn} {w : va_W} (h : star P Q w) : star Q P w := by
  obtain ⟨w1, w2, hp, h1, h2⟩ := h
  exact ⟨w2, w1, hp.trans List.perm_append_comm, h2, h1⟩
/-- a frame kept as one part -/
theorem sepL_pack {A fr : List Asn} {w : va_W} (h : star (sepL A) (sepL fr) w) : sepL (A ++ [sepL fr]) w := by
  refine sepL_join ?_
  obtain ⟨w1, w2, hp, h1, h2⟩ := h
  exact ⟨w1, w2, hp, h1, ⟨w2, [], by rw [List.append_nil], h2, rfl⟩⟩
theorem sepL_unpack {A fr : List Asn} {w : va_W} (h : sepL (A ++ [sepL fr]) w) : sepL (A ++ fr) w := by
  obtain ⟨w1, w2, hp, h1, ⟨u1, u2, hq, g1, g2⟩⟩ := sepL_split h
  have : u2 = [] := g2
  subst this
  rw [List.append_nil] at hq
  exact sepL_join ⟨w1, w2, hp, h1, sepL_perm hq g1⟩
/-- a part opened -/
theorem sepL_open {ws ws1 qs : List Asn} {P : Asn} {w : va_W} (h : Pick ws P ws1) (hP : ∀ u, P u → sepL qs u) (hw : sepL ws w) : sepL (qs ++ ws1) w := by
  obtain ⟨w1, w2, hp, h1, h2⟩ := h w hw
  exact sepL_join ⟨w1, w2, hp, hP w1 h1, h2⟩
theorem pick_mem {ws ws1 : List Asn} {a : Nat} {e : va_E} {w : va_W} (h : Pick ws (pt a e) ws1) (hw : sepL ws w) : (a, e) ∈ w := by
  obtain ⟨w1, w2, hp, h1, h2⟩ := h w hw
  have : w1 = [(a, e)] := h1
  subst this
  exact hp.symm.subset (by simp)
/-- a thing of the world, by its place, and what stays when it is written -/
theorem pick_at {ws ws1 : List Asn} {a : Nat} {e : va_E} {w : va_W} (h : Pick ws (pt a e) ws1) (hw : sepL ws w) : ∃ q : Nat, w[q]? = some (a, e) ∧ ∀ e', sepL (pt a e' :: ws1) (w.set q (a, e')) := by
  obtain ⟨w1, w2, hp, h1, h2⟩ := h w hw
  have : w1 = [(a, e)] := h1
  subst this
  obtain ⟨l1, l2, rfl⟩ := List.append_of_mem (hp.symm.subset (show (a, e) ∈ [(a, e)] ++ w2 by simp))
  refine ⟨l1.length, by simp, fun e' => ?_⟩
  have h3 : (l1 ++ (a, e) :: l2).Perm ((a, e) :: (l1 ++ l2)) := List.perm_middle
  have h4 : (l1 ++ l2).Perm w2 := (h3.symm.trans hp).cons_inv
  refine ⟨[(a, e')], w2, ?_, rfl, h2⟩
  have h5 : (l1 ++ (a, e) :: l2).set l1.length (a, e') = l1 ++ (a, e') :: l2 := by simp
  rw [h5]
  exact List.perm_middle.trans (h4.cons _)
theorem sepL_new {ws : List Asn} {a : Nat} {e : va_E} {w : va_W} (hw : sepL ws w) : sepL (pt a e :: ws) (w ++ [(a, e)]) :=
  ⟨[(a, e)], w, List.perm_append_comm, rfl, hw⟩
/-- a smaller world -/
theorem va_P.perm {D : va_G} {cl : List vw_C} {w w' : va_W} {H : Heap} (h : va_P D cl w H) (hs : ∀ q, q ∈ w' → q ∈ w) : va_P D cl w' H := by
  intro k q hk
  obtain ⟨i, hi⟩ := List.getElem?_of_mem (hs q (List.mem_of_getElem? hk))
  exact h i q hi
def va_Dm (A : Nat → Prop) (w : va_W) : Prop := w.Pairwise (fun p q => p.1 ≠ q.1) ∧ ∀ q ∈ w, A q.1
theorem va_Dm.D {A : Nat → Prop} {w : va_W} (h : va_Dm A w) : va_D A w := by
  refine ⟨fun i j p q hi hj hpq => ?_, fun k q hk => h.2 q (List.mem_of_getElem? hk)⟩
  obtain ⟨hi', e1⟩ := List.getElem?_eq_some_iff.mp hi
  obtain ⟨hj', e2⟩ := List.getElem?_eq_some_iff.mp hj
  have h1 := List.pairwise_iff_getElem.mp h.1
  rcases Nat.lt_trichotomy i j with hl | hl | hl
  · exact absurd (by rw [e1, e2]; exact hpq) (h1 i j hi' hj' hl)
  · exact hl
  · exact absurd (by rw [e1, e2]; exact hpq.symm) (h1 j i hj' hi' hl)
theorem va_Dm.of {A : Nat → Prop} {w : va_W} (h : va_D A w) : va_Dm A w := by
  refine ⟨List.pairwise_iff_getElem.mpr fun i j hi hj hl e => ?_, fun q hq => ?_⟩
  · exact absurd (h.1 i j _ _ (List.getElem?_eq_getElem hi) (List.getElem?_eq_getElem hj) e) (by omega)
  · obtain ⟨k, hk⟩ := List.getElem?_of_mem hq
    exact h.2 k q hk
theorem va_Dm.perm {A : Nat → Prop} {w w' : va_W} (h : va_Dm A w) (hp : w.Perm w') : va_Dm A w' := ⟨hp.pairwise h.1 (fun e => Ne.symm e), fun q hq => h.2 q (hp.symm.subset hq)⟩
theorem va_Dm.left {A : Nat → Prop} {w1 w2 : va_W} (h : va_Dm A (w1 ++ w2)) : va_Dm A w1 := ⟨(List.pairwise_append.mp h.1).1, fun q hq => h.2 q (List.mem_append_left _ hq)⟩
theorem star_D {A : Nat → Prop} {D : va_G} {cl : List vw_C} {P Q : Asn} {w : va_W} {H : Heap} (h : star P Q w) (hP : va_P D cl w H) (hD : va_D A w) : ∃ w1, va_P D cl w1 H ∧ va_D A w1 ∧ P w1 := by
  obtain ⟨w1, w2, hp, h1, h2⟩ := h
  exact ⟨w1, hP.perm (fun q hq => hp.symm.subset (List.mem_append_left _ hq)), ((va_Dm.of hD).perm hp).left.D, h1⟩

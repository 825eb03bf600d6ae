/-! the steps keep the state well -/
theorem aok_push {t us out np nb cd pl t2 nb2} {v : VT} (h : AOk (t, us, np, nb, out, cd, pl)) (hv : VTok (us.length + 1) np v) (h3 : us.length < 3000) (ht : t2.length ≤ 65536) (hb : nb2 ≤ 65536) : AOk (t2, us ++ [v], np, nb2, out, cd, pl) := by
  obtain ⟨a1, a2, a3, a4, a5, a6, a7, a8⟩ := h
  dsimp only at a1 a2 a3 a4 a5 a6 a7 a8
  refine ⟨ht, by show (us ++ [v]).length ≤ 3000; rw [List.length_append, List.length_singleton]; omega, a3, hb, a5, a6, a7, fun u hu => ?_⟩
  show VTok (us ++ [v]).length np u
  rw [List.length_append, List.length_singleton]
  rcases List.mem_append.mp hu with q | q
  · exact (a8 u q).more (Nat.le_succ _) (Nat.le_refl _)
  · rw [List.mem_singleton.mp q]
    exact hv
theorem sKeep_ok {S : AS} {kd cde : Nat} {nm : Int64} {dt : Int32} (h : AOk S) (hk : kd ≤ 10) (h2 : kd = 10 → ∃ m, m ≤ 999999999 ∧ dt = nI m) (h3 : ¬ (kd = 1 ∨ kd = 2 ∨ kd = 9 ∨ kd = 10) → dt = 0) (h4 : kd = 2 → dt = 0 ∨ dt = 1) : AOk (sKeep kd nm dt cde S).2.2 := by
  obtain ⟨t, us, np, nb, out, cd, pl⟩ := S
  unfold sKeep
  dsimp only
  split
  · rename_i q
    exact aok_push h ⟨hk, Nat.zero_le _, Nat.zero_le _, fun p hp => absurd hp List.not_mem_nil, fun _ => rfl, fun _ => rfl, fun _ => rfl, h2, h3, h4⟩ q h.1 h.2.2.2.1
  · exact h
theorem sTape_ok {S : AS} {kd : Nat} {dt : Int32} (h : AOk S) (hk : kd = 5 ∨ kd = 6 ∨ kd = 9) (h3 : ¬ kd = 9 → dt = 0) : AOk (sTape kd dt S).2.2 := by
  obtain ⟨t, us, np, nb, out, cd, pl⟩ := S
  unfold sTape
  dsimp only
  split
  · rename_i q
    exact aok_push h ⟨by show kd ≤ 10; omega, h.1, Nat.zero_le _, fun p hp => absurd hp List.not_mem_nil, fun q2 => absurd hk q2, fun _ => rfl, fun _ => rfl, fun q2 => by have q3 : kd = 10 := q2; omega, fun q2 => h3 (fun q3 => q2 (Or.inr (Or.inr (Or.inl q3)))), fun q2 => by have q3 : kd = 2 := q2; omega⟩ q.1 (Nat.zero_le _) q.2
  · exact h
theorem inB_lt {x : Int32} {n : Nat} (hn : n < 2 ^ 31) (h : inB x n = true) : x.toNatClampNeg < n ∧ x = nI x.toNatClampNeg := by
  obtain ⟨j, h1, rfl⟩ := inB_t hn h
  rw [nI_clamp (by omega)]
  exact ⟨h1, rfl⟩
theorem aok_set {t us out np nb cd pl np2} {j : Nat} {v : VT} (h : AOk (t, us, np, nb, out, cd, pl)) (hv : VTok us.length np2 v) (h1 : np ≤ np2) (h2 : np2 ≤ 6000) : AOk (t, us.set j v, np2, nb, out, cd, pl) := by
  obtain ⟨a1, a2, a3, a4, a5, a6, a7, a8⟩ := h
  dsimp only at a1 a2 a3 a4 a5 a6 a7 a8
  refine ⟨a1, by show (us.set j v).length ≤ 3000; rw [List.length_set]; exact a2, h2, a4, a5, a6, a7, fun u hu => ?_⟩
  show VTok (us.set j v).length np2 u
  rw [List.length_set]
  rcases List.mem_or_eq_of_mem_set hu with q | q
  · exact (a8 u q).more (Nat.le_refl _) h1
  · rw [q]
    exact hv
theorem aok_at {S : AS} (h : AOk S) {j : Nat} (hj : j < S.2.1.length) : VTok S.2.1.length S.2.2.1 (vAt S.2.1 j) := by
  refine h.2.2.2.2.2.2.2 _ ?_
  rw [vAt, List.getD_eq_getElem?_getD, List.getElem?_eq_getElem hj]
  exact List.getElem_mem hj
theorem sAdd_ok {S : AS} {l v : Int32} (h : AOk S) : AOk (sAdd l v S).2.2 := by
  have ha : ∀ j, j < S.2.1.length → _ := fun j hj => aok_at h hj
  obtain ⟨t, us, np, nb, out, cd, pl⟩ := S
  have hl3 : us.length ≤ 3000 := h.2.1
  unfold sAdd
  dsimp only at ha ⊢
  split
  · exact h
  split
  · exact h
  split
  · exact h
  rename_i q1 q2 q3
  have q4 : inB l us.length = true := Classical.byContradiction fun q => q1 (Or.inl q)
  have q5 : inB v us.length = true := Classical.byContradiction fun q => q1 (Or.inr q)
  have b1 := inB_lt (by omega) q4
  have b2 := inB_lt (by omega) q5
  have hk : (vAt us l.toNatClampNeg).1 = 7 := Classical.byContradiction q2
  have b3 : VTok us.length np (vAt us l.toNatClampNeg) := ha _ b1.1
  refine aok_set h ?_ (Nat.le_succ np) (by omega)
  obtain ⟨d1, d2, d3, d4, d5, d6, d7, d8, d9, d10⟩ := b3
  refine ⟨d1, d2, by show (_ ++ [v.toNatClampNeg]).length ≤ np + 1; rw [List.length_append, List.length_singleton]; omega, fun p hp => ?_, d5, fun q => absurd (Or.inl hk) q, fun q => ?_, d8, d9, d10⟩
  · rcases List.mem_append.mp hp with q | q
    · exact d4 p q
    · rw [List.mem_singleton.mp q]
      exact b2.1
  · have q9 : (vAt us l.toNatClampNeg).1 = 8 := q
    omega
theorem sPut_ok {S : AS} {l c v : Int32} (h : AOk S) : AOk (sPut l c v S).2.2 := by
  have ha : ∀ j, j < S.2.1.length → _ := fun j hj => aok_at h hj
  obtain ⟨t, us, np, nb, out, cd, pl⟩ := S
  have hl3 : us.length ≤ 3000 := h.2.1
  unfold sPut
  dsimp only at ha ⊢
  split
  · exact h
  split
  · exact h
  split
  · exact h
  rename_i q1 q2 q3
  have q4 : inB l us.length = true := Classical.byContradiction fun q => q1 (Or.inl q)
  have q5 : inB c us.length = true := Classical.byContradiction fun q => q1 (Or.inr (Or.inl q))
  have q6 : inB v us.length = true := Classical.byContradiction fun q => q1 (Or.inr (Or.inr q))
  have b1 := inB_lt (by omega) q4
  have b2 := inB_lt (by omega) q5
  have b4 := inB_lt (by omega) q6
  have hk : (vAt us l.toNatClampNeg).1 = 8 := Classical.byContradiction q2
  have b3 : VTok us.length np (vAt us l.toNatClampNeg) := ha _ b1.1
  refine aok_set h ?_ (show np ≤ np + 2 by omega) (by omega)
  obtain ⟨d1, d2, d3, d4, d5, d6, d7, d8, d9, d10⟩ := b3
  refine ⟨d1, d2, by show ((_ ++ [c.toNatClampNeg]) ++ [v.toNatClampNeg]).length ≤ np + 2; rw [List.length_append, List.length_append, List.length_singleton, List.length_singleton]; omega, fun p hp => ?_, d5, fun q => absurd (Or.inr hk) q, fun q => ?_, d8, d9, d10⟩
  · rcases List.mem_append.mp hp with q | q
    · rcases List.mem_append.mp q with q | q
      · exact d4 p q
      · rw [List.mem_singleton.mp q]
        exact b2.1
    · rw [List.mem_singleton.mp q]
      exact b4.1
  · show ((_ ++ [c.toNatClampNeg]) ++ [v.toNatClampNeg]).length % 2 = 0
    have := d7 hk
    rw [List.length_append, List.length_append, List.length_singleton, List.length_singleton]
    omega
theorem sFeed_ok {S : AS} {a b c d e : Int32} (h : AOk S) : AOk (sFeed a b c d e S).2.2 := by
  obtain ⟨t, us, np, nb, out, cd, pl⟩ := S
  unfold sFeed
  dsimp only
  split
  · refine ⟨?_, h.2⟩
    show (t ++ _).length ≤ 65536
    rw [List.length_append, List.length_append, List.length_append, List.length_append, List.length_append, beB_len, beB_len, beB_len, beB_len, beB_len]
    omega
  · exact h
theorem sEnd_ok {S : AS} {n : Int32} (h : AOk S) : AOk (sEnd n S).2.2 := by
  obtain ⟨t, us, np, nb, out, cd, pl⟩ := S
  unfold sEnd
  dsimp only
  split
  · refine ⟨?_, h.2⟩
    show (t.take _).length ≤ 65536
    have := h.1
    dsimp only at this
    rw [List.length_take]
    omega
  · exact h
theorem sUnpack_ok {S : AS} (h : AOk S) : AOk (sUnpack S).2.2 := by
  obtain ⟨t, us, np, nb, out, cd, pl⟩ := S
  obtain ⟨a1, a2, a3, a4, a5, a6, a7, a8⟩ := h
  dsimp only at a1 a2 a3 a4 a5 a6 a7 a8
  have hr := rdAll_ok (bs := t) a2 a3 a4 a1
  unfold sUnpack
  dsimp only
  rcases he : rdAll t us.length np nb with x | x
  · rw [he] at hr
    exact ⟨Nat.zero_le _, a2, a3, a4, a5, hr.2.1, hr.2.2, a8⟩
  · rw [he] at hr
    obtain ⟨b1, b2, b3, b4, b5, b6⟩ := hr
    refine ⟨Nat.zero_le _, by show (us ++ x.2.1).length ≤ 3000; rw [List.length_append]; exact b3, b4, b5, a5, Nat.zero_le _, Nat.zero_le _, fun v hv => ?_⟩
    show VTok (us ++ x.2.1).length x.2.2.1 v
    rw [List.length_append]
    rcases List.mem_append.mp hv with q | q
    · exact (a8 v q).more (Nat.le_add_right _ _) b2
    · exact b1 v q
theorem sPack_ok {S : AS} {v : Int32} (h : AOk S) : AOk (sPack v S).2.2 := by
  obtain ⟨t, us, np, nb, out, cd, pl⟩ := S
  obtain ⟨a1, a2, a3, a4, a5, a6, a7, a8⟩ := id h
  dsimp only at a1 a2 a3 a4 a5 a6 a7 a8
  unfold sPack
  dsimp only
  split
  · rcases he : packU us 65536 v.toNatClampNeg with _ | p
    · exact ⟨a1, a2, a3, a4, Nat.zero_le _, a6, a7, a8⟩
    · exact ⟨a1, a2, a3, a4, packU_len he, a6, a7, a8⟩
  · exact h
theorem sClear_ok {S : AS} (h : AOk S) : AOk (sClear S).2.2 := ⟨h.1, Nat.zero_le _, Nat.zero_le _, Nat.zero_le _, h.2.2.2.2.1, h.2.2.2.2.2.1, h.2.2.2.2.2.2.1, fun v hv => absurd hv List.not_mem_nil⟩
/-! what a method of the object keeps -/
def BND (P Q P' Q' L dc ds M N : Nat) : Prop := 320 * dc + P ≤ P' + 3200 + 800 * L ∧ ds + Q ≤ Q' + 50000 + 21 * L ∧ dc ≤ M ∧ ds ≤ N
def pgo (g : GT) (z : Nat → Nat) (x P Q L M N k : Nat) (v : Option Value) (S' : AS) : PoT := fun o dc ds ws' => ∃ P' Q', k = 0 ∧ o = v ∧ ws' = [PGA g z x S' P' Q'] ∧ BND P Q P' Q' L dc ds M N
def pgx (g : GT) (z : Nat → Nat) (x P Q L M N k : Nat) (S' : AS) (tab : List (String × Nat)) : PxT := fun En dc ds ws' => ∃ P' Q', (En, k) ∈ tab ∧ ws' = [PGA g z x S' P' Q'] ∧ BND P Q P' Q' L dc ds M N
abbrev exI : String := "java/lang/IndexOutOfBoundsException"
abbrev exA : String := "java/lang/IllegalArgumentException"
abbrev exU : String := "java/lang/UnsupportedOperationException"
abbrev exM : String := "java/lang/ArithmeticException"
section
variable {X : XT} {own : String} {cc : ByteArray} {nL d mc ms : Nat} {ws ws1 fr pre : List Asn} {k n pc : Nat} {lv : List (Option Value)} {E : String} {po : PoT} {px : PxT} {F : Asn} {ret : Option FieldType}
theorem jx_mono {ws' : List Asn} (h : ∀ w, sepL ws w → sepL ws' w) (kk : JX X nL ws' k n pc lv E) : JX X nL ws k n pc lv E := by
  obtain ⟨⟨l, s0, D, ca⟩, p, e, R, s, m, args, below, meth, c, Q⟩ := X
  intro H locs ls q ce rest hS hw hl h1 h2 h3
  exact kk H locs ls q ce rest hS (hw.mono h) hl h1 h2 h3
theorem jx_close {P : Asn} {qs : List Asn} (hs : Sel ws qs ws1) (hP : ∀ w, sepL qs w → P w) (kk : JX X nL (P :: ws1) k n pc lv E) : JX X nL ws k n pc lv E := by
  refine jx_mono (fun w h => ?_) kk
  obtain ⟨w1, w2, g1, g2, g3⟩ := hs w h
  exact ⟨w1, w2, g1, hP w1 g2, g3⟩
theorem pgax_close {z : Nat → Nat} {x : Nat} {tp vl rd ld gr e ou p1 m1 lf p2 m2 rt p3 m3 capT capV capG c1 k1 c2 k2 c3 k3 np nb cd pl : Nat} {tape out b2 b3 : List UInt8} {vs : List VE} (us : List VT) (hs : Sel ws [PGF x tp vl rd ou lf rt, ROW X.1 tp tape capT, VLS X.1 z vl vs np nb capV, RDR rd ld gr e (nI cd) (nI pl), LEAx ld, LST X.1 z gr [] capG, PCK X.1 z ou p1 m1 out c1 k1, PCK X.1 z lf p2 m2 b2 c2 k2, PCK X.1 z rt p3 m3 b3 c3 k3] ws1)
    (h1 : AOk (tape, us, np, nb, out, cd, pl)) (h2 : vts vs = us) (h3 : ∀ e ∈ vs, e.2.2 = -1) (kk : JX X nL (PGA X.1 z x (tape, us, np, nb, out, cd, pl) (5 * (capT + c1 + c2 + c3) + 64 * (capV + capG + k1 + k2 + k3)) (2 * (capT + c1 + c2 + c3) + 4 * (capV + capG + k1 + k2 + k3)) :: ws1) k n pc lv E) : JX X nL ws k n pc lv E :=
  jx_close hs (fun w hw => ⟨tp, vl, rd, ld, gr, e, ou, p1, m1, lf, p2, m2, rt, p3, m3, capT, capV, capG, c1, k1, c2, k2, c3, k3, b2, b3, vs, ⟨h1, h2, h3, rfl, rfl⟩, hw⟩) kk
end

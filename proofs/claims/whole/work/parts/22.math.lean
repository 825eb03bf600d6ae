/-! Math.max, Math.min; bytes; copying out of an array of the start -/
def MXl (own : String) (index : Nat) : Prop := W9 (.methodLink own index Lib.Math.max.name)
def MNl (own : String) (index : Nat) : Prop := W9 (.methodLink own index Lib.Math.min.name)
theorem mx_static : W9 (.static Lib.Math.max.name) := ⟨List.mem_append_right _ (List.mem_of_getElem? (i := 353) (by decide +kernel)), by decide +kernel⟩
theorem mx_code : W9 (.code Lib.Math.max.name Lib.Math.max.code 2 (some .int)) := ⟨List.mem_append_right _ (List.mem_of_getElem? (i := 354) (by decide +kernel)), by decide +kernel⟩
theorem mn_static : W9 (.static Lib.Math.min.name) := ⟨List.mem_append_right _ (List.mem_of_getElem? (i := 389) (by decide +kernel)), by decide +kernel⟩
theorem mn_code : W9 (.code Lib.Math.min.name Lib.Math.min.code 2 (some .int)) := ⟨List.mem_append_right _ (List.mem_of_getElem? (i := 390) (by decide +kernel)), by decide +kernel⟩
theorem mx_init : W9 (.initialized "java/lang/Math") := ⟨List.mem_append_right _ (List.mem_of_getElem? (i := 16) (by decide +kernel)), by decide +kernel⟩
theorem mx_X0 : MXl RX0 23 := ⟨List.mem_append_right _ (List.mem_of_getElem? (i := 991) (by decide +kernel)), by decide +kernel⟩
theorem mx_X5 : MXl RX5 46 := ⟨List.mem_append_right _ (List.mem_of_getElem? (i := 419) (by decide +kernel)), by decide +kernel⟩
theorem mx_J8 : MXl RJ8 194 := ⟨List.mem_append_right _ (List.mem_of_getElem? (i := 352) (by decide +kernel)), by decide +kernel⟩
theorem mx_JL : MXl RJx4a65c 79 := ⟨List.mem_append_right _ (List.mem_of_getElem? (i := 394) (by decide +kernel)), by decide +kernel⟩
theorem mn_J7 : MNl RJ7 304 := ⟨List.mem_append_right _ (List.mem_of_getElem? (i := 388) (by decide +kernel)), by decide +kernel⟩
theorem cp_native : W9 (.native arraycopyName) := ⟨List.mem_append_right _ (List.mem_of_getElem? (i := 393) (by decide +kernel)), by decide +kernel⟩
theorem cp_static : W9 (.static arraycopyName) := ⟨List.mem_append_right _ (List.mem_of_getElem? (i := 392) (by decide +kernel)), by decide +kernel⟩
theorem cp_init : W9 (.initialized "java/lang/System") := ⟨List.mem_append_right _ (List.mem_of_getElem? (i := 17) (by decide +kernel)), by decide +kernel⟩
theorem cp_J7 : CPY RJ7 150 := ⟨⟨List.mem_append_right _ (List.mem_of_getElem? (i := 391) (by decide +kernel)), by decide +kernel⟩, cp_native, cp_static, cp_init⟩
theorem cp_X0 : CPY RX0 29 := ⟨⟨List.mem_append_right _ (List.mem_of_getElem? (i := 992) (by decide +kernel)), by decide +kernel⟩, cp_native, cp_static, cp_init⟩
theorem ac_B : W9 (.arrayClass .byte) := ⟨List.mem_append_right _ (List.mem_of_getElem? (i := 55) (by decide +kernel)), by decide +kernel⟩
theorem ac_I : W9 (.arrayClass .int) := ⟨List.mem_append_right _ (List.mem_of_getElem? (i := 539) (by decide +kernel)), by decide +kernel⟩
theorem ac_J : W9 (.arrayClass .long) := ⟨List.mem_append_right _ (List.mem_of_getElem? (i := 1299) (by decide +kernel)), by decide +kernel⟩
theorem ac_Z : W9 (.arrayClass .boolean) := ⟨List.mem_append_right _ (List.mem_of_getElem? (i := 1300) (by decide +kernel)), by decide +kernel⟩
theorem ao_O : Cond.arrayOver (.object "java/lang/Object") ∈ lw_tbl := List.mem_append_right _ (List.mem_of_getElem? (i := 386) (by decide +kernel))
section JM2
variable {X : XT} {own : String} {cc : ByteArray} {nL d mc ms : Nat} {ws ws1 : List Asn} {k n pc : Nat} {lv : List (Option Value)} {st : List Value} {a : Nat}
theorem j_mmax (E : JE X own cc nL d mc ms) {index : Nat} {x y : Int32} (pc' : Nat) (hd : decode cc pc = .ok (.invokestatic index, 3)) (h1 : MXl own index) (hd9 : 1 ≤ d) (hst : (st.map fun v => v.category).sum ≤ 8) (hk : k ≤ mc) (hn : n ≤ ms) (hpc : pc + 3 = pc') (kk : J X nL ws k n pc' lv (.int (if x < y then y else x) :: st)) : J X nL ws k n pc lv (.int y :: .int x :: st) := by
  obtain ⟨⟨l, s0, D, ca⟩, p, e, R, s, m, args, below, meth, c, Q⟩ := X
  obtain ⟨hx, hb, hml, hown, hwm, hold, hlocks, hG, hfr, hlo, hrc, hrs⟩ := E
  subst hpc
  intro H locs ls hS hw hl
  exact va_mmax hx hb (hml.trans hl.1.symm) hown (hG.word hwm h1 _) (hG.word hwm mx_static _) (hG.word hwm mx_init _) (hG.word hwm mx_code _) (by omega) (by omega) (by omega) (by omega) hd (kk H locs ls hS hw hl)
theorem j_mmin (E : JE X own cc nL d mc ms) {index : Nat} {x y : Int32} (pc' : Nat) (hd : decode cc pc = .ok (.invokestatic index, 3)) (h1 : MNl own index) (hd9 : 1 ≤ d) (hst : (st.map fun v => v.category).sum ≤ 8) (hk : k ≤ mc) (hn : n ≤ ms) (hpc : pc + 3 = pc') (kk : J X nL ws k n pc' lv (.int (if y < x then y else x) :: st)) : J X nL ws k n pc lv (.int y :: .int x :: st) := by
  obtain ⟨⟨l, s0, D, ca⟩, p, e, R, s, m, args, below, meth, c, Q⟩ := X
  obtain ⟨hx, hb, hml, hown, hwm, hold, hlocks, hG, hfr, hlo, hrc, hrs⟩ := E
  subst hpc
  intro H locs ls hS hw hl
  exact va_mmin hx hb (hml.trans hl.1.symm) hown (hG.word hwm h1 _) (hG.word hwm mn_static _) (hG.word hwm mx_init _) (hG.word hwm mn_code _) (by omega) (by omega) (by omega) (by omega) hd (kk H locs ls hS hw hl)
end JM2
/-- a byte as an array holds it -/
def by8 (b : UInt8) : Int32 := b.toInt8.toInt32
theorem u8_of (b : UInt8) : ∃ i : Fin 256, b = UInt8.ofNat i := ⟨⟨b.toNat, b.toNat_lt⟩, by simp⟩
theorem by8_and (b : UInt8) : by8 b &&& 255 = nI b.toNat := by
  have h : ∀ i : Fin 256, by8 (UInt8.ofNat i) &&& 255 = nI (UInt8.ofNat i).toNat := by decide +kernel
  obtain ⟨i, rfl⟩ := u8_of b
  exact h i
theorem by8_fit (b : UInt8) : fits .byte (.int (by8 b)) = true := by
  have h : ∀ i : Fin 256, fits .byte (.int (by8 (UInt8.ofNat i))) = true := by decide +kernel
  obtain ⟨i, rfl⟩ := u8_of b
  exact h i
theorem by8_nar (x : Int32) : vp_nar .byte x = by8 x.toInt8.toUInt8 := by
  rw [vp_nar_byte]
  simp [by8]
theorem by8_inj {a b : UInt8} : by8 a = by8 b ↔ a = b := by
  refine ⟨fun h => ?_, fun h => by rw [h]⟩
  have h1 := by8_and a
  have h2 := by8_and b
  rw [h] at h1
  have h3 : nI a.toNat = nI b.toNat := h1.symm.trans h2
  have ha := a.toNat_lt
  have hb := b.toNat_lt
  exact UInt8.toNat_inj.mp ((nI_eq (by omega) (by omega)).mp h3)
/-- what of x goes into a byte -/
def lo8 (x : Int32) : UInt8 := x.toInt8.toUInt8
/-- bytes as an array holds them, the first n of f -/
def Lat (bs : List UInt8) (f : Nat → Int32) : Prop := ∀ j, j < bs.length → f j = by8 (bs.getD j 0)
def Fit8 (f : Nat → Int32) : Prop := ∀ j, fits .byte (.int (f j)) = true
theorem Fit8.z : Fit8 (fun _ => 0) := fun _ => rfl
theorem Fit8.up {f : Nat → Int32} (h : Fit8 f) (k : Nat) (b : UInt8) : Fit8 (upd f k (by8 b)) := fun j => by
  unfold upd
  split
  · exact by8_fit b
  · exact h j
theorem Fit8.cpy {f g : Nat → Int32} (hf : Fit8 f) (hg : Fit8 g) (a b c : Nat) : Fit8 (va_cpy f g a b c) := fun j => by
  unfold va_cpy
  split
  · exact hf _
  · exact hg _
theorem Lat.nil {f : Nat → Int32} : Lat [] f := fun j h => absurd h (Nat.not_lt_zero _)
theorem Lat.push {bs : List UInt8} {f : Nat → Int32} (h : Lat bs f) (b : UInt8) : Lat (bs ++ [b]) (upd f bs.length (by8 b)) := fun j hj => by
  rw [List.length_append, List.length_singleton] at hj
  by_cases he : j = bs.length
  · subst he
    simp [upd]
  · have hl : j < bs.length := by omega
    simp only [upd, if_neg he]
    rw [h j hl, List.getD_eq_getElem?_getD, List.getD_eq_getElem?_getD, List.getElem?_append_left hl]
theorem Lat.take {bs : List UInt8} {f : Nat → Int32} (h : Lat bs f) (n : Nat) : Lat (bs.take n) f := fun j hj => by
  rw [List.length_take] at hj
  rw [h j (by omega), List.getD_eq_getElem?_getD, List.getD_eq_getElem?_getD, List.getElem?_take_of_lt (by omega)]
theorem Lat.congr {bs : List UInt8} {f g : Nat → Int32} (h : Lat bs f) (hg : ∀ j, j < bs.length → g j = f j) : Lat bs g := fun j hj => (hg j hj).trans (h j hj)

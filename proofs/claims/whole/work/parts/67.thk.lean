/-! throws: facts of the classes and texts -/
abbrev ns9 : List String := ["java/lang/RuntimeException", "java/lang/Exception"]
set_option maxRecDepth 40000 in
theorem at_U : ∀ w ∈ vx_atS "PackedGraph" 52 "java/lang/UnsupportedOperationException" ns9, w ∈ lw_tbl ∧ w8 w = true ∧ vx_ot w = true := by decide +kernel
theorem cw_U : W9 (.classLink "PackedGraph" 48 "java/lang/UnsupportedOperationException") := ⟨List.mem_append_right _ (List.mem_of_getElem? (i := 813) (by decide +kernel)), by decide +kernel⟩
theorem ci_U : W9 (.initialized "java/lang/UnsupportedOperationException") := ⟨List.mem_append_right _ (List.mem_of_getElem? (i := 14) (by decide +kernel)), by decide +kernel⟩
theorem tk_U {is : Nat} {text : String} (h : Cond.stringRef "PackedGraph" is text ∈ lw_tbl) : THK "PackedGraph" 48 is 52 "java/lang/UnsupportedOperationException" text ns9 := by
  refine ⟨by decide +kernel, by decide +kernel, cw_U, ci_U, h, rfl, fun w hw => (at_U w hw).1, fun w hw => (at_U w hw).2.1, fun w hw => ?_⟩
  rcases List.mem_cons.mp hw with rfl | hw
  · decide +kernel
  rcases List.mem_cons.mp hw with rfl | hw
  · decide +kernel
  · exact (at_U w hw).2.2
set_option maxRecDepth 40000 in
theorem at_A : ∀ w ∈ vx_atS "PackedGraph" 63 "java/lang/IllegalArgumentException" ns9, w ∈ lw_tbl ∧ w8 w = true ∧ vx_ot w = true := by decide +kernel
theorem cw_A : W9 (.classLink "PackedGraph" 59 "java/lang/IllegalArgumentException") := ⟨List.mem_append_right _ (List.mem_of_getElem? (i := 842) (by decide +kernel)), by decide +kernel⟩
theorem ci_A : W9 (.initialized "java/lang/IllegalArgumentException") := ⟨List.mem_append_right _ (List.mem_of_getElem? (i := 18) (by decide +kernel)), by decide +kernel⟩
theorem tk_A {is : Nat} {text : String} (h : Cond.stringRef "PackedGraph" is text ∈ lw_tbl) : THK "PackedGraph" 59 is 63 "java/lang/IllegalArgumentException" text ns9 := by
  refine ⟨by decide +kernel, by decide +kernel, cw_A, ci_A, h, rfl, fun w hw => (at_A w hw).1, fun w hw => (at_A w hw).2.1, fun w hw => ?_⟩
  rcases List.mem_cons.mp hw with rfl | hw
  · decide +kernel
  rcases List.mem_cons.mp hw with rfl | hw
  · decide +kernel
  · exact (at_A w hw).2.2
set_option maxRecDepth 40000 in
theorem at_I : ∀ w ∈ vx_atS "PackedGraph" 76 "java/lang/IndexOutOfBoundsException" ns9, w ∈ lw_tbl ∧ w8 w = true ∧ vx_ot w = true := by decide +kernel
theorem cw_I : W9 (.classLink "PackedGraph" 72 "java/lang/IndexOutOfBoundsException") := ⟨List.mem_append_right _ (List.mem_of_getElem? (i := 871) (by decide +kernel)), by decide +kernel⟩
theorem ci_I : W9 (.initialized "java/lang/IndexOutOfBoundsException") := ⟨List.mem_append_right _ (List.mem_of_getElem? (i := 31) (by decide +kernel)), by decide +kernel⟩
theorem tk_I {is : Nat} {text : String} (h : Cond.stringRef "PackedGraph" is text ∈ lw_tbl) : THK "PackedGraph" 72 is 76 "java/lang/IndexOutOfBoundsException" text ns9 := by
  refine ⟨by decide +kernel, by decide +kernel, cw_I, ci_I, h, rfl, fun w hw => (at_I w hw).1, fun w hw => (at_I w hw).2.1, fun w hw => ?_⟩
  rcases List.mem_cons.mp hw with rfl | hw
  · decide +kernel
  rcases List.mem_cons.mp hw with rfl | hw
  · decide +kernel
  · exact (at_I w hw).2.2
set_option maxRecDepth 40000 in
theorem at_M : ∀ w ∈ vx_atS "PackedGraph" 183 "java/lang/ArithmeticException" ns9, w ∈ lw_tbl ∧ w8 w = true ∧ vx_ot w = true := by decide +kernel
theorem cw_M : W9 (.classLink "PackedGraph" 179 "java/lang/ArithmeticException") := ⟨List.mem_append_right _ (List.mem_of_getElem? (i := 1144) (by decide +kernel)), by decide +kernel⟩
theorem ci_M : W9 (.initialized "java/lang/ArithmeticException") := ⟨List.mem_append_right _ (List.mem_of_getElem? (i := 33) (by decide +kernel)), by decide +kernel⟩
theorem tk_M {is : Nat} {text : String} (h : Cond.stringRef "PackedGraph" is text ∈ lw_tbl) : THK "PackedGraph" 179 is 183 "java/lang/ArithmeticException" text ns9 := by
  refine ⟨by decide +kernel, by decide +kernel, cw_M, ci_M, h, rfl, fun w hw => (at_M w hw).1, fun w hw => (at_M w hw).2.1, fun w hw => ?_⟩
  rcases List.mem_cons.mp hw with rfl | hw
  · decide +kernel
  rcases List.mem_cons.mp hw with rfl | hw
  · decide +kernel
  · exact (at_M w hw).2.2
theorem sr_50 : Jvm.Cond.stringRef "PackedGraph" (50 : Nat) "the tape has no room for twenty bytes more" ∈ lw_tbl := List.mem_append_right _ (List.mem_of_getElem? (i := 822) (by decide +kernel))
theorem sr_61 : Jvm.Cond.stringRef "PackedGraph" (61 : Nat) "the tape has not so many bytes" ∈ lw_tbl := List.mem_append_right _ (List.mem_of_getElem? (i := 843) (by decide +kernel))
theorem sr_74 : Jvm.Cond.stringRef "PackedGraph" (74 : Nat) "a fault has a code (0) and a place (1)" ∈ lw_tbl := List.mem_append_right _ (List.mem_of_getElem? (i := 880) (by decide +kernel))
theorem sr_84 : Jvm.Cond.stringRef "PackedGraph" (84 : Nat) "the tape has no such byte" ∈ lw_tbl := List.mem_append_right _ (List.mem_of_getElem? (i := 891) (by decide +kernel))
theorem sr_97 : Jvm.Cond.stringRef "PackedGraph" (97 : Nat) "the value is too deep or too long to be packed" ∈ lw_tbl := List.mem_append_right _ (List.mem_of_getElem? (i := 996) (by decide +kernel))
theorem sr_102 : Jvm.Cond.stringRef "PackedGraph" (102 : Nat) "the out has no such byte" ∈ lw_tbl := List.mem_append_right _ (List.mem_of_getElem? (i := 1004) (by decide +kernel))
theorem sr_121 : Jvm.Cond.stringRef "PackedGraph" (121 : Nat) "a row is a text (5) or bytes (6)" ∈ lw_tbl := List.mem_append_right _ (List.mem_of_getElem? (i := 1050) (by decide +kernel))
theorem sr_129 : Jvm.Cond.stringRef "PackedGraph" (129 : Nat) "the tape is no text" ∈ lw_tbl := List.mem_append_right _ (List.mem_of_getElem? (i := 1052) (by decide +kernel))
theorem sr_135 : Jvm.Cond.stringRef "PackedGraph" (135 : Nat) "no extension has this type" ∈ lw_tbl := List.mem_append_right _ (List.mem_of_getElem? (i := 1065) (by decide +kernel))
theorem sr_138 : Jvm.Cond.stringRef "PackedGraph" (138 : Nat) "nanos are 0 .. 999999999" ∈ lw_tbl := List.mem_append_right _ (List.mem_of_getElem? (i := 1074) (by decide +kernel))
theorem sr_140 : Jvm.Cond.stringRef "PackedGraph" (140 : Nat) "a group is a list (7) or a map (8)" ∈ lw_tbl := List.mem_append_right _ (List.mem_of_getElem? (i := 1082) (by decide +kernel))
theorem sr_172 : Jvm.Cond.stringRef "PackedGraph" (172 : Nat) "what is told of a value is 0 .. 3" ∈ lw_tbl := List.mem_append_right _ (List.mem_of_getElem? (i := 1120) (by decide +kernel))
theorem sr_174 : Jvm.Cond.stringRef "PackedGraph" (174 : Nat) "the value has no number" ∈ lw_tbl := List.mem_append_right _ (List.mem_of_getElem? (i := 1142) (by decide +kernel))
theorem sr_181 : Jvm.Cond.stringRef "PackedGraph" (181 : Nat) "the integer is 2^63 or more" ∈ lw_tbl := List.mem_append_right _ (List.mem_of_getElem? (i := 1145) (by decide +kernel))
theorem sr_198 : Jvm.Cond.stringRef "PackedGraph" (198 : Nat) "the value has no such place" ∈ lw_tbl := List.mem_append_right _ (List.mem_of_getElem? (i := 1154) (by decide +kernel))
theorem sr_200 : Jvm.Cond.stringRef "PackedGraph" (200 : Nat) "one of the values cannot be packed" ∈ lw_tbl := List.mem_append_right _ (List.mem_of_getElem? (i := 1162) (by decide +kernel))
theorem sr_206 : Jvm.Cond.stringRef "PackedGraph" (206 : Nat) "the value cannot be packed" ∈ lw_tbl := List.mem_append_right _ (List.mem_of_getElem? (i := 1174) (by decide +kernel))
theorem sr_215 : Jvm.Cond.stringRef "PackedGraph" (215 : Nat) "what is counted is 0 .. 4" ∈ lw_tbl := List.mem_append_right _ (List.mem_of_getElem? (i := 1182) (by decide +kernel))
theorem sr_225 : Jvm.Cond.stringRef "PackedGraph" (225 : Nat) "there is no such value" ∈ lw_tbl := List.mem_append_right _ (List.mem_of_getElem? (i := 913) (by decide +kernel))
theorem sr_227 : Jvm.Cond.stringRef "PackedGraph" (227 : Nat) "the value is of another kind" ∈ lw_tbl := List.mem_append_right _ (List.mem_of_getElem? (i := 1095) (by decide +kernel))
theorem sr_232 : Jvm.Cond.stringRef "PackedGraph" (232 : Nat) "there is no room for this value" ∈ lw_tbl := List.mem_append_right _ (List.mem_of_getElem? (i := 1018) (by decide +kernel))
theorem sr_238 : Jvm.Cond.stringRef "PackedGraph" (238 : Nat) "there are too many values in lists and maps" ∈ lw_tbl := List.mem_append_right _ (List.mem_of_getElem? (i := 1101) (by decide +kernel))

/-! Object.<init> -/
theorem ob_inst : W9 (.instanceMethod Lib.objectInit) := ⟨List.mem_append_right _ (List.mem_of_getElem? (i := 40) (by decide +kernel)), by decide +kernel⟩
theorem ob_code : W9 (.code Lib.objectInit ⟨#[0xb1]⟩ 1 none) := ⟨List.mem_append_right _ (List.mem_of_getElem? (i := 41) (by decide +kernel)), by decide +kernel⟩
theorem ob_X7 : W9 (.methodLink RX7 1 Lib.objectInit) := ⟨List.mem_append_right _ (List.mem_of_getElem? (i := 39) (by decide +kernel)), by decide +kernel⟩
theorem ob_X0 : W9 (.methodLink RX0 1 Lib.objectInit) := ⟨List.mem_append_right _ (List.mem_of_getElem? (i := 47) (by decide +kernel)), by decide +kernel⟩
theorem ob_X6 : W9 (.methodLink RX6 3 Lib.objectInit) := ⟨List.mem_append_right _ (List.mem_of_getElem? (i := 61) (by decide +kernel)), by decide +kernel⟩
theorem ob_Jxa1e45 : W9 (.methodLink RJxa1e45 1 Lib.objectInit) := ⟨List.mem_append_right _ (List.mem_of_getElem? (i := 73) (by decide +kernel)), by decide +kernel⟩
theorem ob_X4 : W9 (.methodLink RX4 3 Lib.objectInit) := ⟨List.mem_append_right _ (List.mem_of_getElem? (i := 107) (by decide +kernel)), by decide +kernel⟩
theorem ob_X2 : W9 (.methodLink RX2 3 Lib.objectInit) := ⟨List.mem_append_right _ (List.mem_of_getElem? (i := 113) (by decide +kernel)), by decide +kernel⟩
theorem ob_X3 : W9 (.methodLink RX3 3 Lib.objectInit) := ⟨List.mem_append_right _ (List.mem_of_getElem? (i := 156) (by decide +kernel)), by decide +kernel⟩
theorem ob_X5 : W9 (.methodLink RX5 3 Lib.objectInit) := ⟨List.mem_append_right _ (List.mem_of_getElem? (i := 291) (by decide +kernel)), by decide +kernel⟩
theorem ob_X8 : W9 (.methodLink RX8 1 Lib.objectInit) := ⟨List.mem_append_right _ (List.mem_of_getElem? (i := 1188) (by decide +kernel)), by decide +kernel⟩

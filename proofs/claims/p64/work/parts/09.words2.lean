section MMU
theorem ljX10_1 : Cond.methodLink RX10 1 objectInit ∈ mm_gw := (mm_gw_of (List.mem_of_getElem? (i := 65) (by decide +kernel)) rfl)
theorem ljX8_3 : Cond.methodLink RX8 3 objectInit ∈ mm_gw := (mm_gw_of (List.mem_of_getElem? (i := 73) (by decide +kernel)) rfl)
theorem ljX8_9 : Cond.methodLink RX8 9 Lib.Math.max.name ∈ mm_gw := (mm_gw_of (List.mem_of_getElem? (i := 74) (by decide +kernel)) rfl)
theorem ljX3_3 : Cond.methodLink RX3 3 objectInit ∈ mm_gw := (mm_gw_of (List.mem_of_getElem? (i := 92) (by decide +kernel)) rfl)
theorem ljX9_3 : Cond.methodLink RX9 3 objectInit ∈ mm_gw := (mm_gw_of (List.mem_of_getElem? (i := 98) (by decide +kernel)) rfl)
theorem ljX5_3 : Cond.methodLink RX5 3 objectInit ∈ mm_gw := (mm_gw_of (List.mem_of_getElem? (i := 137) (by decide +kernel)) rfl)
theorem ljX4_1 : Cond.methodLink RX4 1 objectInit ∈ mm_gw := (mm_gw_of (List.mem_of_getElem? (i := 143) (by decide +kernel)) rfl)
theorem ljX4_7 : Cond.methodLink RX4 7 Lib.Math.max.name ∈ mm_gw := (mm_gw_of (List.mem_of_getElem? (i := 144) (by decide +kernel)) rfl)
theorem ljX1_3 : Cond.methodLink RX1 3 objectInit ∈ mm_gw := (mm_gw_of (List.mem_of_getElem? (i := 166) (by decide +kernel)) rfl)
theorem ljX7_3 : Cond.methodLink RX7 3 objectInit ∈ mm_gw := (mm_gw_of (List.mem_of_getElem? (i := 188) (by decide +kernel)) rfl)
theorem ljX2_3 : Cond.methodLink RX2 3 objectInit ∈ mm_gw := (mm_gw_of (List.mem_of_getElem? (i := 260) (by decide +kernel)) rfl)
theorem ljX6_1 : Cond.methodLink RX6 1 objectInit ∈ mm_gw := (mm_gw_of (List.mem_of_getElem? (i := 266) (by decide +kernel)) rfl)
theorem ljX6_7 : Cond.methodLink RX6 7 Lib.Math.max.name ∈ mm_gw := (mm_gw_of (List.mem_of_getElem? (i := 267) (by decide +kernel)) rfl)
theorem ljX0_3 : Cond.methodLink RX0 3 objectInit ∈ mm_gw := (mm_gw_of (List.mem_of_getElem? (i := 297) (by decide +kernel)) rfl)
theorem ljX8_29 : Cond.methodLink RX8 29 Lib.Math.min.name ∈ mm_gw := (mm_gw_of (List.mem_of_getElem? (i := 551) (by decide +kernel)) rfl)
theorem ljX4_19 : Cond.methodLink RX4 19 Lib.Math.min.name ∈ mm_gw := (mm_gw_of (List.mem_of_getElem? (i := 629) (by decide +kernel)) rfl)
theorem ljX4_22 : Cond.methodLink RX4 22 arraycopyName ∈ mm_gw := (mm_gw_of (List.mem_of_getElem? (i := 630) (by decide +kernel)) rfl)
theorem ljX7_107 : Cond.methodLink RX7 107 Lib.Math.min.name ∈ mm_gw := (mm_gw_of (List.mem_of_getElem? (i := 737) (by decide +kernel)) rfl)
theorem ljX2_31 : Cond.methodLink RX2 31 Lib.Math.min.name ∈ mm_gw := (mm_gw_of (List.mem_of_getElem? (i := 827) (by decide +kernel)) rfl)
theorem ljX7_126 : Cond.methodLink RX7 126 Lib.Math.max.name ∈ mm_gw := (mm_gw_of (List.mem_of_getElem? (i := 850) (by decide +kernel)) rfl)
theorem ljX11_1 : Cond.methodLink RX11 1 objectInit ∈ mm_gw := (mm_gw_of (List.mem_of_getElem? (i := 888) (by decide +kernel)) rfl)
theorem ljJ5_3 : Cond.methodLink RJ5 3 objectInit ∈ mm_gw := (mm_gw_of (List.mem_of_getElem? (i := 1024) (by decide +kernel)) rfl)
theorem ljJ8_194 : Cond.methodLink RJ8 194 Lib.Math.max.name ∈ mm_gw := (mm_gw_of (List.mem_of_getElem? (i := 1064) (by decide +kernel)) rfl)
theorem ljJ7_304 : Cond.methodLink RJ7 304 Lib.Math.min.name ∈ mm_gw := (mm_gw_of (List.mem_of_getElem? (i := 1079) (by decide +kernel)) rfl)
theorem ljJ7_150 : Cond.methodLink RJ7 150 arraycopyName ∈ mm_gw := (mm_gw_of (List.mem_of_getElem? (i := 1080) (by decide +kernel)) rfl)
theorem ljJ0_212 : Cond.methodLink RJ0 212 arraycopyName ∈ mm_gw := (mm_gw_of (List.mem_of_getElem? (i := 1133) (by decide +kernel)) rfl)
theorem ljJ0_1 : Cond.methodLink RJ0 1 objectInit ∈ mm_gw := (mm_gw_of (List.mem_of_getElem? (i := 1201) (by decide +kernel)) rfl)
set_option maxRecDepth 20000 in
theorem twX10_98 : mm_tw RX10 94 98 "java/lang/IllegalStateException" := ⟨(mm_gw_of (List.mem_of_getElem? (i := 801) (by decide +kernel)) rfl), (mm_gw_of (List.mem_of_getElem? (i := 57) (by decide +kernel)) rfl), by decide +kernel, by
  have h9 : (vx_atS RX10 98 "java/lang/IllegalStateException" mm_xn).all (fun w => decide (w ∈ lw_tbl) && (goodWord w || mm_nw w)) = true := by decide +kernel
  intro w hw
  have h8 := List.all_eq_true.mp h9 w hw
  exact ⟨of_decide_eq_true (Bool.and_eq_true_iff.mp h8).1, (Bool.and_eq_true_iff.mp h8).2⟩⟩
set_option maxRecDepth 20000 in
theorem twX10_119 : mm_tw RX10 115 119 "java/lang/IllegalArgumentException" := ⟨(mm_gw_of (List.mem_of_getElem? (i := 554) (by decide +kernel)) rfl), (mm_gw_of (List.mem_of_getElem? (i := 56) (by decide +kernel)) rfl), by decide +kernel, by
  have h9 : (vx_atS RX10 119 "java/lang/IllegalArgumentException" mm_xn).all (fun w => decide (w ∈ lw_tbl) && (goodWord w || mm_nw w)) = true := by decide +kernel
  intro w hw
  have h8 := List.all_eq_true.mp h9 w hw
  exact ⟨of_decide_eq_true (Bool.and_eq_true_iff.mp h8).1, (Bool.and_eq_true_iff.mp h8).2⟩⟩
set_option maxRecDepth 20000 in
theorem twX10_166 : mm_tw RX10 162 166 "java/lang/IndexOutOfBoundsException" := ⟨(mm_gw_of (List.mem_of_getElem? (i := 663) (by decide +kernel)) rfl), (mm_gw_of (List.mem_of_getElem? (i := 59) (by decide +kernel)) rfl), by decide +kernel, by
  have h9 : (vx_atS RX10 166 "java/lang/IndexOutOfBoundsException" mm_xn).all (fun w => decide (w ∈ lw_tbl) && (goodWord w || mm_nw w)) = true := by decide +kernel
  intro w hw
  have h8 := List.all_eq_true.mp h9 w hw
  exact ⟨of_decide_eq_true (Bool.and_eq_true_iff.mp h8).1, (Bool.and_eq_true_iff.mp h8).2⟩⟩
end MMU

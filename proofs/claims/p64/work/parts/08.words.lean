section MMW
/-! the tables' words, by their places (gen8.py) -/
/-- a method that is called by another word: of the class above, or private there -/
def mm_mU (N : mm_M) (n : Nat) : Prop := mm_mB N n ∧ Cond.instanceMethod (my_y N) ∈ mm_gw
theorem mm_inp {ws : List Cond} (ps : List Nat) (hp : ws = ps.filterMap (fun i => lw_tbl[i]?)) (h : ws.all goodWord = true) : ∀ w ∈ ws, w ∈ mm_gw := by
  intro w hw
  have h1 := List.all_eq_true.mp h w hw
  rw [hp] at hw
  obtain ⟨i, -, hi⟩ := List.mem_filterMap.mp hw
  exact mm_gw_of (List.mem_of_getElem? hi) h1
theorem inRX0 : ∀ w ∈ u_ws RX0 TX0 3, w ∈ mm_gw := mm_inp [305, 307, 309] (by decide +kernel) (by decide +kernel)
theorem pgX0_0 : ∀ C T N, mm_cl[0]? = some (C, T, N) → (T 0).2.2.2 = false ∧ (T 0).2.2.1 = "I" ∧ (∃ ty0 : Nat → FieldType, ∀ k, k < N → parseFieldDescriptor (T k).2.2.1 = some (ty0 k)) ∧ ∀ a, a < N → ∀ b, b < N → a ≠ b → (T a).2.1 ≠ (T b).2.1 := by
  intro C T N h
  cases h
  exact ⟨rfl, rfl, ⟨tyX0, tyX0_ok⟩, nmX0⟩
theorem inRX1 : ∀ w ∈ u_ws RX1 TX1 4, w ∈ mm_gw := mm_inp [174, 176, 178, 180] (by decide +kernel) (by decide +kernel)
theorem pgX1_0 : ∀ C T N, mm_cl[1]? = some (C, T, N) → (T 0).2.2.2 = false ∧ (T 0).2.2.1 = "I" ∧ (∃ ty0 : Nat → FieldType, ∀ k, k < N → parseFieldDescriptor (T k).2.2.1 = some (ty0 k)) ∧ ∀ a, a < N → ∀ b, b < N → a ≠ b → (T a).2.1 ≠ (T b).2.1 := by
  intro C T N h
  cases h
  exact ⟨rfl, rfl, ⟨tyX1, tyX1_ok⟩, nmX1⟩
theorem inRX2 : ∀ w ∈ u_ws RX2 TX2 3, w ∈ mm_gw := mm_inp [283, 285, 287] (by decide +kernel) (by decide +kernel)
theorem pgX2_1 : ∀ C T N, mm_cl[2]? = some (C, T, N) → (T 1).2.2.2 = false ∧ (T 1).2.2.1 = "I" ∧ (∃ ty0 : Nat → FieldType, ∀ k, k < N → parseFieldDescriptor (T k).2.2.1 = some (ty0 k)) ∧ ∀ a, a < N → ∀ b, b < N → a ≠ b → (T a).2.1 ≠ (T b).2.1 := by
  intro C T N h
  cases h
  exact ⟨rfl, rfl, ⟨tyX2, tyX2_ok⟩, nmX2⟩
theorem pgX2_2 : ∀ C T N, mm_cl[2]? = some (C, T, N) → (T 2).2.2.2 = false ∧ (T 2).2.2.1 = "I" ∧ (∃ ty0 : Nat → FieldType, ∀ k, k < N → parseFieldDescriptor (T k).2.2.1 = some (ty0 k)) ∧ ∀ a, a < N → ∀ b, b < N → a ≠ b → (T a).2.1 ≠ (T b).2.1 := by
  intro C T N h
  cases h
  exact ⟨rfl, rfl, ⟨tyX2, tyX2_ok⟩, nmX2⟩
theorem inRX3 : ∀ w ∈ u_ws RX3 TX3 3, w ∈ mm_gw := mm_inp [125, 127, 129] (by decide +kernel) (by decide +kernel)
theorem pgX3_1 : ∀ C T N, mm_cl[3]? = some (C, T, N) → (T 1).2.2.2 = false ∧ (T 1).2.2.1 = "I" ∧ (∃ ty0 : Nat → FieldType, ∀ k, k < N → parseFieldDescriptor (T k).2.2.1 = some (ty0 k)) ∧ ∀ a, a < N → ∀ b, b < N → a ≠ b → (T a).2.1 ≠ (T b).2.1 := by
  intro C T N h
  cases h
  exact ⟨rfl, rfl, ⟨tyX3, tyX3_ok⟩, nmX3⟩
theorem pgX3_2 : ∀ C T N, mm_cl[3]? = some (C, T, N) → (T 2).2.2.2 = false ∧ (T 2).2.2.1 = "I" ∧ (∃ ty0 : Nat → FieldType, ∀ k, k < N → parseFieldDescriptor (T k).2.2.1 = some (ty0 k)) ∧ ∀ a, a < N → ∀ b, b < N → a ≠ b → (T a).2.1 ≠ (T b).2.1 := by
  intro C T N h
  cases h
  exact ⟨rfl, rfl, ⟨tyX3, tyX3_ok⟩, nmX3⟩
theorem inRX4 : ∀ w ∈ u_ws RX4 TX4 1, w ∈ mm_gw := mm_inp [146] (by decide +kernel) (by decide +kernel)
theorem inRX5 : ∀ w ∈ u_ws RX5 TX5 4, w ∈ mm_gw := mm_inp [152, 154, 156, 158] (by decide +kernel) (by decide +kernel)
theorem pgX5_0 : ∀ C T N, mm_cl[5]? = some (C, T, N) → (T 0).2.2.2 = false ∧ (T 0).2.2.1 = "I" ∧ (∃ ty0 : Nat → FieldType, ∀ k, k < N → parseFieldDescriptor (T k).2.2.1 = some (ty0 k)) ∧ ∀ a, a < N → ∀ b, b < N → a ≠ b → (T a).2.1 ≠ (T b).2.1 := by
  intro C T N h
  cases h
  exact ⟨rfl, rfl, ⟨tyX5, tyX5_ok⟩, nmX5⟩
theorem pgX5_1 : ∀ C T N, mm_cl[5]? = some (C, T, N) → (T 1).2.2.2 = false ∧ (T 1).2.2.1 = "I" ∧ (∃ ty0 : Nat → FieldType, ∀ k, k < N → parseFieldDescriptor (T k).2.2.1 = some (ty0 k)) ∧ ∀ a, a < N → ∀ b, b < N → a ≠ b → (T a).2.1 ≠ (T b).2.1 := by
  intro C T N h
  cases h
  exact ⟨rfl, rfl, ⟨tyX5, tyX5_ok⟩, nmX5⟩
theorem inRX6 : ∀ w ∈ u_ws RX6 TX6 2, w ∈ mm_gw := mm_inp [275, 277] (by decide +kernel) (by decide +kernel)
theorem inRX7 : ∀ w ∈ u_ws RX7 TX7 18, w ∈ mm_gw := mm_inp [218, 220, 222, 224, 226, 228, 230, 232, 234, 236, 238, 240, 242, 244, 246, 248, 250, 252] (by decide +kernel) (by decide +kernel)
theorem pgX7_0 : ∀ C T N, mm_cl[7]? = some (C, T, N) → (T 0).2.2.2 = false ∧ (T 0).2.2.1 = "I" ∧ (∃ ty0 : Nat → FieldType, ∀ k, k < N → parseFieldDescriptor (T k).2.2.1 = some (ty0 k)) ∧ ∀ a, a < N → ∀ b, b < N → a ≠ b → (T a).2.1 ≠ (T b).2.1 := by
  intro C T N h
  cases h
  exact ⟨rfl, rfl, ⟨tyX7, tyX7_ok⟩, nmX7⟩
theorem pgX7_1 : ∀ C T N, mm_cl[7]? = some (C, T, N) → (T 1).2.2.2 = false ∧ (T 1).2.2.1 = "I" ∧ (∃ ty0 : Nat → FieldType, ∀ k, k < N → parseFieldDescriptor (T k).2.2.1 = some (ty0 k)) ∧ ∀ a, a < N → ∀ b, b < N → a ≠ b → (T a).2.1 ≠ (T b).2.1 := by
  intro C T N h
  cases h
  exact ⟨rfl, rfl, ⟨tyX7, tyX7_ok⟩, nmX7⟩
theorem pgX7_7 : ∀ C T N, mm_cl[7]? = some (C, T, N) → (T 7).2.2.2 = false ∧ (T 7).2.2.1 = "I" ∧ (∃ ty0 : Nat → FieldType, ∀ k, k < N → parseFieldDescriptor (T k).2.2.1 = some (ty0 k)) ∧ ∀ a, a < N → ∀ b, b < N → a ≠ b → (T a).2.1 ≠ (T b).2.1 := by
  intro C T N h
  cases h
  exact ⟨rfl, rfl, ⟨tyX7, tyX7_ok⟩, nmX7⟩
theorem inRX8 : ∀ w ∈ u_ws RX8 TX8 2, w ∈ mm_gw := mm_inp [81, 83] (by decide +kernel) (by decide +kernel)
theorem pgX8_1 : ∀ C T N, mm_cl[8]? = some (C, T, N) → (T 1).2.2.2 = false ∧ (T 1).2.2.1 = "I" ∧ (∃ ty0 : Nat → FieldType, ∀ k, k < N → parseFieldDescriptor (T k).2.2.1 = some (ty0 k)) ∧ ∀ a, a < N → ∀ b, b < N → a ≠ b → (T a).2.1 ≠ (T b).2.1 := by
  intro C T N h
  cases h
  exact ⟨rfl, rfl, ⟨tyX8, tyX8_ok⟩, nmX8⟩
theorem inRX9 : ∀ w ∈ u_ws RX9 TX9 5, w ∈ mm_gw := mm_inp [111, 113, 115, 117, 119] (by decide +kernel) (by decide +kernel)
theorem pgX9_1 : ∀ C T N, mm_cl[9]? = some (C, T, N) → (T 1).2.2.2 = false ∧ (T 1).2.2.1 = "I" ∧ (∃ ty0 : Nat → FieldType, ∀ k, k < N → parseFieldDescriptor (T k).2.2.1 = some (ty0 k)) ∧ ∀ a, a < N → ∀ b, b < N → a ≠ b → (T a).2.1 ≠ (T b).2.1 := by
  intro C T N h
  cases h
  exact ⟨rfl, rfl, ⟨tyX9, tyX9_ok⟩, nmX9⟩
theorem pgX9_2 : ∀ C T N, mm_cl[9]? = some (C, T, N) → (T 2).2.2.2 = false ∧ (T 2).2.2.1 = "I" ∧ (∃ ty0 : Nat → FieldType, ∀ k, k < N → parseFieldDescriptor (T k).2.2.1 = some (ty0 k)) ∧ ∀ a, a < N → ∀ b, b < N → a ≠ b → (T a).2.1 ≠ (T b).2.1 := by
  intro C T N h
  cases h
  exact ⟨rfl, rfl, ⟨tyX9, tyX9_ok⟩, nmX9⟩
theorem pgX9_3 : ∀ C T N, mm_cl[9]? = some (C, T, N) → (T 3).2.2.2 = false ∧ (T 3).2.2.1 = "I" ∧ (∃ ty0 : Nat → FieldType, ∀ k, k < N → parseFieldDescriptor (T k).2.2.1 = some (ty0 k)) ∧ ∀ a, a < N → ∀ b, b < N → a ≠ b → (T a).2.1 ≠ (T b).2.1 := by
  intro C T N h
  cases h
  exact ⟨rfl, rfl, ⟨tyX9, tyX9_ok⟩, nmX9⟩
theorem pgX9_4 : ∀ C T N, mm_cl[9]? = some (C, T, N) → (T 4).2.2.2 = false ∧ (T 4).2.2.1 = "I" ∧ (∃ ty0 : Nat → FieldType, ∀ k, k < N → parseFieldDescriptor (T k).2.2.1 = some (ty0 k)) ∧ ∀ a, a < N → ∀ b, b < N → a ≠ b → (T a).2.1 ≠ (T b).2.1 := by
  intro C T N h
  cases h
  exact ⟨rfl, rfl, ⟨tyX9, tyX9_ok⟩, nmX9⟩
theorem inRX10 : ∀ w ∈ u_ws RX10 TX10 11, w ∈ mm_gw := mm_inp [407, 409, 411, 413, 415, 417, 419, 421, 423, 425, 427] (by decide +kernel) (by decide +kernel)
theorem inRX11 : ∀ w ∈ u_ws RX11 TX11 5, w ∈ mm_gw := mm_inp [900, 902, 904, 906, 908] (by decide +kernel) (by decide +kernel)
theorem pgX11_3 : ∀ C T N, mm_cl[11]? = some (C, T, N) → (T 3).2.2.2 = false ∧ (T 3).2.2.1 = "I" ∧ (∃ ty0 : Nat → FieldType, ∀ k, k < N → parseFieldDescriptor (T k).2.2.1 = some (ty0 k)) ∧ ∀ a, a < N → ∀ b, b < N → a ≠ b → (T a).2.1 ≠ (T b).2.1 := by
  intro C T N h
  cases h
  exact ⟨rfl, rfl, ⟨tyX11, tyX11_ok⟩, nmX11⟩
theorem pgX11_4 : ∀ C T N, mm_cl[11]? = some (C, T, N) → (T 4).2.2.2 = false ∧ (T 4).2.2.1 = "I" ∧ (∃ ty0 : Nat → FieldType, ∀ k, k < N → parseFieldDescriptor (T k).2.2.1 = some (ty0 k)) ∧ ∀ a, a < N → ∀ b, b < N → a ≠ b → (T a).2.1 ≠ (T b).2.1 := by
  intro C T N h
  cases h
  exact ⟨rfl, rfl, ⟨tyX11, tyX11_ok⟩, nmX11⟩
theorem inRJ4 : ∀ w ∈ u_ws RJ4 TJ4 4, w ∈ mm_gw := mm_inp [1139, 1141, 1143, 1145] (by decide +kernel) (by decide +kernel)
theorem pgJ4_3 : ∀ C T N, mm_cl[12]? = some (C, T, N) → (T 3).2.2.2 = false ∧ (T 3).2.2.1 = "I" ∧ (∃ ty0 : Nat → FieldType, ∀ k, k < N → parseFieldDescriptor (T k).2.2.1 = some (ty0 k)) ∧ ∀ a, a < N → ∀ b, b < N → a ≠ b → (T a).2.1 ≠ (T b).2.1 := by
  intro C T N h
  cases h
  exact ⟨rfl, rfl, ⟨tyJ4, tyJ4_ok⟩, nmJ4⟩
theorem inRJ0 : ∀ w ∈ u_ws RJ0 TJ0 4, w ∈ mm_gw := mm_inp [1237, 1239, 1241, 1243] (by decide +kernel) (by decide +kernel)
theorem pgJ0_2 : ∀ C T N, mm_cl[13]? = some (C, T, N) → (T 2).2.2.2 = false ∧ (T 2).2.2.1 = "I" ∧ (∃ ty0 : Nat → FieldType, ∀ k, k < N → parseFieldDescriptor (T k).2.2.1 = some (ty0 k)) ∧ ∀ a, a < N → ∀ b, b < N → a ≠ b → (T a).2.1 ≠ (T b).2.1 := by
  intro C T N h
  cases h
  exact ⟨rfl, rfl, ⟨tyJ0, tyJ0_ok⟩, nmJ0⟩
theorem fkX8_15 : mm_fk RX8 15 8 0 := ⟨RX8, TX8, 2, rfl, rfl, inRX8, by decide, Or.inl (mm_gw_of (List.mem_of_getElem? (i := 77) (by decide +kernel)) rfl)⟩
theorem fkX10_90 : mm_fk RX10 90 8 1 := ⟨RX8, TX8, 2, rfl, rfl, inRX8, by decide, Or.inr ⟨"BatchWarehouse", (List.mem_of_getElem? (i := 78) (by decide +kernel))⟩⟩
theorem fkX8_21 : mm_fk RX8 21 8 1 := ⟨RX8, TX8, 2, rfl, rfl, inRX8, by decide, Or.inl (mm_gw_of (List.mem_of_getElem? (i := 79) (by decide +kernel)) rfl)⟩
theorem fkX9_27 : mm_fk RX9 27 8 1 := ⟨RX8, TX8, 2, rfl, rfl, inRX8, by decide, Or.inr ⟨"BatchWarehouse", (List.mem_of_getElem? (i := 80) (by decide +kernel))⟩⟩
theorem fkX9_14 : mm_fk RX9 14 9 0 := ⟨RX9, TX9, 5, rfl, rfl, inRX9, by decide, Or.inl (mm_gw_of (List.mem_of_getElem? (i := 101) (by decide +kernel)) rfl)⟩
theorem fkX3_96 : mm_fk RX3 96 9 0 := ⟨RX9, TX9, 5, rfl, rfl, inRX9, by decide, Or.inr ⟨"BatchWarehouse", (List.mem_of_getElem? (i := 102) (by decide +kernel))⟩⟩
theorem fkX3_63 : mm_fk RX3 63 9 1 := ⟨RX9, TX9, 5, rfl, rfl, inRX9, by decide, Or.inr ⟨"BatchWarehouse", (List.mem_of_getElem? (i := 103) (by decide +kernel))⟩⟩
theorem fkX9_41 : mm_fk RX9 41 9 1 := ⟨RX9, TX9, 5, rfl, rfl, inRX9, by decide, Or.inl (mm_gw_of (List.mem_of_getElem? (i := 104) (by decide +kernel)) rfl)⟩
theorem fkX9_38 : mm_fk RX9 38 9 2 := ⟨RX9, TX9, 5, rfl, rfl, inRX9, by decide, Or.inl (mm_gw_of (List.mem_of_getElem? (i := 105) (by decide +kernel)) rfl)⟩
theorem fkX3_83 : mm_fk RX3 83 9 2 := ⟨RX9, TX9, 5, rfl, rfl, inRX9, by decide, Or.inr ⟨"BatchWarehouse", (List.mem_of_getElem? (i := 106) (by decide +kernel))⟩⟩
theorem fkX9_20 : mm_fk RX9 20 9 3 := ⟨RX9, TX9, 5, rfl, rfl, inRX9, by decide, Or.inl (mm_gw_of (List.mem_of_getElem? (i := 107) (by decide +kernel)) rfl)⟩
theorem fkX3_110 : mm_fk RX3 110 9 3 := ⟨RX9, TX9, 5, rfl, rfl, inRX9, by decide, Or.inr ⟨"BatchWarehouse", (List.mem_of_getElem? (i := 108) (by decide +kernel))⟩⟩
theorem fkX9_60 : mm_fk RX9 60 9 4 := ⟨RX9, TX9, 5, rfl, rfl, inRX9, by decide, Or.inl (mm_gw_of (List.mem_of_getElem? (i := 109) (by decide +kernel)) rfl)⟩
theorem fkX3_89 : mm_fk RX3 89 9 4 := ⟨RX9, TX9, 5, rfl, rfl, inRX9, by decide, Or.inr ⟨"BatchWarehouse", (List.mem_of_getElem? (i := 110) (by decide +kernel))⟩⟩
theorem fkX3_12 : mm_fk RX3 12 3 0 := ⟨RX3, TX3, 3, rfl, rfl, inRX3, by decide, Or.inl (mm_gw_of (List.mem_of_getElem? (i := 122) (by decide +kernel)) rfl)⟩
theorem fkX3_77 : mm_fk RX3 77 3 1 := ⟨RX3, TX3, 3, rfl, rfl, inRX3, by decide, Or.inl (mm_gw_of (List.mem_of_getElem? (i := 123) (by decide +kernel)) rfl)⟩
theorem fkX3_18 : mm_fk RX3 18 3 2 := ⟨RX3, TX3, 3, rfl, rfl, inRX3, by decide, Or.inl (mm_gw_of (List.mem_of_getElem? (i := 124) (by decide +kernel)) rfl)⟩
theorem fkX4_13 : mm_fk RX4 13 4 0 := ⟨RX4, TX4, 1, rfl, rfl, inRX4, by decide, Or.inl (mm_gw_of (List.mem_of_getElem? (i := 145) (by decide +kernel)) rfl)⟩
theorem fkX5_14 : mm_fk RX5 14 5 2 := ⟨RX5, TX5, 4, rfl, rfl, inRX5, by decide, Or.inl (mm_gw_of (List.mem_of_getElem? (i := 150) (by decide +kernel)) rfl)⟩
theorem fkX5_20 : mm_fk RX5 20 5 3 := ⟨RX5, TX5, 4, rfl, rfl, inRX5, by decide, Or.inl (mm_gw_of (List.mem_of_getElem? (i := 151) (by decide +kernel)) rfl)⟩
theorem fkX1_26 : mm_fk RX1 26 1 0 := ⟨RX1, TX1, 4, rfl, rfl, inRX1, by decide, Or.inl (mm_gw_of (List.mem_of_getElem? (i := 169) (by decide +kernel)) rfl)⟩
theorem fkX10_133 : mm_fk RX10 133 1 0 := ⟨RX1, TX1, 4, rfl, rfl, inRX1, by decide, Or.inr ⟨"BatchWarehouse", (List.mem_of_getElem? (i := 170) (by decide +kernel))⟩⟩
theorem fkX1_14 : mm_fk RX1 14 1 1 := ⟨RX1, TX1, 4, rfl, rfl, inRX1, by decide, Or.inl (mm_gw_of (List.mem_of_getElem? (i := 171) (by decide +kernel)) rfl)⟩
theorem fkX1_20 : mm_fk RX1 20 1 2 := ⟨RX1, TX1, 4, rfl, rfl, inRX1, by decide, Or.inl (mm_gw_of (List.mem_of_getElem? (i := 172) (by decide +kernel)) rfl)⟩
theorem fkX1_23 : mm_fk RX1 23 1 3 := ⟨RX1, TX1, 4, rfl, rfl, inRX1, by decide, Or.inl (mm_gw_of (List.mem_of_getElem? (i := 173) (by decide +kernel)) rfl)⟩
theorem fkX7_62 : mm_fk RX7 62 7 0 := ⟨RX7, TX7, 18, rfl, rfl, inRX7, by decide, Or.inl (mm_gw_of (List.mem_of_getElem? (i := 191) (by decide +kernel)) rfl)⟩
theorem fkX10_142 : mm_fk RX10 142 7 0 := ⟨RX7, TX7, 18, rfl, rfl, inRX7, by decide, Or.inr ⟨"BatchWarehouse", (List.mem_of_getElem? (i := 192) (by decide +kernel))⟩⟩
theorem fkX7_66 : mm_fk RX7 66 7 1 := ⟨RX7, TX7, 18, rfl, rfl, inRX7, by decide, Or.inl (mm_gw_of (List.mem_of_getElem? (i := 193) (by decide +kernel)) rfl)⟩
theorem fkX10_202 : mm_fk RX10 202 7 1 := ⟨RX7, TX7, 18, rfl, rfl, inRX7, by decide, Or.inr ⟨"BatchWarehouse", (List.mem_of_getElem? (i := 194) (by decide +kernel))⟩⟩
theorem fkX7_14 : mm_fk RX7 14 7 2 := ⟨RX7, TX7, 18, rfl, rfl, inRX7, by decide, Or.inl (mm_gw_of (List.mem_of_getElem? (i := 195) (by decide +kernel)) rfl)⟩
theorem fkX10_208 : mm_fk RX10 208 7 2 := ⟨RX7, TX7, 18, rfl, rfl, inRX7, by decide, Or.inr ⟨"BatchWarehouse", (List.mem_of_getElem? (i := 196) (by decide +kernel))⟩⟩
theorem fkX7_20 : mm_fk RX7 20 7 3 := ⟨RX7, TX7, 18, rfl, rfl, inRX7, by decide, Or.inl (mm_gw_of (List.mem_of_getElem? (i := 197) (by decide +kernel)) rfl)⟩
theorem fkX10_211 : mm_fk RX10 211 7 3 := ⟨RX7, TX7, 18, rfl, rfl, inRX7, by decide, Or.inr ⟨"BatchWarehouse", (List.mem_of_getElem? (i := 198) (by decide +kernel))⟩⟩
theorem fkX7_23 : mm_fk RX7 23 7 4 := ⟨RX7, TX7, 18, rfl, rfl, inRX7, by decide, Or.inl (mm_gw_of (List.mem_of_getElem? (i := 199) (by decide +kernel)) rfl)⟩
theorem fkX10_214 : mm_fk RX10 214 7 4 := ⟨RX7, TX7, 18, rfl, rfl, inRX7, by decide, Or.inr ⟨"BatchWarehouse", (List.mem_of_getElem? (i := 200) (by decide +kernel))⟩⟩
theorem fkX7_26 : mm_fk RX7 26 7 5 := ⟨RX7, TX7, 18, rfl, rfl, inRX7, by decide, Or.inl (mm_gw_of (List.mem_of_getElem? (i := 201) (by decide +kernel)) rfl)⟩
theorem fkX10_217 : mm_fk RX10 217 7 5 := ⟨RX7, TX7, 18, rfl, rfl, inRX7, by decide, Or.inr ⟨"BatchWarehouse", (List.mem_of_getElem? (i := 202) (by decide +kernel))⟩⟩
theorem fkX7_29 : mm_fk RX7 29 7 6 := ⟨RX7, TX7, 18, rfl, rfl, inRX7, by decide, Or.inl (mm_gw_of (List.mem_of_getElem? (i := 203) (by decide +kernel)) rfl)⟩
theorem fkX10_220 : mm_fk RX10 220 7 6 := ⟨RX7, TX7, 18, rfl, rfl, inRX7, by decide, Or.inr ⟨"BatchWarehouse", (List.mem_of_getElem? (i := 204) (by decide +kernel))⟩⟩
theorem fkX7_69 : mm_fk RX7 69 7 7 := ⟨RX7, TX7, 18, rfl, rfl, inRX7, by decide, Or.inl (mm_gw_of (List.mem_of_getElem? (i := 205) (by decide +kernel)) rfl)⟩
theorem fkX10_240 : mm_fk RX10 240 7 7 := ⟨RX7, TX7, 18, rfl, rfl, inRX7, by decide, Or.inr ⟨"BatchWarehouse", (List.mem_of_getElem? (i := 206) (by decide +kernel))⟩⟩
theorem fkX7_32 : mm_fk RX7 32 7 8 := ⟨RX7, TX7, 18, rfl, rfl, inRX7, by decide, Or.inl (mm_gw_of (List.mem_of_getElem? (i := 207) (by decide +kernel)) rfl)⟩
theorem fkX7_35 : mm_fk RX7 35 7 9 := ⟨RX7, TX7, 18, rfl, rfl, inRX7, by decide, Or.inl (mm_gw_of (List.mem_of_getElem? (i := 208) (by decide +kernel)) rfl)⟩
theorem fkX10_249 : mm_fk RX10 249 7 9 := ⟨RX7, TX7, 18, rfl, rfl, inRX7, by decide, Or.inr ⟨"BatchWarehouse", (List.mem_of_getElem? (i := 209) (by decide +kernel))⟩⟩
theorem fkX7_38 : mm_fk RX7 38 7 10 := ⟨RX7, TX7, 18, rfl, rfl, inRX7, by decide, Or.inl (mm_gw_of (List.mem_of_getElem? (i := 210) (by decide +kernel)) rfl)⟩
theorem fkX7_41 : mm_fk RX7 41 7 11 := ⟨RX7, TX7, 18, rfl, rfl, inRX7, by decide, Or.inl (mm_gw_of (List.mem_of_getElem? (i := 211) (by decide +kernel)) rfl)⟩
theorem fkX7_44 : mm_fk RX7 44 7 12 := ⟨RX7, TX7, 18, rfl, rfl, inRX7, by decide, Or.inl (mm_gw_of (List.mem_of_getElem? (i := 212) (by decide +kernel)) rfl)⟩
theorem fkX7_47 : mm_fk RX7 47 7 13 := ⟨RX7, TX7, 18, rfl, rfl, inRX7, by decide, Or.inl (mm_gw_of (List.mem_of_getElem? (i := 213) (by decide +kernel)) rfl)⟩
theorem fkX7_50 : mm_fk RX7 50 7 14 := ⟨RX7, TX7, 18, rfl, rfl, inRX7, by decide, Or.inl (mm_gw_of (List.mem_of_getElem? (i := 214) (by decide +kernel)) rfl)⟩
theorem fkX7_53 : mm_fk RX7 53 7 15 := ⟨RX7, TX7, 18, rfl, rfl, inRX7, by decide, Or.inl (mm_gw_of (List.mem_of_getElem? (i := 215) (by decide +kernel)) rfl)⟩
theorem fkX7_56 : mm_fk RX7 56 7 16 := ⟨RX7, TX7, 18, rfl, rfl, inRX7, by decide, Or.inl (mm_gw_of (List.mem_of_getElem? (i := 216) (by decide +kernel)) rfl)⟩
theorem fkX7_59 : mm_fk RX7 59 7 17 := ⟨RX7, TX7, 18, rfl, rfl, inRX7, by decide, Or.inl (mm_gw_of (List.mem_of_getElem? (i := 217) (by decide +kernel)) rfl)⟩
theorem fkX6_15 : mm_fk RX6 15 6 0 := ⟨RX6, TX6, 2, rfl, rfl, inRX6, by decide, Or.inl (mm_gw_of (List.mem_of_getElem? (i := 273) (by decide +kernel)) rfl)⟩
theorem fkX6_26 : mm_fk RX6 26 6 1 := ⟨RX6, TX6, 2, rfl, rfl, inRX6, by decide, Or.inl (mm_gw_of (List.mem_of_getElem? (i := 274) (by decide +kernel)) rfl)⟩
theorem fkX2_14 : mm_fk RX2 14 2 0 := ⟨RX2, TX2, 3, rfl, rfl, inRX2, by decide, Or.inl (mm_gw_of (List.mem_of_getElem? (i := 280) (by decide +kernel)) rfl)⟩
theorem fkX2_24 : mm_fk RX2 24 2 1 := ⟨RX2, TX2, 3, rfl, rfl, inRX2, by decide, Or.inl (mm_gw_of (List.mem_of_getElem? (i := 281) (by decide +kernel)) rfl)⟩
theorem fkX2_20 : mm_fk RX2 20 2 2 := ⟨RX2, TX2, 3, rfl, rfl, inRX2, by decide, Or.inl (mm_gw_of (List.mem_of_getElem? (i := 282) (by decide +kernel)) rfl)⟩
theorem fkX0_23 : mm_fk RX0 23 0 0 := ⟨RX0, TX0, 3, rfl, rfl, inRX0, by decide, Or.inl (mm_gw_of (List.mem_of_getElem? (i := 300) (by decide +kernel)) rfl)⟩
theorem fkX7_102 : mm_fk RX7 102 0 0 := ⟨RX0, TX0, 3, rfl, rfl, inRX0, by decide, Or.inr ⟨"BatchWarehouse", (List.mem_of_getElem? (i := 301) (by decide +kernel))⟩⟩
theorem fkX0_14 : mm_fk RX0 14 0 1 := ⟨RX0, TX0, 3, rfl, rfl, inRX0, by decide, Or.inl (mm_gw_of (List.mem_of_getElem? (i := 302) (by decide +kernel)) rfl)⟩
theorem fkX7_105 : mm_fk RX7 105 0 1 := ⟨RX0, TX0, 3, rfl, rfl, inRX0, by decide, Or.inr ⟨"BatchWarehouse", (List.mem_of_getElem? (i := 303) (by decide +kernel))⟩⟩
theorem fkX0_20 : mm_fk RX0 20 0 2 := ⟨RX0, TX0, 3, rfl, rfl, inRX0, by decide, Or.inl (mm_gw_of (List.mem_of_getElem? (i := 304) (by decide +kernel)) rfl)⟩
theorem fkX10_14 : mm_fk RX10 14 10 0 := ⟨RX10, TX10, 11, rfl, rfl, inRX10, by decide, Or.inl (mm_gw_of (List.mem_of_getElem? (i := 396) (by decide +kernel)) rfl)⟩
theorem fkX10_18 : mm_fk RX10 18 10 1 := ⟨RX10, TX10, 11, rfl, rfl, inRX10, by decide, Or.inl (mm_gw_of (List.mem_of_getElem? (i := 397) (by decide +kernel)) rfl)⟩
theorem fkX10_24 : mm_fk RX10 24 10 2 := ⟨RX10, TX10, 11, rfl, rfl, inRX10, by decide, Or.inl (mm_gw_of (List.mem_of_getElem? (i := 398) (by decide +kernel)) rfl)⟩
theorem fkX10_31 : mm_fk RX10 31 10 3 := ⟨RX10, TX10, 11, rfl, rfl, inRX10, by decide, Or.inl (mm_gw_of (List.mem_of_getElem? (i := 399) (by decide +kernel)) rfl)⟩
theorem fkX10_38 : mm_fk RX10 38 10 4 := ⟨RX10, TX10, 11, rfl, rfl, inRX10, by decide, Or.inl (mm_gw_of (List.mem_of_getElem? (i := 400) (by decide +kernel)) rfl)⟩
theorem fkX10_45 : mm_fk RX10 45 10 5 := ⟨RX10, TX10, 11, rfl, rfl, inRX10, by decide, Or.inl (mm_gw_of (List.mem_of_getElem? (i := 401) (by decide +kernel)) rfl)⟩
theorem fkX10_49 : mm_fk RX10 49 10 6 := ⟨RX10, TX10, 11, rfl, rfl, inRX10, by decide, Or.inl (mm_gw_of (List.mem_of_getElem? (i := 402) (by decide +kernel)) rfl)⟩
theorem fkX10_52 : mm_fk RX10 52 10 7 := ⟨RX10, TX10, 11, rfl, rfl, inRX10, by decide, Or.inl (mm_gw_of (List.mem_of_getElem? (i := 403) (by decide +kernel)) rfl)⟩
theorem fkX10_58 : mm_fk RX10 58 10 8 := ⟨RX10, TX10, 11, rfl, rfl, inRX10, by decide, Or.inl (mm_gw_of (List.mem_of_getElem? (i := 404) (by decide +kernel)) rfl)⟩
theorem fkX10_65 : mm_fk RX10 65 10 9 := ⟨RX10, TX10, 11, rfl, rfl, inRX10, by decide, Or.inl (mm_gw_of (List.mem_of_getElem? (i := 405) (by decide +kernel)) rfl)⟩
theorem fkX10_72 : mm_fk RX10 72 10 10 := ⟨RX10, TX10, 11, rfl, rfl, inRX10, by decide, Or.inl (mm_gw_of (List.mem_of_getElem? (i := 406) (by decide +kernel)) rfl)⟩
theorem fkX11_18 : mm_fk RX11 18 11 0 := ⟨RX11, TX11, 5, rfl, rfl, inRX11, by decide, Or.inl (mm_gw_of (List.mem_of_getElem? (i := 891) (by decide +kernel)) rfl)⟩
theorem fkX11_7 : mm_fk RX11 7 11 1 := ⟨RX11, TX11, 5, rfl, rfl, inRX11, by decide, Or.inl (mm_gw_of (List.mem_of_getElem? (i := 892) (by decide +kernel)) rfl)⟩
theorem fkL_175 : mm_fk RL 175 11 1 := ⟨RX11, TX11, 5, rfl, rfl, inRX11, by decide, Or.inl (mm_gw_of (List.mem_of_getElem? (i := 893) (by decide +kernel)) rfl)⟩
theorem fkX11_15 : mm_fk RX11 15 11 2 := ⟨RX11, TX11, 5, rfl, rfl, inRX11, by decide, Or.inl (mm_gw_of (List.mem_of_getElem? (i := 894) (by decide +kernel)) rfl)⟩
theorem fkL_162 : mm_fk RL 162 11 2 := ⟨RX11, TX11, 5, rfl, rfl, inRX11, by decide, Or.inl (mm_gw_of (List.mem_of_getElem? (i := 895) (by decide +kernel)) rfl)⟩
theorem fkX11_28 : mm_fk RX11 28 11 3 := ⟨RX11, TX11, 5, rfl, rfl, inRX11, by decide, Or.inl (mm_gw_of (List.mem_of_getElem? (i := 896) (by decide +kernel)) rfl)⟩
theorem fkL_159 : mm_fk RL 159 11 3 := ⟨RX11, TX11, 5, rfl, rfl, inRX11, by decide, Or.inl (mm_gw_of (List.mem_of_getElem? (i := 897) (by decide +kernel)) rfl)⟩
theorem fkX11_35 : mm_fk RX11 35 11 4 := ⟨RX11, TX11, 5, rfl, rfl, inRX11, by decide, Or.inl (mm_gw_of (List.mem_of_getElem? (i := 898) (by decide +kernel)) rfl)⟩
theorem fkL_155 : mm_fk RL 155 11 4 := ⟨RX11, TX11, 5, rfl, rfl, inRX11, by decide, Or.inl (mm_gw_of (List.mem_of_getElem? (i := 899) (by decide +kernel)) rfl)⟩
theorem fkJ5_15 : mm_fk RJ5 15 12 0 := ⟨RJ4, TJ4, 4, rfl, rfl, inRJ4, by decide, Or.inl (mm_gw_of (List.mem_of_getElem? (i := 1135) (by decide +kernel)) rfl)⟩
theorem fkJ5_22 : mm_fk RJ5 22 12 1 := ⟨RJ4, TJ4, 4, rfl, rfl, inRJ4, by decide, Or.inl (mm_gw_of (List.mem_of_getElem? (i := 1136) (by decide +kernel)) rfl)⟩
theorem fkJ0_1048 : mm_fk RJ0 1048 12 2 := ⟨RJ4, TJ4, 4, rfl, rfl, inRJ4, by decide, Or.inl (mm_gw_of (List.mem_of_getElem? (i := 1137) (by decide +kernel)) rfl)⟩
theorem fkJ5_79 : mm_fk RJ5 79 12 3 := ⟨RJ4, TJ4, 4, rfl, rfl, inRJ4, by decide, Or.inl (mm_gw_of (List.mem_of_getElem? (i := 1138) (by decide +kernel)) rfl)⟩
theorem fkJ0_9 : mm_fk RJ0 9 13 0 := ⟨RJ0, TJ0, 4, rfl, rfl, inRJ0, by decide, Or.inl (mm_gw_of (List.mem_of_getElem? (i := 1235) (by decide +kernel)) rfl)⟩
theorem fkJ0_15 : mm_fk RJ0 15 13 1 := ⟨RJ0, TJ0, 4, rfl, rfl, inRJ0, by decide, Or.inl (mm_gw_of (List.mem_of_getElem? (i := 1236) (by decide +kernel)) rfl)⟩
theorem mfX0_init : mm_mI mX0_init 0 := ⟨⟨rfl, (mm_gw_of (List.mem_of_getElem? (i := 296) (by decide +kernel)) rfl), (mm_gw_of (List.mem_of_getElem? (i := 41) (by decide +kernel)) rfl), by decide +kernel, by decide +kernel⟩, rfl, rfl, (mm_gw_of (List.mem_of_getElem? (i := 295) (by decide +kernel)) rfl)⟩
theorem mfX0_empty : mm_mV mX0_empty 0 := ⟨⟨rfl, (mm_gw_of (List.mem_of_getElem? (i := 726) (by decide +kernel)) rfl), (mm_gw_of (List.mem_of_getElem? (i := 41) (by decide +kernel)) rfl), by decide +kernel, by decide +kernel⟩, (mm_gw_of (List.mem_of_getElem? (i := 724) (by decide +kernel)) rfl), (mm_gw_of (List.mem_of_getElem? (i := 725) (by decide +kernel)) rfl)⟩
theorem mfX0_insert : mm_mV mX0_insert 2 := ⟨⟨rfl, (mm_gw_of (List.mem_of_getElem? (i := 730) (by decide +kernel)) rfl), (mm_gw_of (List.mem_of_getElem? (i := 41) (by decide +kernel)) rfl), by decide +kernel, by decide +kernel⟩, (mm_gw_of (List.mem_of_getElem? (i := 728) (by decide +kernel)) rfl), (mm_gw_of (List.mem_of_getElem? (i := 729) (by decide +kernel)) rfl)⟩
theorem mfX1_init : mm_mI mX1_init 0 := ⟨⟨rfl, (mm_gw_of (List.mem_of_getElem? (i := 165) (by decide +kernel)) rfl), (mm_gw_of (List.mem_of_getElem? (i := 37) (by decide +kernel)) rfl), by decide +kernel, by decide +kernel⟩, rfl, rfl, (mm_gw_of (List.mem_of_getElem? (i := 164) (by decide +kernel)) rfl)⟩
theorem mfX1_empty : mm_mV mX1_empty 0 := ⟨⟨rfl, (mm_gw_of (List.mem_of_getElem? (i := 478) (by decide +kernel)) rfl), (mm_gw_of (List.mem_of_getElem? (i := 37) (by decide +kernel)) rfl), by decide +kernel, by decide +kernel⟩, (mm_gw_of (List.mem_of_getElem? (i := 476) (by decide +kernel)) rfl), (mm_gw_of (List.mem_of_getElem? (i := 477) (by decide +kernel)) rfl)⟩
theorem mfX1_copyFrom : mm_mV mX1_copyFrom 1 := ⟨⟨rfl, (mm_gw_of (List.mem_of_getElem? (i := 624) (by decide +kernel)) rfl), (mm_gw_of (List.mem_of_getElem? (i := 37) (by decide +kernel)) rfl), by decide +kernel, by decide +kernel⟩, (mm_gw_of (List.mem_of_getElem? (i := 622) (by decide +kernel)) rfl), (mm_gw_of (List.mem_of_getElem? (i := 623) (by decide +kernel)) rfl)⟩
theorem mfX1_hasProduct : mm_mV mX1_hasProduct 1 := ⟨⟨rfl, (mm_gw_of (List.mem_of_getElem? (i := 695) (by decide +kernel)) rfl), (mm_gw_of (List.mem_of_getElem? (i := 37) (by decide +kernel)) rfl), by decide +kernel, by decide +kernel⟩, (mm_gw_of (List.mem_of_getElem? (i := 693) (by decide +kernel)) rfl), (mm_gw_of (List.mem_of_getElem? (i := 694) (by decide +kernel)) rfl)⟩
theorem mfX1_addProduct : mm_mV mX1_addProduct 2 := ⟨⟨rfl, (mm_gw_of (List.mem_of_getElem? (i := 316) (by decide +kernel)) rfl), (mm_gw_of (List.mem_of_getElem? (i := 37) (by decide +kernel)) rfl), by decide +kernel, by decide +kernel⟩, (mm_gw_of (List.mem_of_getElem? (i := 314) (by decide +kernel)) rfl), (mm_gw_of (List.mem_of_getElem? (i := 315) (by decide +kernel)) rfl)⟩
theorem mfX1_addNameless : mm_mV mX1_addNameless 0 := ⟨⟨rfl, (mm_gw_of (List.mem_of_getElem? (i := 320) (by decide +kernel)) rfl), (mm_gw_of (List.mem_of_getElem? (i := 37) (by decide +kernel)) rfl), by decide +kernel, by decide +kernel⟩, (mm_gw_of (List.mem_of_getElem? (i := 318) (by decide +kernel)) rfl), (mm_gw_of (List.mem_of_getElem? (i := 319) (by decide +kernel)) rfl)⟩
theorem mfX1_addLetter : mm_mV mX1_addLetter 1 := ⟨⟨rfl, (mm_gw_of (List.mem_of_getElem? (i := 376) (by decide +kernel)) rfl), (mm_gw_of (List.mem_of_getElem? (i := 37) (by decide +kernel)) rfl), by decide +kernel, by decide +kernel⟩, (mm_gw_of (List.mem_of_getElem? (i := 374) (by decide +kernel)) rfl), (mm_gw_of (List.mem_of_getElem? (i := 375) (by decide +kernel)) rfl)⟩
theorem mfX1_setMinimum : mm_mV mX1_setMinimum 1 := ⟨⟨rfl, (mm_gw_of (List.mem_of_getElem? (i := 384) (by decide +kernel)) rfl), (mm_gw_of (List.mem_of_getElem? (i := 37) (by decide +kernel)) rfl), by decide +kernel, by decide +kernel⟩, (mm_gw_of (List.mem_of_getElem? (i := 382) (by decide +kernel)) rfl), (mm_gw_of (List.mem_of_getElem? (i := 383) (by decide +kernel)) rfl)⟩
theorem mfX1_numberOf : mm_mV mX1_numberOf 3 := ⟨⟨rfl, (mm_gw_of (List.mem_of_getElem? (i := 520) (by decide +kernel)) rfl), (mm_gw_of (List.mem_of_getElem? (i := 37) (by decide +kernel)) rfl), by decide +kernel, by decide +kernel⟩, (mm_gw_of (List.mem_of_getElem? (i := 518) (by decide +kernel)) rfl), (mm_gw_of (List.mem_of_getElem? (i := 519) (by decide +kernel)) rfl)⟩
theorem mfX1_hasLetters : mm_mV mX1_hasLetters 3 := ⟨⟨rfl, (mm_gw_of (List.mem_of_getElem? (i := 524) (by decide +kernel)) rfl), (mm_gw_of (List.mem_of_getElem? (i := 37) (by decide +kernel)) rfl), by decide +kernel, by decide +kernel⟩, (mm_gw_of (List.mem_of_getElem? (i := 523) (by decide +kernel)) rfl), (mm_gw_of (List.mem_of_getElem? (i := 8) (by decide +kernel)) rfl)⟩
theorem mfX2_init : mm_mI mX2_init 0 := ⟨⟨rfl, (mm_gw_of (List.mem_of_getElem? (i := 259) (by decide +kernel)) rfl), (mm_gw_of (List.mem_of_getElem? (i := 39) (by decide +kernel)) rfl), by decide +kernel, by decide +kernel⟩, rfl, rfl, (mm_gw_of (List.mem_of_getElem? (i := 258) (by decide +kernel)) rfl)⟩
theorem mfX2_forget : mm_mV mX2_forget 0 := ⟨⟨rfl, (mm_gw_of (List.mem_of_getElem? (i := 646) (by decide +kernel)) rfl), (mm_gw_of (List.mem_of_getElem? (i := 39) (by decide +kernel)) rfl), by decide +kernel, by decide +kernel⟩, (mm_gw_of (List.mem_of_getElem? (i := 644) (by decide +kernel)) rfl), (mm_gw_of (List.mem_of_getElem? (i := 645) (by decide +kernel)) rfl)⟩
theorem mfX2_remember : mm_mV mX2_remember 1 := ⟨⟨rfl, (mm_gw_of (List.mem_of_getElem? (i := 820) (by decide +kernel)) rfl), (mm_gw_of (List.mem_of_getElem? (i := 39) (by decide +kernel)) rfl), by decide +kernel, by decide +kernel⟩, (mm_gw_of (List.mem_of_getElem? (i := 818) (by decide +kernel)) rfl), (mm_gw_of (List.mem_of_getElem? (i := 819) (by decide +kernel)) rfl)⟩
theorem mfX3_init : mm_mI mX3_init 0 := ⟨⟨rfl, (mm_gw_of (List.mem_of_getElem? (i := 91) (by decide +kernel)) rfl), (mm_gw_of (List.mem_of_getElem? (i := 33) (by decide +kernel)) rfl), by decide +kernel, by decide +kernel⟩, rfl, rfl, (mm_gw_of (List.mem_of_getElem? (i := 90) (by decide +kernel)) rfl)⟩
theorem mfX3_parseSetup : mm_mV mX3_parseSetup 3 := ⟨⟨rfl, (mm_gw_of (List.mem_of_getElem? (i := 437) (by decide +kernel)) rfl), (mm_gw_of (List.mem_of_getElem? (i := 33) (by decide +kernel)) rfl), by decide +kernel, by decide +kernel⟩, (mm_gw_of (List.mem_of_getElem? (i := 435) (by decide +kernel)) rfl), (mm_gw_of (List.mem_of_getElem? (i := 436) (by decide +kernel)) rfl)⟩
theorem mfX3_begin : mm_mV mX3_begin 1 := ⟨⟨rfl, (mm_gw_of (List.mem_of_getElem? (i := 441) (by decide +kernel)) rfl), (mm_gw_of (List.mem_of_getElem? (i := 33) (by decide +kernel)) rfl), by decide +kernel, by decide +kernel⟩, (mm_gw_of (List.mem_of_getElem? (i := 440) (by decide +kernel)) rfl), (mm_gw_of (List.mem_of_getElem? (i := 0) (by decide +kernel)) rfl)⟩
theorem mfX3_fail : mm_mV mX3_fail 1 := ⟨⟨rfl, (mm_gw_of (List.mem_of_getElem? (i := 501) (by decide +kernel)) rfl), (mm_gw_of (List.mem_of_getElem? (i := 33) (by decide +kernel)) rfl), by decide +kernel, by decide +kernel⟩, (mm_gw_of (List.mem_of_getElem? (i := 500) (by decide +kernel)) rfl), (mm_gw_of (List.mem_of_getElem? (i := 4) (by decide +kernel)) rfl)⟩
theorem mfX3_takeWord : mm_mV mX3_takeWord 1 := ⟨⟨rfl, (mm_gw_of (List.mem_of_getElem? (i := 491) (by decide +kernel)) rfl), (mm_gw_of (List.mem_of_getElem? (i := 33) (by decide +kernel)) rfl), by decide +kernel, by decide +kernel⟩, (mm_gw_of (List.mem_of_getElem? (i := 490) (by decide +kernel)) rfl), (mm_gw_of (List.mem_of_getElem? (i := 3) (by decide +kernel)) rfl)⟩
theorem mfX3_takeSemicolon : mm_mV mX3_takeSemicolon 0 := ⟨⟨rfl, (mm_gw_of (List.mem_of_getElem? (i := 506) (by decide +kernel)) rfl), (mm_gw_of (List.mem_of_getElem? (i := 33) (by decide +kernel)) rfl), by decide +kernel, by decide +kernel⟩, (mm_gw_of (List.mem_of_getElem? (i := 505) (by decide +kernel)) rfl), (mm_gw_of (List.mem_of_getElem? (i := 5) (by decide +kernel)) rfl)⟩
theorem mfX3_takeNumber : mm_mV mX3_takeNumber 2 := ⟨⟨rfl, (mm_gw_of (List.mem_of_getElem? (i := 532) (by decide +kernel)) rfl), (mm_gw_of (List.mem_of_getElem? (i := 33) (by decide +kernel)) rfl), by decide +kernel, by decide +kernel⟩, (mm_gw_of (List.mem_of_getElem? (i := 531) (by decide +kernel)) rfl), (mm_gw_of (List.mem_of_getElem? (i := 9) (by decide +kernel)) rfl)⟩
theorem mfX3_takeKnownName : mm_mV mX3_takeKnownName 1 := ⟨⟨rfl, (mm_gw_of (List.mem_of_getElem? (i := 545) (by decide +kernel)) rfl), (mm_gw_of (List.mem_of_getElem? (i := 33) (by decide +kernel)) rfl), by decide +kernel, by decide +kernel⟩, (mm_gw_of (List.mem_of_getElem? (i := 544) (by decide +kernel)) rfl), (mm_gw_of (List.mem_of_getElem? (i := 11) (by decide +kernel)) rfl)⟩
theorem mfX3_takeNewName : mm_mV mX3_takeNewName 1 := ⟨⟨rfl, (mm_gw_of (List.mem_of_getElem? (i := 515) (by decide +kernel)) rfl), (mm_gw_of (List.mem_of_getElem? (i := 33) (by decide +kernel)) rfl), by decide +kernel, by decide +kernel⟩, (mm_gw_of (List.mem_of_getElem? (i := 514) (by decide +kernel)) rfl), (mm_gw_of (List.mem_of_getElem? (i := 7) (by decide +kernel)) rfl)⟩
theorem mfX3_takeProduct : mm_mV mX3_takeProduct 1 := ⟨⟨rfl, (mm_gw_of (List.mem_of_getElem? (i := 510) (by decide +kernel)) rfl), (mm_gw_of (List.mem_of_getElem? (i := 33) (by decide +kernel)) rfl), by decide +kernel, by decide +kernel⟩, (mm_gw_of (List.mem_of_getElem? (i := 509) (by decide +kernel)) rfl), (mm_gw_of (List.mem_of_getElem? (i := 6) (by decide +kernel)) rfl)⟩
theorem mfX3_takeBatch : mm_mV mX3_takeBatch 2 := ⟨⟨rfl, (mm_gw_of (List.mem_of_getElem? (i := 541) (by decide +kernel)) rfl), (mm_gw_of (List.mem_of_getElem? (i := 33) (by decide +kernel)) rfl), by decide +kernel, by decide +kernel⟩, (mm_gw_of (List.mem_of_getElem? (i := 540) (by decide +kernel)) rfl), (mm_gw_of (List.mem_of_getElem? (i := 10) (by decide +kernel)) rfl)⟩
theorem mfX4_init : mm_mI mX4_init 1 := ⟨⟨rfl, (mm_gw_of (List.mem_of_getElem? (i := 142) (by decide +kernel)) rfl), (mm_gw_of (List.mem_of_getElem? (i := 36) (by decide +kernel)) rfl), by decide +kernel, by decide +kernel⟩, rfl, rfl, (mm_gw_of (List.mem_of_getElem? (i := 141) (by decide +kernel)) rfl)⟩
theorem mfX4_get : mm_mV mX4_get 1 := ⟨⟨rfl, (mm_gw_of (List.mem_of_getElem? (i := 380) (by decide +kernel)) rfl), (mm_gw_of (List.mem_of_getElem? (i := 36) (by decide +kernel)) rfl), by decide +kernel, by decide +kernel⟩, (mm_gw_of (List.mem_of_getElem? (i := 378) (by decide +kernel)) rfl), (mm_gw_of (List.mem_of_getElem? (i := 379) (by decide +kernel)) rfl)⟩
theorem mfX4_put : mm_mV mX4_put 2 := ⟨⟨rfl, (mm_gw_of (List.mem_of_getElem? (i := 324) (by decide +kernel)) rfl), (mm_gw_of (List.mem_of_getElem? (i := 36) (by decide +kernel)) rfl), by decide +kernel, by decide +kernel⟩, (mm_gw_of (List.mem_of_getElem? (i := 322) (by decide +kernel)) rfl), (mm_gw_of (List.mem_of_getElem? (i := 323) (by decide +kernel)) rfl)⟩
theorem mfX4_add : mm_mV mX4_add 2 := ⟨⟨rfl, (mm_gw_of (List.mem_of_getElem? (i := 395) (by decide +kernel)) rfl), (mm_gw_of (List.mem_of_getElem? (i := 36) (by decide +kernel)) rfl), by decide +kernel, by decide +kernel⟩, (mm_gw_of (List.mem_of_getElem? (i := 393) (by decide +kernel)) rfl), (mm_gw_of (List.mem_of_getElem? (i := 394) (by decide +kernel)) rfl)⟩
theorem mfX4_zero : mm_mV mX4_zero 0 := ⟨⟨rfl, (mm_gw_of (List.mem_of_getElem? (i := 486) (by decide +kernel)) rfl), (mm_gw_of (List.mem_of_getElem? (i := 36) (by decide +kernel)) rfl), by decide +kernel, by decide +kernel⟩, (mm_gw_of (List.mem_of_getElem? (i := 484) (by decide +kernel)) rfl), (mm_gw_of (List.mem_of_getElem? (i := 485) (by decide +kernel)) rfl)⟩
theorem mfX4_copyFrom : mm_mV mX4_copyFrom 1 := ⟨⟨rfl, (mm_gw_of (List.mem_of_getElem? (i := 628) (by decide +kernel)) rfl), (mm_gw_of (List.mem_of_getElem? (i := 36) (by decide +kernel)) rfl), by decide +kernel, by decide +kernel⟩, (mm_gw_of (List.mem_of_getElem? (i := 626) (by decide +kernel)) rfl), (mm_gw_of (List.mem_of_getElem? (i := 627) (by decide +kernel)) rfl)⟩
theorem mfX5_init : mm_mI mX5_init 0 := ⟨⟨rfl, (mm_gw_of (List.mem_of_getElem? (i := 136) (by decide +kernel)) rfl), (mm_gw_of (List.mem_of_getElem? (i := 35) (by decide +kernel)) rfl), by decide +kernel, by decide +kernel⟩, rfl, rfl, (mm_gw_of (List.mem_of_getElem? (i := 135) (by decide +kernel)) rfl)⟩
theorem mfX6_init : mm_mI mX6_init 1 := ⟨⟨rfl, (mm_gw_of (List.mem_of_getElem? (i := 265) (by decide +kernel)) rfl), (mm_gw_of (List.mem_of_getElem? (i := 40) (by decide +kernel)) rfl), by decide +kernel, by decide +kernel⟩, rfl, rfl, (mm_gw_of (List.mem_of_getElem? (i := 264) (by decide +kernel)) rfl)⟩
theorem mfX6_empty : mm_mV mX6_empty 0 := ⟨⟨rfl, (mm_gw_of (List.mem_of_getElem? (i := 641) (by decide +kernel)) rfl), (mm_gw_of (List.mem_of_getElem? (i := 40) (by decide +kernel)) rfl), by decide +kernel, by decide +kernel⟩, (mm_gw_of (List.mem_of_getElem? (i := 639) (by decide +kernel)) rfl), (mm_gw_of (List.mem_of_getElem? (i := 640) (by decide +kernel)) rfl)⟩
theorem mfX6_store : mm_mV mX6_store 2 := ⟨⟨rfl, (mm_gw_of (List.mem_of_getElem? (i := 824) (by decide +kernel)) rfl), (mm_gw_of (List.mem_of_getElem? (i := 40) (by decide +kernel)) rfl), by decide +kernel, by decide +kernel⟩, (mm_gw_of (List.mem_of_getElem? (i := 822) (by decide +kernel)) rfl), (mm_gw_of (List.mem_of_getElem? (i := 823) (by decide +kernel)) rfl)⟩
theorem mfX7_init : mm_mI mX7_init 0 := ⟨⟨rfl, (mm_gw_of (List.mem_of_getElem? (i := 187) (by decide +kernel)) rfl), (mm_gw_of (List.mem_of_getElem? (i := 38) (by decide +kernel)) rfl), by decide +kernel, by decide +kernel⟩, rfl, rfl, (mm_gw_of (List.mem_of_getElem? (i := 186) (by decide +kernel)) rfl)⟩
theorem mfX7_empty : mm_mV mX7_empty 0 := ⟨⟨rfl, (mm_gw_of (List.mem_of_getElem? (i := 482) (by decide +kernel)) rfl), (mm_gw_of (List.mem_of_getElem? (i := 38) (by decide +kernel)) rfl), by decide +kernel, by decide +kernel⟩, (mm_gw_of (List.mem_of_getElem? (i := 480) (by decide +kernel)) rfl), (mm_gw_of (List.mem_of_getElem? (i := 481) (by decide +kernel)) rfl)⟩
theorem mfX7_copyFrom : mm_mV mX7_copyFrom 1 := ⟨⟨rfl, (mm_gw_of (List.mem_of_getElem? (i := 636) (by decide +kernel)) rfl), (mm_gw_of (List.mem_of_getElem? (i := 38) (by decide +kernel)) rfl), by decide +kernel, by decide +kernel⟩, (mm_gw_of (List.mem_of_getElem? (i := 634) (by decide +kernel)) rfl), (mm_gw_of (List.mem_of_getElem? (i := 635) (by decide +kernel)) rfl)⟩
theorem mfX7_hasBatch : mm_mV mX7_hasBatch 1 := ⟨⟨rfl, (mm_gw_of (List.mem_of_getElem? (i := 662) (by decide +kernel)) rfl), (mm_gw_of (List.mem_of_getElem? (i := 38) (by decide +kernel)) rfl), by decide +kernel, by decide +kernel⟩, (mm_gw_of (List.mem_of_getElem? (i := 660) (by decide +kernel)) rfl), (mm_gw_of (List.mem_of_getElem? (i := 661) (by decide +kernel)) rfl)⟩
theorem mfX7_hasExpired : mm_mV mX7_hasExpired 1 := ⟨⟨rfl, (mm_gw_of (List.mem_of_getElem? (i := 878) (by decide +kernel)) rfl), (mm_gw_of (List.mem_of_getElem? (i := 38) (by decide +kernel)) rfl), by decide +kernel, by decide +kernel⟩, (mm_gw_of (List.mem_of_getElem? (i := 876) (by decide +kernel)) rfl), (mm_gw_of (List.mem_of_getElem? (i := 877) (by decide +kernel)) rfl)⟩
theorem mfX7_isOf : mm_mV mX7_isOf 2 := ⟨⟨rfl, (mm_gw_of (List.mem_of_getElem? (i := 709) (by decide +kernel)) rfl), (mm_gw_of (List.mem_of_getElem? (i := 38) (by decide +kernel)) rfl), by decide +kernel, by decide +kernel⟩, (mm_gw_of (List.mem_of_getElem? (i := 708) (by decide +kernel)) rfl), (mm_gw_of (List.mem_of_getElem? (i := 15) (by decide +kernel)) rfl)⟩
theorem mfX7_lastsUntil : mm_mV mX7_lastsUntil 2 := ⟨⟨rfl, (mm_gw_of (List.mem_of_getElem? (i := 714) (by decide +kernel)) rfl), (mm_gw_of (List.mem_of_getElem? (i := 38) (by decide +kernel)) rfl), by decide +kernel, by decide +kernel⟩, (mm_gw_of (List.mem_of_getElem? (i := 713) (by decide +kernel)) rfl), (mm_gw_of (List.mem_of_getElem? (i := 16) (by decide +kernel)) rfl)⟩
theorem mfX7_freeUnitsIn : mm_mV mX7_freeUnitsIn 1 := ⟨⟨rfl, (mm_gw_of (List.mem_of_getElem? (i := 718) (by decide +kernel)) rfl), (mm_gw_of (List.mem_of_getElem? (i := 38) (by decide +kernel)) rfl), by decide +kernel, by decide +kernel⟩, (mm_gw_of (List.mem_of_getElem? (i := 716) (by decide +kernel)) rfl), (mm_gw_of (List.mem_of_getElem? (i := 717) (by decide +kernel)) rfl)⟩
theorem mfX7_collectIssueOrder : mm_mV mX7_collectIssueOrder 3 := ⟨⟨rfl, (mm_gw_of (List.mem_of_getElem? (i := 722) (by decide +kernel)) rfl), (mm_gw_of (List.mem_of_getElem? (i := 38) (by decide +kernel)) rfl), by decide +kernel, by decide +kernel⟩, (mm_gw_of (List.mem_of_getElem? (i := 720) (by decide +kernel)) rfl), (mm_gw_of (List.mem_of_getElem? (i := 721) (by decide +kernel)) rfl)⟩
theorem mfX7_costOfTaking : mm_mV mX7_costOfTaking 2 := ⟨⟨rfl, (mm_gw_of (List.mem_of_getElem? (i := 736) (by decide +kernel)) rfl), (mm_gw_of (List.mem_of_getElem? (i := 38) (by decide +kernel)) rfl), by decide +kernel, by decide +kernel⟩, (mm_gw_of (List.mem_of_getElem? (i := 734) (by decide +kernel)) rfl), (mm_gw_of (List.mem_of_getElem? (i := 735) (by decide +kernel)) rfl)⟩
theorem mfX7_unitsOf : mm_mV mX7_unitsOf 1 := ⟨⟨rfl, (mm_gw_of (List.mem_of_getElem? (i := 977) (by decide +kernel)) rfl), (mm_gw_of (List.mem_of_getElem? (i := 38) (by decide +kernel)) rfl), by decide +kernel, by decide +kernel⟩, (mm_gw_of (List.mem_of_getElem? (i := 975) (by decide +kernel)) rfl), (mm_gw_of (List.mem_of_getElem? (i := 976) (by decide +kernel)) rfl)⟩
theorem mfX7_availableUnits : mm_mV mX7_availableUnits 2 := ⟨⟨rfl, (mm_gw_of (List.mem_of_getElem? (i := 705) (by decide +kernel)) rfl), (mm_gw_of (List.mem_of_getElem? (i := 38) (by decide +kernel)) rfl), by decide +kernel, by decide +kernel⟩, (mm_gw_of (List.mem_of_getElem? (i := 703) (by decide +kernel)) rfl), (mm_gw_of (List.mem_of_getElem? (i := 704) (by decide +kernel)) rfl)⟩
theorem mfX7_unitsByAccounts : mm_mV mX7_unitsByAccounts 1 := ⟨⟨rfl, (mm_gw_of (List.mem_of_getElem? (i := 981) (by decide +kernel)) rfl), (mm_gw_of (List.mem_of_getElem? (i := 38) (by decide +kernel)) rfl), by decide +kernel, by decide +kernel⟩, (mm_gw_of (List.mem_of_getElem? (i := 979) (by decide +kernel)) rfl), (mm_gw_of (List.mem_of_getElem? (i := 980) (by decide +kernel)) rfl)⟩
theorem mfX7_hasReservation : mm_mV mX7_hasReservation 1 := ⟨⟨rfl, (mm_gw_of (List.mem_of_getElem? (i := 753) (by decide +kernel)) rfl), (mm_gw_of (List.mem_of_getElem? (i := 38) (by decide +kernel)) rfl), by decide +kernel, by decide +kernel⟩, (mm_gw_of (List.mem_of_getElem? (i := 751) (by decide +kernel)) rfl), (mm_gw_of (List.mem_of_getElem? (i := 752) (by decide +kernel)) rfl)⟩
theorem mfX7_isPending : mm_mV mX7_isPending 1 := ⟨⟨rfl, (mm_gw_of (List.mem_of_getElem? (i := 758) (by decide +kernel)) rfl), (mm_gw_of (List.mem_of_getElem? (i := 38) (by decide +kernel)) rfl), by decide +kernel, by decide +kernel⟩, (mm_gw_of (List.mem_of_getElem? (i := 756) (by decide +kernel)) rfl), (mm_gw_of (List.mem_of_getElem? (i := 757) (by decide +kernel)) rfl)⟩
theorem mfX7_allocatedUnits : mm_mV mX7_allocatedUnits 2 := ⟨⟨rfl, (mm_gw_of (List.mem_of_getElem? (i := 788) (by decide +kernel)) rfl), (mm_gw_of (List.mem_of_getElem? (i := 38) (by decide +kernel)) rfl), by decide +kernel, by decide +kernel⟩, (mm_gw_of (List.mem_of_getElem? (i := 786) (by decide +kernel)) rfl), (mm_gw_of (List.mem_of_getElem? (i := 787) (by decide +kernel)) rfl)⟩
theorem mfX7_missingUnits : mm_mV mX7_missingUnits 1 := ⟨⟨rfl, (mm_gw_of (List.mem_of_getElem? (i := 766) (by decide +kernel)) rfl), (mm_gw_of (List.mem_of_getElem? (i := 38) (by decide +kernel)) rfl), by decide +kernel, by decide +kernel⟩, (mm_gw_of (List.mem_of_getElem? (i := 764) (by decide +kernel)) rfl), (mm_gw_of (List.mem_of_getElem? (i := 765) (by decide +kernel)) rfl)⟩
theorem mfX7_shippingObstacle : mm_mV mX7_shippingObstacle 1 := ⟨⟨rfl, (mm_gw_of (List.mem_of_getElem? (i := 779) (by decide +kernel)) rfl), (mm_gw_of (List.mem_of_getElem? (i := 38) (by decide +kernel)) rfl), by decide +kernel, by decide +kernel⟩, (mm_gw_of (List.mem_of_getElem? (i := 777) (by decide +kernel)) rfl), (mm_gw_of (List.mem_of_getElem? (i := 778) (by decide +kernel)) rfl)⟩
theorem mfX7_holdsExpiringBefore : mm_mV mX7_holdsExpiringBefore 2 := ⟨⟨rfl, (mm_gw_of (List.mem_of_getElem? (i := 784) (by decide +kernel)) rfl), (mm_gw_of (List.mem_of_getElem? (i := 38) (by decide +kernel)) rfl), by decide +kernel, by decide +kernel⟩, (mm_gw_of (List.mem_of_getElem? (i := 783) (by decide +kernel)) rfl), (mm_gw_of (List.mem_of_getElem? (i := 19) (by decide +kernel)) rfl)⟩
theorem mfX7_allUnitsAllocated : mm_mV mX7_allUnitsAllocated 1 := ⟨⟨rfl, (mm_gw_of (List.mem_of_getElem? (i := 771) (by decide +kernel)) rfl), (mm_gw_of (List.mem_of_getElem? (i := 38) (by decide +kernel)) rfl), by decide +kernel, by decide +kernel⟩, (mm_gw_of (List.mem_of_getElem? (i := 770) (by decide +kernel)) rfl), (mm_gw_of (List.mem_of_getElem? (i := 18) (by decide +kernel)) rfl)⟩
theorem mfX7_addBatch : mm_mV mX7_addBatch 4 := ⟨⟨rfl, (mm_gw_of (List.mem_of_getElem? (i := 390) (by decide +kernel)) rfl), (mm_gw_of (List.mem_of_getElem? (i := 38) (by decide +kernel)) rfl), by decide +kernel, by decide +kernel⟩, (mm_gw_of (List.mem_of_getElem? (i := 388) (by decide +kernel)) rfl), (mm_gw_of (List.mem_of_getElem? (i := 389) (by decide +kernel)) rfl)⟩
theorem mfX7_issueUnits : mm_mV mX7_issueUnits 3 := ⟨⟨rfl, (mm_gw_of (List.mem_of_getElem? (i := 831) (by decide +kernel)) rfl), (mm_gw_of (List.mem_of_getElem? (i := 38) (by decide +kernel)) rfl), by decide +kernel, by decide +kernel⟩, (mm_gw_of (List.mem_of_getElem? (i := 829) (by decide +kernel)) rfl), (mm_gw_of (List.mem_of_getElem? (i := 830) (by decide +kernel)) rfl)⟩
theorem mfX7_addReservation : mm_mV mX7_addReservation 4 := ⟨⟨rfl, (mm_gw_of (List.mem_of_getElem? (i := 845) (by decide +kernel)) rfl), (mm_gw_of (List.mem_of_getElem? (i := 38) (by decide +kernel)) rfl), by decide +kernel, by decide +kernel⟩, (mm_gw_of (List.mem_of_getElem? (i := 843) (by decide +kernel)) rfl), (mm_gw_of (List.mem_of_getElem? (i := 844) (by decide +kernel)) rfl)⟩
theorem mfX7_refillReservation : mm_mV mX7_refillReservation 2 := ⟨⟨rfl, (mm_gw_of (List.mem_of_getElem? (i := 849) (by decide +kernel)) rfl), (mm_gw_of (List.mem_of_getElem? (i := 38) (by decide +kernel)) rfl), by decide +kernel, by decide +kernel⟩, (mm_gw_of (List.mem_of_getElem? (i := 847) (by decide +kernel)) rfl), (mm_gw_of (List.mem_of_getElem? (i := 848) (by decide +kernel)) rfl)⟩
theorem mfX7_shipReservation : mm_mV mX7_shipReservation 1 := ⟨⟨rfl, (mm_gw_of (List.mem_of_getElem? (i := 862) (by decide +kernel)) rfl), (mm_gw_of (List.mem_of_getElem? (i := 38) (by decide +kernel)) rfl), by decide +kernel, by decide +kernel⟩, (mm_gw_of (List.mem_of_getElem? (i := 860) (by decide +kernel)) rfl), (mm_gw_of (List.mem_of_getElem? (i := 861) (by decide +kernel)) rfl)⟩
theorem mfX7_cancelReservation : mm_mV mX7_cancelReservation 1 := ⟨⟨rfl, (mm_gw_of (List.mem_of_getElem? (i := 1278) (by decide +kernel)) rfl), (mm_gw_of (List.mem_of_getElem? (i := 38) (by decide +kernel)) rfl), by decide +kernel, by decide +kernel⟩, (mm_gw_of (List.mem_of_getElem? (i := 1276) (by decide +kernel)) rfl), (mm_gw_of (List.mem_of_getElem? (i := 1277) (by decide +kernel)) rfl)⟩
theorem mfX7_close : mm_mV mX7_close 2 := ⟨⟨rfl, (mm_gw_of (List.mem_of_getElem? (i := 866) (by decide +kernel)) rfl), (mm_gw_of (List.mem_of_getElem? (i := 38) (by decide +kernel)) rfl), by decide +kernel, by decide +kernel⟩, (mm_gw_of (List.mem_of_getElem? (i := 865) (by decide +kernel)) rfl), (mm_gw_of (List.mem_of_getElem? (i := 23) (by decide +kernel)) rfl)⟩
theorem mfX7_countBatch : mm_mV mX7_countBatch 2 := ⟨⟨rfl, (mm_gw_of (List.mem_of_getElem? (i := 1296) (by decide +kernel)) rfl), (mm_gw_of (List.mem_of_getElem? (i := 38) (by decide +kernel)) rfl), by decide +kernel, by decide +kernel⟩, (mm_gw_of (List.mem_of_getElem? (i := 1294) (by decide +kernel)) rfl), (mm_gw_of (List.mem_of_getElem? (i := 1295) (by decide +kernel)) rfl)⟩
theorem mfX7_writeOffExpiredBatches : mm_mV mX7_writeOffExpiredBatches 0 := ⟨⟨rfl, (mm_gw_of (List.mem_of_getElem? (i := 874) (by decide +kernel)) rfl), (mm_gw_of (List.mem_of_getElem? (i := 38) (by decide +kernel)) rfl), by decide +kernel, by decide +kernel⟩, (mm_gw_of (List.mem_of_getElem? (i := 872) (by decide +kernel)) rfl), (mm_gw_of (List.mem_of_getElem? (i := 873) (by decide +kernel)) rfl)⟩
theorem mfX7_writeOff : mm_mV mX7_writeOff 1 := ⟨⟨rfl, (mm_gw_of (List.mem_of_getElem? (i := 882) (by decide +kernel)) rfl), (mm_gw_of (List.mem_of_getElem? (i := 38) (by decide +kernel)) rfl), by decide +kernel, by decide +kernel⟩, (mm_gw_of (List.mem_of_getElem? (i := 881) (by decide +kernel)) rfl), (mm_gw_of (List.mem_of_getElem? (i := 24) (by decide +kernel)) rfl)⟩
theorem mfX7_advance : mm_mV mX7_advance 1 := ⟨⟨rfl, (mm_gw_of (List.mem_of_getElem? (i := 1308) (by decide +kernel)) rfl), (mm_gw_of (List.mem_of_getElem? (i := 38) (by decide +kernel)) rfl), by decide +kernel, by decide +kernel⟩, (mm_gw_of (List.mem_of_getElem? (i := 1306) (by decide +kernel)) rfl), (mm_gw_of (List.mem_of_getElem? (i := 1307) (by decide +kernel)) rfl)⟩
theorem mfX8_init : mm_mI mX8_init 1 := ⟨⟨rfl, (mm_gw_of (List.mem_of_getElem? (i := 72) (by decide +kernel)) rfl), (mm_gw_of (List.mem_of_getElem? (i := 31) (by decide +kernel)) rfl), by decide +kernel, by decide +kernel⟩, rfl, rfl, (mm_gw_of (List.mem_of_getElem? (i := 71) (by decide +kernel)) rfl)⟩
theorem mfX8_byteAt : mm_mV mX8_byteAt 1 := ⟨⟨rfl, (mm_gw_of (List.mem_of_getElem? (i := 453) (by decide +kernel)) rfl), (mm_gw_of (List.mem_of_getElem? (i := 31) (by decide +kernel)) rfl), by decide +kernel, by decide +kernel⟩, (mm_gw_of (List.mem_of_getElem? (i := 451) (by decide +kernel)) rfl), (mm_gw_of (List.mem_of_getElem? (i := 452) (by decide +kernel)) rfl)⟩
theorem mfX8_addByte : mm_mV mX8_addByte 1 := ⟨⟨rfl, (mm_gw_of (List.mem_of_getElem? (i := 1011) (by decide +kernel)) rfl), (mm_gw_of (List.mem_of_getElem? (i := 31) (by decide +kernel)) rfl), by decide +kernel, by decide +kernel⟩, (mm_gw_of (List.mem_of_getElem? (i := 1009) (by decide +kernel)) rfl), (mm_gw_of (List.mem_of_getElem? (i := 1010) (by decide +kernel)) rfl)⟩
theorem mfX8_addBytesOf : mm_mV mX8_addBytesOf 1 := ⟨⟨rfl, (mm_gw_of (List.mem_of_getElem? (i := 1007) (by decide +kernel)) rfl), (mm_gw_of (List.mem_of_getElem? (i := 31) (by decide +kernel)) rfl), by decide +kernel, by decide +kernel⟩, (mm_gw_of (List.mem_of_getElem? (i := 1005) (by decide +kernel)) rfl), (mm_gw_of (List.mem_of_getElem? (i := 1006) (by decide +kernel)) rfl)⟩
theorem mfX8_cutTo : mm_mV mX8_cutTo 1 := ⟨⟨rfl, (mm_gw_of (List.mem_of_getElem? (i := 550) (by decide +kernel)) rfl), (mm_gw_of (List.mem_of_getElem? (i := 31) (by decide +kernel)) rfl), by decide +kernel, by decide +kernel⟩, (mm_gw_of (List.mem_of_getElem? (i := 548) (by decide +kernel)) rfl), (mm_gw_of (List.mem_of_getElem? (i := 549) (by decide +kernel)) rfl)⟩
theorem mfX9_init : mm_mI mX9_init 0 := ⟨⟨rfl, (mm_gw_of (List.mem_of_getElem? (i := 97) (by decide +kernel)) rfl), (mm_gw_of (List.mem_of_getElem? (i := 34) (by decide +kernel)) rfl), by decide +kernel, by decide +kernel⟩, rfl, rfl, (mm_gw_of (List.mem_of_getElem? (i := 96) (by decide +kernel)) rfl)⟩
theorem mfX9_startWith : mm_mV mX9_startWith 1 := ⟨⟨rfl, (mm_gw_of (List.mem_of_getElem? (i := 445) (by decide +kernel)) rfl), (mm_gw_of (List.mem_of_getElem? (i := 34) (by decide +kernel)) rfl), by decide +kernel, by decide +kernel⟩, (mm_gw_of (List.mem_of_getElem? (i := 443) (by decide +kernel)) rfl), (mm_gw_of (List.mem_of_getElem? (i := 444) (by decide +kernel)) rfl)⟩
theorem mfX9_readToken : mm_mV mX9_readToken 0 := ⟨⟨rfl, (mm_gw_of (List.mem_of_getElem? (i := 449) (by decide +kernel)) rfl), (mm_gw_of (List.mem_of_getElem? (i := 34) (by decide +kernel)) rfl), by decide +kernel, by decide +kernel⟩, (mm_gw_of (List.mem_of_getElem? (i := 447) (by decide +kernel)) rfl), (mm_gw_of (List.mem_of_getElem? (i := 448) (by decide +kernel)) rfl)⟩
theorem mfX9_readWord : mm_mV mX9_readWord 0 := ⟨⟨rfl, (mm_gw_of (List.mem_of_getElem? (i := 463) (by decide +kernel)) rfl), (mm_gw_of (List.mem_of_getElem? (i := 34) (by decide +kernel)) rfl), by decide +kernel, by decide +kernel⟩, (mm_gw_of (List.mem_of_getElem? (i := 462) (by decide +kernel)) rfl), (mm_gw_of (List.mem_of_getElem? (i := 1) (by decide +kernel)) rfl)⟩
theorem mfX9_readNumber : mm_mV mX9_readNumber 0 := ⟨⟨rfl, (mm_gw_of (List.mem_of_getElem? (i := 474) (by decide +kernel)) rfl), (mm_gw_of (List.mem_of_getElem? (i := 34) (by decide +kernel)) rfl), by decide +kernel, by decide +kernel⟩, (mm_gw_of (List.mem_of_getElem? (i := 473) (by decide +kernel)) rfl), (mm_gw_of (List.mem_of_getElem? (i := 2) (by decide +kernel)) rfl)⟩
theorem mfX9_size : mm_mV mX9_size 0 := ⟨⟨rfl, (mm_gw_of (List.mem_of_getElem? (i := 467) (by decide +kernel)) rfl), (mm_gw_of (List.mem_of_getElem? (i := 34) (by decide +kernel)) rfl), by decide +kernel, by decide +kernel⟩, (mm_gw_of (List.mem_of_getElem? (i := 465) (by decide +kernel)) rfl), (mm_gw_of (List.mem_of_getElem? (i := 466) (by decide +kernel)) rfl)⟩
theorem mfX9_isWord : mm_mV mX9_isWord 1 := ⟨⟨rfl, (mm_gw_of (List.mem_of_getElem? (i := 495) (by decide +kernel)) rfl), (mm_gw_of (List.mem_of_getElem? (i := 34) (by decide +kernel)) rfl), by decide +kernel, by decide +kernel⟩, (mm_gw_of (List.mem_of_getElem? (i := 493) (by decide +kernel)) rfl), (mm_gw_of (List.mem_of_getElem? (i := 494) (by decide +kernel)) rfl)⟩
theorem mfX9_isSpace : mm_mS mX9_isSpace 1 := ⟨⟨rfl, (mm_gw_of (List.mem_of_getElem? (i := 456) (by decide +kernel)) rfl), (mm_gw_of (List.mem_of_getElem? (i := 34) (by decide +kernel)) rfl), by decide +kernel, by decide +kernel⟩, (mm_gw_of (List.mem_of_getElem? (i := 455) (by decide +kernel)) rfl)⟩
theorem mfX9_isLetter : mm_mS mX9_isLetter 1 := ⟨⟨rfl, (mm_gw_of (List.mem_of_getElem? (i := 459) (by decide +kernel)) rfl), (mm_gw_of (List.mem_of_getElem? (i := 34) (by decide +kernel)) rfl), by decide +kernel, by decide +kernel⟩, (mm_gw_of (List.mem_of_getElem? (i := 458) (by decide +kernel)) rfl)⟩
theorem mfX9_isDigit : mm_mS mX9_isDigit 1 := ⟨⟨rfl, (mm_gw_of (List.mem_of_getElem? (i := 470) (by decide +kernel)) rfl), (mm_gw_of (List.mem_of_getElem? (i := 34) (by decide +kernel)) rfl), by decide +kernel, by decide +kernel⟩, (mm_gw_of (List.mem_of_getElem? (i := 469) (by decide +kernel)) rfl)⟩
theorem mfX10_init : mm_mI mX10_init 0 := ⟨⟨rfl, (mm_gw_of (List.mem_of_getElem? (i := 64) (by decide +kernel)) rfl), (mm_gw_of (List.mem_of_getElem? (i := 30) (by decide +kernel)) rfl), by decide +kernel, by decide +kernel⟩, rfl, rfl, (mm_gw_of (List.mem_of_getElem? (i := 63) (by decide +kernel)) rfl)⟩
theorem mfX10_append : mm_mV mX10_append 5 := ⟨⟨rfl, (mm_gw_of (List.mem_of_getElem? (i := 1002) (by decide +kernel)) rfl), (mm_gw_of (List.mem_of_getElem? (i := 30) (by decide +kernel)) rfl), by decide +kernel, by decide +kernel⟩, (mm_gw_of (List.mem_of_getElem? (i := 1000) (by decide +kernel)) rfl), (mm_gw_of (List.mem_of_getElem? (i := 1001) (by decide +kernel)) rfl)⟩
theorem mfX10_truncate : mm_mV mX10_truncate 1 := ⟨⟨rfl, (mm_gw_of (List.mem_of_getElem? (i := 993) (by decide +kernel)) rfl), (mm_gw_of (List.mem_of_getElem? (i := 30) (by decide +kernel)) rfl), by decide +kernel, by decide +kernel⟩, (mm_gw_of (List.mem_of_getElem? (i := 991) (by decide +kernel)) rfl), (mm_gw_of (List.mem_of_getElem? (i := 992) (by decide +kernel)) rfl)⟩
theorem mfX10_load : mm_mV mX10_load 0 := ⟨⟨rfl, (mm_gw_of (List.mem_of_getElem? (i := 433) (by decide +kernel)) rfl), (mm_gw_of (List.mem_of_getElem? (i := 30) (by decide +kernel)) rfl), by decide +kernel, by decide +kernel⟩, (mm_gw_of (List.mem_of_getElem? (i := 431) (by decide +kernel)) rfl), (mm_gw_of (List.mem_of_getElem? (i := 432) (by decide +kernel)) rfl)⟩
theorem mfX10_productCount : mm_mV mX10_productCount 0 := ⟨⟨rfl, (mm_gw_of (List.mem_of_getElem? (i := 1252) (by decide +kernel)) rfl), (mm_gw_of (List.mem_of_getElem? (i := 30) (by decide +kernel)) rfl), by decide +kernel, by decide +kernel⟩, (mm_gw_of (List.mem_of_getElem? (i := 1250) (by decide +kernel)) rfl), (mm_gw_of (List.mem_of_getElem? (i := 1251) (by decide +kernel)) rfl)⟩
theorem mfX10_day : mm_mV mX10_day 0 := ⟨⟨rfl, (mm_gw_of (List.mem_of_getElem? (i := 650) (by decide +kernel)) rfl), (mm_gw_of (List.mem_of_getElem? (i := 30) (by decide +kernel)) rfl), by decide +kernel, by decide +kernel⟩, (mm_gw_of (List.mem_of_getElem? (i := 648) (by decide +kernel)) rfl), (mm_gw_of (List.mem_of_getElem? (i := 649) (by decide +kernel)) rfl)⟩
theorem mfX10_availableOn : mm_mV mX10_availableOn 2 := ⟨⟨rfl, (mm_gw_of (List.mem_of_getElem? (i := 1266) (by decide +kernel)) rfl), (mm_gw_of (List.mem_of_getElem? (i := 30) (by decide +kernel)) rfl), by decide +kernel, by decide +kernel⟩, (mm_gw_of (List.mem_of_getElem? (i := 1264) (by decide +kernel)) rfl), (mm_gw_of (List.mem_of_getElem? (i := 1265) (by decide +kernel)) rfl)⟩
theorem mfX10_batchCount : mm_mV mX10_batchCount 0 := ⟨⟨rfl, (mm_gw_of (List.mem_of_getElem? (i := 918) (by decide +kernel)) rfl), (mm_gw_of (List.mem_of_getElem? (i := 30) (by decide +kernel)) rfl), by decide +kernel, by decide +kernel⟩, (mm_gw_of (List.mem_of_getElem? (i := 916) (by decide +kernel)) rfl), (mm_gw_of (List.mem_of_getElem? (i := 917) (by decide +kernel)) rfl)⟩
theorem mfX10_productOf : mm_mV mX10_productOf 1 := ⟨⟨rfl, (mm_gw_of (List.mem_of_getElem? (i := 936) (by decide +kernel)) rfl), (mm_gw_of (List.mem_of_getElem? (i := 30) (by decide +kernel)) rfl), by decide +kernel, by decide +kernel⟩, (mm_gw_of (List.mem_of_getElem? (i := 934) (by decide +kernel)) rfl), (mm_gw_of (List.mem_of_getElem? (i := 935) (by decide +kernel)) rfl)⟩
theorem mfX10_quantity : mm_mV mX10_quantity 1 := ⟨⟨rfl, (mm_gw_of (List.mem_of_getElem? (i := 923) (by decide +kernel)) rfl), (mm_gw_of (List.mem_of_getElem? (i := 30) (by decide +kernel)) rfl), by decide +kernel, by decide +kernel⟩, (mm_gw_of (List.mem_of_getElem? (i := 921) (by decide +kernel)) rfl), (mm_gw_of (List.mem_of_getElem? (i := 922) (by decide +kernel)) rfl)⟩
theorem mfX10_reservedOf : mm_mV mX10_reservedOf 1 := ⟨⟨rfl, (mm_gw_of (List.mem_of_getElem? (i := 964) (by decide +kernel)) rfl), (mm_gw_of (List.mem_of_getElem? (i := 30) (by decide +kernel)) rfl), by decide +kernel, by decide +kernel⟩, (mm_gw_of (List.mem_of_getElem? (i := 962) (by decide +kernel)) rfl), (mm_gw_of (List.mem_of_getElem? (i := 963) (by decide +kernel)) rfl)⟩
theorem mfX10_expiryDay : mm_mV mX10_expiryDay 1 := ⟨⟨rfl, (mm_gw_of (List.mem_of_getElem? (i := 654) (by decide +kernel)) rfl), (mm_gw_of (List.mem_of_getElem? (i := 30) (by decide +kernel)) rfl), by decide +kernel, by decide +kernel⟩, (mm_gw_of (List.mem_of_getElem? (i := 652) (by decide +kernel)) rfl), (mm_gw_of (List.mem_of_getElem? (i := 653) (by decide +kernel)) rfl)⟩
theorem mfX10_unitCost : mm_mV mX10_unitCost 1 := ⟨⟨rfl, (mm_gw_of (List.mem_of_getElem? (i := 683) (by decide +kernel)) rfl), (mm_gw_of (List.mem_of_getElem? (i := 30) (by decide +kernel)) rfl), by decide +kernel, by decide +kernel⟩, (mm_gw_of (List.mem_of_getElem? (i := 681) (by decide +kernel)) rfl), (mm_gw_of (List.mem_of_getElem? (i := 682) (by decide +kernel)) rfl)⟩
theorem mfX10_costOfIssue : mm_mV mX10_costOfIssue 2 := ⟨⟨rfl, (mm_gw_of (List.mem_of_getElem? (i := 687) (by decide +kernel)) rfl), (mm_gw_of (List.mem_of_getElem? (i := 30) (by decide +kernel)) rfl), by decide +kernel, by decide +kernel⟩, (mm_gw_of (List.mem_of_getElem? (i := 685) (by decide +kernel)) rfl), (mm_gw_of (List.mem_of_getElem? (i := 686) (by decide +kernel)) rfl)⟩
theorem mfX10_reservationCount : mm_mV mX10_reservationCount 0 := ⟨⟨rfl, (mm_gw_of (List.mem_of_getElem? (i := 741) (by decide +kernel)) rfl), (mm_gw_of (List.mem_of_getElem? (i := 30) (by decide +kernel)) rfl), by decide +kernel, by decide +kernel⟩, (mm_gw_of (List.mem_of_getElem? (i := 739) (by decide +kernel)) rfl), (mm_gw_of (List.mem_of_getElem? (i := 740) (by decide +kernel)) rfl)⟩
theorem mfX10_reservedQuantity : mm_mV mX10_reservedQuantity 1 := ⟨⟨rfl, (mm_gw_of (List.mem_of_getElem? (i := 969) (by decide +kernel)) rfl), (mm_gw_of (List.mem_of_getElem? (i := 30) (by decide +kernel)) rfl), by decide +kernel, by decide +kernel⟩, (mm_gw_of (List.mem_of_getElem? (i := 967) (by decide +kernel)) rfl), (mm_gw_of (List.mem_of_getElem? (i := 968) (by decide +kernel)) rfl)⟩
theorem mfX10_isOpen : mm_mV mX10_isOpen 1 := ⟨⟨rfl, (mm_gw_of (List.mem_of_getElem? (i := 745) (by decide +kernel)) rfl), (mm_gw_of (List.mem_of_getElem? (i := 30) (by decide +kernel)) rfl), by decide +kernel, by decide +kernel⟩, (mm_gw_of (List.mem_of_getElem? (i := 743) (by decide +kernel)) rfl), (mm_gw_of (List.mem_of_getElem? (i := 744) (by decide +kernel)) rfl)⟩
theorem mfX10_missing : mm_mV mX10_missing 1 := ⟨⟨rfl, (mm_gw_of (List.mem_of_getElem? (i := 762) (by decide +kernel)) rfl), (mm_gw_of (List.mem_of_getElem? (i := 30) (by decide +kernel)) rfl), by decide +kernel, by decide +kernel⟩, (mm_gw_of (List.mem_of_getElem? (i := 760) (by decide +kernel)) rfl), (mm_gw_of (List.mem_of_getElem? (i := 761) (by decide +kernel)) rfl)⟩
theorem mfX10_allocation : mm_mV mX10_allocation 2 := ⟨⟨rfl, (mm_gw_of (List.mem_of_getElem? (i := 927) (by decide +kernel)) rfl), (mm_gw_of (List.mem_of_getElem? (i := 30) (by decide +kernel)) rfl), by decide +kernel, by decide +kernel⟩, (mm_gw_of (List.mem_of_getElem? (i := 925) (by decide +kernel)) rfl), (mm_gw_of (List.mem_of_getElem? (i := 926) (by decide +kernel)) rfl)⟩
theorem mfX10_whyNotShipped : mm_mV mX10_whyNotShipped 1 := ⟨⟨rfl, (mm_gw_of (List.mem_of_getElem? (i := 775) (by decide +kernel)) rfl), (mm_gw_of (List.mem_of_getElem? (i := 30) (by decide +kernel)) rfl), by decide +kernel, by decide +kernel⟩, (mm_gw_of (List.mem_of_getElem? (i := 773) (by decide +kernel)) rfl), (mm_gw_of (List.mem_of_getElem? (i := 774) (by decide +kernel)) rfl)⟩
theorem mfX10_inconsistencies : mm_mV mX10_inconsistencies 0 := ⟨⟨rfl, (mm_gw_of (List.mem_of_getElem? (i := 973) (by decide +kernel)) rfl), (mm_gw_of (List.mem_of_getElem? (i := 30) (by decide +kernel)) rfl), by decide +kernel, by decide +kernel⟩, (mm_gw_of (List.mem_of_getElem? (i := 971) (by decide +kernel)) rfl), (mm_gw_of (List.mem_of_getElem? (i := 972) (by decide +kernel)) rfl)⟩
theorem mfX10_receive : mm_mV mX10_receive 4 := ⟨⟨rfl, (mm_gw_of (List.mem_of_getElem? (i := 1258) (by decide +kernel)) rfl), (mm_gw_of (List.mem_of_getElem? (i := 30) (by decide +kernel)) rfl), by decide +kernel, by decide +kernel⟩, (mm_gw_of (List.mem_of_getElem? (i := 1256) (by decide +kernel)) rfl), (mm_gw_of (List.mem_of_getElem? (i := 1257) (by decide +kernel)) rfl)⟩
theorem mfX10_issue : mm_mV mX10_issue 2 := ⟨⟨rfl, (mm_gw_of (List.mem_of_getElem? (i := 792) (by decide +kernel)) rfl), (mm_gw_of (List.mem_of_getElem? (i := 30) (by decide +kernel)) rfl), by decide +kernel, by decide +kernel⟩, (mm_gw_of (List.mem_of_getElem? (i := 790) (by decide +kernel)) rfl), (mm_gw_of (List.mem_of_getElem? (i := 791) (by decide +kernel)) rfl)⟩
theorem mfX10_reserve : mm_mV mX10_reserve 3 := ⟨⟨rfl, (mm_gw_of (List.mem_of_getElem? (i := 837) (by decide +kernel)) rfl), (mm_gw_of (List.mem_of_getElem? (i := 30) (by decide +kernel)) rfl), by decide +kernel, by decide +kernel⟩, (mm_gw_of (List.mem_of_getElem? (i := 835) (by decide +kernel)) rfl), (mm_gw_of (List.mem_of_getElem? (i := 836) (by decide +kernel)) rfl)⟩
theorem mfX10_ship : mm_mV mX10_ship 1 := ⟨⟨rfl, (mm_gw_of (List.mem_of_getElem? (i := 854) (by decide +kernel)) rfl), (mm_gw_of (List.mem_of_getElem? (i := 30) (by decide +kernel)) rfl), by decide +kernel, by decide +kernel⟩, (mm_gw_of (List.mem_of_getElem? (i := 852) (by decide +kernel)) rfl), (mm_gw_of (List.mem_of_getElem? (i := 853) (by decide +kernel)) rfl)⟩
theorem mfX10_cancel : mm_mV mX10_cancel 1 := ⟨⟨rfl, (mm_gw_of (List.mem_of_getElem? (i := 1270) (by decide +kernel)) rfl), (mm_gw_of (List.mem_of_getElem? (i := 30) (by decide +kernel)) rfl), by decide +kernel, by decide +kernel⟩, (mm_gw_of (List.mem_of_getElem? (i := 1268) (by decide +kernel)) rfl), (mm_gw_of (List.mem_of_getElem? (i := 1269) (by decide +kernel)) rfl)⟩
theorem mfX10_refill : mm_mV mX10_refill 1 := ⟨⟨rfl, (mm_gw_of (List.mem_of_getElem? (i := 1282) (by decide +kernel)) rfl), (mm_gw_of (List.mem_of_getElem? (i := 30) (by decide +kernel)) rfl), by decide +kernel, by decide +kernel⟩, (mm_gw_of (List.mem_of_getElem? (i := 1280) (by decide +kernel)) rfl), (mm_gw_of (List.mem_of_getElem? (i := 1281) (by decide +kernel)) rfl)⟩
theorem mfX10_takeStock : mm_mV mX10_takeStock 2 := ⟨⟨rfl, (mm_gw_of (List.mem_of_getElem? (i := 1288) (by decide +kernel)) rfl), (mm_gw_of (List.mem_of_getElem? (i := 30) (by decide +kernel)) rfl), by decide +kernel, by decide +kernel⟩, (mm_gw_of (List.mem_of_getElem? (i := 1286) (by decide +kernel)) rfl), (mm_gw_of (List.mem_of_getElem? (i := 1287) (by decide +kernel)) rfl)⟩
theorem mfX10_writeOffExpired : mm_mV mX10_writeOffExpired 0 := ⟨⟨rfl, (mm_gw_of (List.mem_of_getElem? (i := 870) (by decide +kernel)) rfl), (mm_gw_of (List.mem_of_getElem? (i := 30) (by decide +kernel)) rfl), by decide +kernel, by decide +kernel⟩, (mm_gw_of (List.mem_of_getElem? (i := 868) (by decide +kernel)) rfl), (mm_gw_of (List.mem_of_getElem? (i := 869) (by decide +kernel)) rfl)⟩
theorem mfX10_passDays : mm_mV mX10_passDays 1 := ⟨⟨rfl, (mm_gw_of (List.mem_of_getElem? (i := 1300) (by decide +kernel)) rfl), (mm_gw_of (List.mem_of_getElem? (i := 30) (by decide +kernel)) rfl), by decide +kernel, by decide +kernel⟩, (mm_gw_of (List.mem_of_getElem? (i := 1298) (by decide +kernel)) rfl), (mm_gw_of (List.mem_of_getElem? (i := 1299) (by decide +kernel)) rfl)⟩
theorem mfX10_isOutside : mm_mS mX10_isOutside 3 := ⟨⟨rfl, (mm_gw_of (List.mem_of_getElem? (i := 535) (by decide +kernel)) rfl), (mm_gw_of (List.mem_of_getElem? (i := 30) (by decide +kernel)) rfl), by decide +kernel, by decide +kernel⟩, (mm_gw_of (List.mem_of_getElem? (i := 534) (by decide +kernel)) rfl)⟩
theorem mfX10_checkRange : mm_mS mX10_checkRange 3 := ⟨⟨rfl, (mm_gw_of (List.mem_of_getElem? (i := 699) (by decide +kernel)) rfl), (mm_gw_of (List.mem_of_getElem? (i := 30) (by decide +kernel)) rfl), by decide +kernel, by decide +kernel⟩, (mm_gw_of (List.mem_of_getElem? (i := 698) (by decide +kernel)) rfl)⟩
theorem mfX10_checkProduct : mm_mV mX10_checkProduct 1 := ⟨⟨rfl, (mm_gw_of (List.mem_of_getElem? (i := 691) (by decide +kernel)) rfl), (mm_gw_of (List.mem_of_getElem? (i := 30) (by decide +kernel)) rfl), by decide +kernel, by decide +kernel⟩, (mm_gw_of (List.mem_of_getElem? (i := 690) (by decide +kernel)) rfl), (mm_gw_of (List.mem_of_getElem? (i := 14) (by decide +kernel)) rfl)⟩
theorem mfX10_checkBatch : mm_mV mX10_checkBatch 1 := ⟨⟨rfl, (mm_gw_of (List.mem_of_getElem? (i := 658) (by decide +kernel)) rfl), (mm_gw_of (List.mem_of_getElem? (i := 30) (by decide +kernel)) rfl), by decide +kernel, by decide +kernel⟩, (mm_gw_of (List.mem_of_getElem? (i := 657) (by decide +kernel)) rfl), (mm_gw_of (List.mem_of_getElem? (i := 13) (by decide +kernel)) rfl)⟩
theorem mfX10_checkReservation : mm_mV mX10_checkReservation 1 := ⟨⟨rfl, (mm_gw_of (List.mem_of_getElem? (i := 749) (by decide +kernel)) rfl), (mm_gw_of (List.mem_of_getElem? (i := 30) (by decide +kernel)) rfl), by decide +kernel, by decide +kernel⟩, (mm_gw_of (List.mem_of_getElem? (i := 748) (by decide +kernel)) rfl), (mm_gw_of (List.mem_of_getElem? (i := 17) (by decide +kernel)) rfl)⟩
theorem mfX10_refuse : mm_mS mX10_refuse 1 := ⟨⟨rfl, (mm_gw_of (List.mem_of_getElem? (i := 799) (by decide +kernel)) rfl), (mm_gw_of (List.mem_of_getElem? (i := 30) (by decide +kernel)) rfl), by decide +kernel, by decide +kernel⟩, (mm_gw_of (List.mem_of_getElem? (i := 798) (by decide +kernel)) rfl)⟩
theorem mfX10_refusalOfReceive : mm_mV mX10_refusalOfReceive 4 := ⟨⟨rfl, (mm_gw_of (List.mem_of_getElem? (i := 1262) (by decide +kernel)) rfl), (mm_gw_of (List.mem_of_getElem? (i := 30) (by decide +kernel)) rfl), by decide +kernel, by decide +kernel⟩, (mm_gw_of (List.mem_of_getElem? (i := 1261) (by decide +kernel)) rfl), (mm_gw_of (List.mem_of_getElem? (i := 25) (by decide +kernel)) rfl)⟩
theorem mfX10_refusalOfIssue : mm_mV mX10_refusalOfIssue 2 := ⟨⟨rfl, (mm_gw_of (List.mem_of_getElem? (i := 796) (by decide +kernel)) rfl), (mm_gw_of (List.mem_of_getElem? (i := 30) (by decide +kernel)) rfl), by decide +kernel, by decide +kernel⟩, (mm_gw_of (List.mem_of_getElem? (i := 795) (by decide +kernel)) rfl), (mm_gw_of (List.mem_of_getElem? (i := 20) (by decide +kernel)) rfl)⟩
theorem mfX10_refusalOfReserve : mm_mV mX10_refusalOfReserve 3 := ⟨⟨rfl, (mm_gw_of (List.mem_of_getElem? (i := 841) (by decide +kernel)) rfl), (mm_gw_of (List.mem_of_getElem? (i := 30) (by decide +kernel)) rfl), by decide +kernel, by decide +kernel⟩, (mm_gw_of (List.mem_of_getElem? (i := 840) (by decide +kernel)) rfl), (mm_gw_of (List.mem_of_getElem? (i := 21) (by decide +kernel)) rfl)⟩
theorem mfX10_refusalOfShip : mm_mV mX10_refusalOfShip 1 := ⟨⟨rfl, (mm_gw_of (List.mem_of_getElem? (i := 858) (by decide +kernel)) rfl), (mm_gw_of (List.mem_of_getElem? (i := 30) (by decide +kernel)) rfl), by decide +kernel, by decide +kernel⟩, (mm_gw_of (List.mem_of_getElem? (i := 857) (by decide +kernel)) rfl), (mm_gw_of (List.mem_of_getElem? (i := 22) (by decide +kernel)) rfl)⟩
theorem mfX10_refusalOfOpenOnly : mm_mV mX10_refusalOfOpenOnly 1 := ⟨⟨rfl, (mm_gw_of (List.mem_of_getElem? (i := 1274) (by decide +kernel)) rfl), (mm_gw_of (List.mem_of_getElem? (i := 30) (by decide +kernel)) rfl), by decide +kernel, by decide +kernel⟩, (mm_gw_of (List.mem_of_getElem? (i := 1273) (by decide +kernel)) rfl), (mm_gw_of (List.mem_of_getElem? (i := 26) (by decide +kernel)) rfl)⟩
theorem mfX10_refusalOfCount : mm_mV mX10_refusalOfCount 2 := ⟨⟨rfl, (mm_gw_of (List.mem_of_getElem? (i := 1292) (by decide +kernel)) rfl), (mm_gw_of (List.mem_of_getElem? (i := 30) (by decide +kernel)) rfl), by decide +kernel, by decide +kernel⟩, (mm_gw_of (List.mem_of_getElem? (i := 1291) (by decide +kernel)) rfl), (mm_gw_of (List.mem_of_getElem? (i := 27) (by decide +kernel)) rfl)⟩
theorem mfX10_refusalOfDays : mm_mV mX10_refusalOfDays 1 := ⟨⟨rfl, (mm_gw_of (List.mem_of_getElem? (i := 1304) (by decide +kernel)) rfl), (mm_gw_of (List.mem_of_getElem? (i := 30) (by decide +kernel)) rfl), by decide +kernel, by decide +kernel⟩, (mm_gw_of (List.mem_of_getElem? (i := 1303) (by decide +kernel)) rfl), (mm_gw_of (List.mem_of_getElem? (i := 28) (by decide +kernel)) rfl)⟩
theorem mfX11_init : mm_mI mX11_init 1 := ⟨⟨rfl, (mm_gw_of (List.mem_of_getElem? (i := 887) (by decide +kernel)) rfl), (mm_gw_of (List.mem_of_getElem? (i := 58) (by decide +kernel)) rfl), by decide +kernel, by decide +kernel⟩, rfl, rfl, (mm_gw_of (List.mem_of_getElem? (i := 886) (by decide +kernel)) rfl)⟩
theorem mfX11_read : mm_mV mX11_read 0 := ⟨⟨rfl, (mm_gw_of (List.mem_of_getElem? (i := 914) (by decide +kernel)) rfl), (mm_gw_of (List.mem_of_getElem? (i := 58) (by decide +kernel)) rfl), by decide +kernel, by decide +kernel⟩, (mm_gw_of (List.mem_of_getElem? (i := 912) (by decide +kernel)) rfl), (mm_gw_of (List.mem_of_getElem? (i := 913) (by decide +kernel)) rfl)⟩
theorem mfX11_held : mm_mV mX11_held 1 := ⟨⟨rfl, (mm_gw_of (List.mem_of_getElem? (i := 941) (by decide +kernel)) rfl), (mm_gw_of (List.mem_of_getElem? (i := 58) (by decide +kernel)) rfl), by decide +kernel, by decide +kernel⟩, (mm_gw_of (List.mem_of_getElem? (i := 939) (by decide +kernel)) rfl), (mm_gw_of (List.mem_of_getElem? (i := 940) (by decide +kernel)) rfl)⟩
theorem mfX11_next : mm_mV mX11_next 2 := ⟨⟨rfl, (mm_gw_of (List.mem_of_getElem? (i := 951) (by decide +kernel)) rfl), (mm_gw_of (List.mem_of_getElem? (i := 58) (by decide +kernel)) rfl), by decide +kernel, by decide +kernel⟩, (mm_gw_of (List.mem_of_getElem? (i := 949) (by decide +kernel)) rfl), (mm_gw_of (List.mem_of_getElem? (i := 950) (by decide +kernel)) rfl)⟩
theorem mfX11_free : mm_mV mX11_free 2 := ⟨⟨rfl, (mm_gw_of (List.mem_of_getElem? (i := 932) (by decide +kernel)) rfl), (mm_gw_of (List.mem_of_getElem? (i := 58) (by decide +kernel)) rfl), by decide +kernel, by decide +kernel⟩, (mm_gw_of (List.mem_of_getElem? (i := 930) (by decide +kernel)) rfl), (mm_gw_of (List.mem_of_getElem? (i := 931) (by decide +kernel)) rfl)⟩
theorem mfX11_issue : mm_mV mX11_issue 2 := ⟨⟨rfl, (mm_gw_of (List.mem_of_getElem? (i := 946) (by decide +kernel)) rfl), (mm_gw_of (List.mem_of_getElem? (i := 58) (by decide +kernel)) rfl), by decide +kernel, by decide +kernel⟩, (mm_gw_of (List.mem_of_getElem? (i := 944) (by decide +kernel)) rfl), (mm_gw_of (List.mem_of_getElem? (i := 945) (by decide +kernel)) rfl)⟩
theorem mfX11_allocate : mm_mV mX11_allocate 4 := ⟨⟨rfl, (mm_gw_of (List.mem_of_getElem? (i := 956) (by decide +kernel)) rfl), (mm_gw_of (List.mem_of_getElem? (i := 58) (by decide +kernel)) rfl), by decide +kernel, by decide +kernel⟩, (mm_gw_of (List.mem_of_getElem? (i := 954) (by decide +kernel)) rfl), (mm_gw_of (List.mem_of_getElem? (i := 955) (by decide +kernel)) rfl)⟩
theorem mfX11_agrees : mm_mV mX11_agrees 0 := ⟨⟨rfl, (mm_gw_of (List.mem_of_getElem? (i := 960) (by decide +kernel)) rfl), (mm_gw_of (List.mem_of_getElem? (i := 58) (by decide +kernel)) rfl), by decide +kernel, by decide +kernel⟩, (mm_gw_of (List.mem_of_getElem? (i := 958) (by decide +kernel)) rfl), (mm_gw_of (List.mem_of_getElem? (i := 959) (by decide +kernel)) rfl)⟩
theorem mfJ5_init_a7421 : mm_mI mJ5_init_a7421 1 := ⟨⟨rfl, (mm_gw_of (List.mem_of_getElem? (i := 1023) (by decide +kernel)) rfl), (mm_gw_of (List.mem_of_getElem? (i := 46) (by decide +kernel)) rfl), by decide +kernel, by decide +kernel⟩, rfl, rfl, (mm_gw_of (List.mem_of_getElem? (i := 1022) (by decide +kernel)) rfl)⟩
theorem mfJ5_length_8abf5 : mm_mU mJ5_length_8abf5 0 := ⟨⟨rfl, (mm_gw_of (List.mem_of_getElem? (i := 1214) (by decide +kernel)) rfl), (mm_gw_of (List.mem_of_getElem? (i := 46) (by decide +kernel)) rfl), by decide +kernel, by decide +kernel⟩, (mm_gw_of (List.mem_of_getElem? (i := 1208) (by decide +kernel)) rfl)⟩
theorem mfJ5_ensureCapacityInternal_d00df : mm_mU mJ5_ensureCapacityInternal_d00df 1 := ⟨⟨rfl, (mm_gw_of (List.mem_of_getElem? (i := 1056) (by decide +kernel)) rfl), (mm_gw_of (List.mem_of_getElem? (i := 46) (by decide +kernel)) rfl), by decide +kernel, by decide +kernel⟩, (mm_gw_of (List.mem_of_getElem? (i := 1055) (by decide +kernel)) rfl)⟩
theorem mfJ5_newCapacity_0f7a4 : mm_mU mJ5_newCapacity_0f7a4 1 := ⟨⟨rfl, (mm_gw_of (List.mem_of_getElem? (i := 1060) (by decide +kernel)) rfl), (mm_gw_of (List.mem_of_getElem? (i := 46) (by decide +kernel)) rfl), by decide +kernel, by decide +kernel⟩, (mm_gw_of (List.mem_of_getElem? (i := 1059) (by decide +kernel)) rfl)⟩
theorem mfJ5_append_cf1ce : mm_mU mJ5_append_cf1ce 1 := ⟨⟨rfl, (mm_gw_of (List.mem_of_getElem? (i := 1048) (by decide +kernel)) rfl), (mm_gw_of (List.mem_of_getElem? (i := 46) (by decide +kernel)) rfl), by decide +kernel, by decide +kernel⟩, (mm_gw_of (List.mem_of_getElem? (i := 1037) (by decide +kernel)) rfl)⟩
theorem mfJ5_append_3fe6f : mm_mU mJ5_append_3fe6f 1 := ⟨⟨rfl, (mm_gw_of (List.mem_of_getElem? (i := 1155) (by decide +kernel)) rfl), (mm_gw_of (List.mem_of_getElem? (i := 46) (by decide +kernel)) rfl), by decide +kernel, by decide +kernel⟩, (mm_gw_of (List.mem_of_getElem? (i := 1154) (by decide +kernel)) rfl)⟩
theorem mfJ5_append_c97b9 : mm_mU mJ5_append_c97b9 1 := ⟨⟨rfl, (mm_gw_of (List.mem_of_getElem? (i := 1168) (by decide +kernel)) rfl), (mm_gw_of (List.mem_of_getElem? (i := 46) (by decide +kernel)) rfl), by decide +kernel, by decide +kernel⟩, (mm_gw_of (List.mem_of_getElem? (i := 1167) (by decide +kernel)) rfl)⟩
theorem mfJ5_getValue_6d5f1 : mm_mU mJ5_getValue_6d5f1 0 := ⟨⟨rfl, (mm_gw_of (List.mem_of_getElem? (i := 1206) (by decide +kernel)) rfl), (mm_gw_of (List.mem_of_getElem? (i := 46) (by decide +kernel)) rfl), by decide +kernel, by decide +kernel⟩, (mm_gw_of (List.mem_of_getElem? (i := 1203) (by decide +kernel)) rfl)⟩
theorem mfJ5_isLatin1_aae02 : mm_mU mJ5_isLatin1_aae02 0 := ⟨⟨rfl, (mm_gw_of (List.mem_of_getElem? (i := 1085) (by decide +kernel)) rfl), (mm_gw_of (List.mem_of_getElem? (i := 46) (by decide +kernel)) rfl), by decide +kernel, by decide +kernel⟩, (mm_gw_of (List.mem_of_getElem? (i := 1082) (by decide +kernel)) rfl)⟩
theorem mfJ5_inflateIfNeededFor_a7421 : mm_mU mJ5_inflateIfNeededFor_a7421 1 := ⟨⟨rfl, (mm_gw_of (List.mem_of_getElem? (i := 1109) (by decide +kernel)) rfl), (mm_gw_of (List.mem_of_getElem? (i := 46) (by decide +kernel)) rfl), by decide +kernel, by decide +kernel⟩, (mm_gw_of (List.mem_of_getElem? (i := 1108) (by decide +kernel)) rfl)⟩
theorem mfJ5_putStringAt_47b60 : mm_mU mJ5_putStringAt_47b60 2 := ⟨⟨rfl, (mm_gw_of (List.mem_of_getElem? (i := 1105) (by decide +kernel)) rfl), (mm_gw_of (List.mem_of_getElem? (i := 46) (by decide +kernel)) rfl), by decide +kernel, by decide +kernel⟩, (mm_gw_of (List.mem_of_getElem? (i := 1104) (by decide +kernel)) rfl)⟩
theorem mfJ6_getChars_ba4f3 : mm_mS mJ6_getChars_ba4f3 3 := ⟨⟨rfl, (mm_gw_of (List.mem_of_getElem? (i := 1174) (by decide +kernel)) rfl), (mm_gw_of (List.mem_of_getElem? (i := 52) (by decide +kernel)) rfl), by decide +kernel, by decide +kernel⟩, (mm_gw_of (List.mem_of_getElem? (i := 1173) (by decide +kernel)) rfl)⟩
theorem mfJ6_stringSize_0f7a4 : mm_mS mJ6_stringSize_0f7a4 1 := ⟨⟨rfl, (mm_gw_of (List.mem_of_getElem? (i := 1171) (by decide +kernel)) rfl), (mm_gw_of (List.mem_of_getElem? (i := 52) (by decide +kernel)) rfl), by decide +kernel, by decide +kernel⟩, (mm_gw_of (List.mem_of_getElem? (i := 1170) (by decide +kernel)) rfl)⟩
theorem mfJ0_init_81219 : mm_mI mJ0_init_81219 1 := ⟨⟨rfl, (mm_gw_of (List.mem_of_getElem? (i := 1197) (by decide +kernel)) rfl), (mm_gw_of (List.mem_of_getElem? (i := 42) (by decide +kernel)) rfl), by decide +kernel, by decide +kernel⟩, rfl, rfl, (mm_gw_of (List.mem_of_getElem? (i := 1196) (by decide +kernel)) rfl)⟩
theorem mfJ0_length_8abf5 : mm_mV mJ0_length_8abf5 0 := ⟨⟨rfl, (mm_gw_of (List.mem_of_getElem? (i := 328) (by decide +kernel)) rfl), (mm_gw_of (List.mem_of_getElem? (i := 42) (by decide +kernel)) rfl), by decide +kernel, by decide +kernel⟩, (mm_gw_of (List.mem_of_getElem? (i := 326) (by decide +kernel)) rfl), (mm_gw_of (List.mem_of_getElem? (i := 327) (by decide +kernel)) rfl)⟩
theorem mfJ0_charAt_5068e : mm_mV mJ0_charAt_5068e 1 := ⟨⟨rfl, (mm_gw_of (List.mem_of_getElem? (i := 338) (by decide +kernel)) rfl), (mm_gw_of (List.mem_of_getElem? (i := 42) (by decide +kernel)) rfl), by decide +kernel, by decide +kernel⟩, (mm_gw_of (List.mem_of_getElem? (i := 336) (by decide +kernel)) rfl), (mm_gw_of (List.mem_of_getElem? (i := 337) (by decide +kernel)) rfl)⟩
theorem mfJ0_getBytes_840e7 : mm_mV mJ0_getBytes_840e7 3 := ⟨⟨rfl, (mm_gw_of (List.mem_of_getElem? (i := 1132) (by decide +kernel)) rfl), (mm_gw_of (List.mem_of_getElem? (i := 42) (by decide +kernel)) rfl), by decide +kernel, by decide +kernel⟩, (mm_gw_of (List.mem_of_getElem? (i := 1130) (by decide +kernel)) rfl), (mm_gw_of (List.mem_of_getElem? (i := 1131) (by decide +kernel)) rfl)⟩
theorem mfJ0_init_db425 : mm_mI mJ0_init_db425 2 := ⟨⟨rfl, (mm_gw_of (List.mem_of_getElem? (i := 1200) (by decide +kernel)) rfl), (mm_gw_of (List.mem_of_getElem? (i := 42) (by decide +kernel)) rfl), by decide +kernel, by decide +kernel⟩, rfl, rfl, (mm_gw_of (List.mem_of_getElem? (i := 1199) (by decide +kernel)) rfl)⟩
theorem mfJ0_coder_7d493 : mm_mV mJ0_coder_7d493 0 := ⟨⟨rfl, (mm_gw_of (List.mem_of_getElem? (i := 332) (by decide +kernel)) rfl), (mm_gw_of (List.mem_of_getElem? (i := 42) (by decide +kernel)) rfl), by decide +kernel, by decide +kernel⟩, (mm_gw_of (List.mem_of_getElem? (i := 330) (by decide +kernel)) rfl), (mm_gw_of (List.mem_of_getElem? (i := 331) (by decide +kernel)) rfl)⟩
theorem mfJ0_isLatin1_aae02 : mm_mV mJ0_isLatin1_aae02 0 := ⟨⟨rfl, (mm_gw_of (List.mem_of_getElem? (i := 342) (by decide +kernel)) rfl), (mm_gw_of (List.mem_of_getElem? (i := 42) (by decide +kernel)) rfl), by decide +kernel, by decide +kernel⟩, (mm_gw_of (List.mem_of_getElem? (i := 340) (by decide +kernel)) rfl), (mm_gw_of (List.mem_of_getElem? (i := 341) (by decide +kernel)) rfl)⟩
theorem mfJ0_checkIndex_df160 : mm_mS mJ0_checkIndex_df160 2 := ⟨⟨rfl, (mm_gw_of (List.mem_of_getElem? (i := 348) (by decide +kernel)) rfl), (mm_gw_of (List.mem_of_getElem? (i := 42) (by decide +kernel)) rfl), by decide +kernel, by decide +kernel⟩, (mm_gw_of (List.mem_of_getElem? (i := 347) (by decide +kernel)) rfl)⟩
theorem mfJ4_init_a7421 : mm_mI mJ4_init_a7421 1 := ⟨⟨rfl, (mm_gw_of (List.mem_of_getElem? (i := 1020) (by decide +kernel)) rfl), (mm_gw_of (List.mem_of_getElem? (i := 47) (by decide +kernel)) rfl), by decide +kernel, by decide +kernel⟩, rfl, rfl, (mm_gw_of (List.mem_of_getElem? (i := 1019) (by decide +kernel)) rfl)⟩
theorem mfJ4_append_15ec4 : mm_mV mJ4_append_15ec4 1 := ⟨⟨rfl, (mm_gw_of (List.mem_of_getElem? (i := 1045) (by decide +kernel)) rfl), (mm_gw_of (List.mem_of_getElem? (i := 47) (by decide +kernel)) rfl), by decide +kernel, by decide +kernel⟩, (mm_gw_of (List.mem_of_getElem? (i := 1043) (by decide +kernel)) rfl), (mm_gw_of (List.mem_of_getElem? (i := 1044) (by decide +kernel)) rfl)⟩
theorem mfJ4_append_cf468 : mm_mV mJ4_append_cf468 1 := ⟨⟨rfl, (mm_gw_of (List.mem_of_getElem? (i := 1152) (by decide +kernel)) rfl), (mm_gw_of (List.mem_of_getElem? (i := 47) (by decide +kernel)) rfl), by decide +kernel, by decide +kernel⟩, (mm_gw_of (List.mem_of_getElem? (i := 1150) (by decide +kernel)) rfl), (mm_gw_of (List.mem_of_getElem? (i := 1151) (by decide +kernel)) rfl)⟩
theorem mfJ4_append_bf812 : mm_mV mJ4_append_bf812 1 := ⟨⟨rfl, (mm_gw_of (List.mem_of_getElem? (i := 1165) (by decide +kernel)) rfl), (mm_gw_of (List.mem_of_getElem? (i := 47) (by decide +kernel)) rfl), by decide +kernel, by decide +kernel⟩, (mm_gw_of (List.mem_of_getElem? (i := 1163) (by decide +kernel)) rfl), (mm_gw_of (List.mem_of_getElem? (i := 1164) (by decide +kernel)) rfl)⟩
theorem mfJ4_toString_0e30d : mm_mV mJ4_toString_0e30d 0 := ⟨⟨rfl, (mm_gw_of (List.mem_of_getElem? (i := 1192) (by decide +kernel)) rfl), (mm_gw_of (List.mem_of_getElem? (i := 47) (by decide +kernel)) rfl), by decide +kernel, by decide +kernel⟩, (mm_gw_of (List.mem_of_getElem? (i := 1190) (by decide +kernel)) rfl), (mm_gw_of (List.mem_of_getElem? (i := 1191) (by decide +kernel)) rfl)⟩
theorem mfJ4_append_cf1ce : mm_mU mJ4_append_cf1ce 1 := ⟨⟨rfl, (mm_gw_of (List.mem_of_getElem? (i := 1041) (by decide +kernel)) rfl), (mm_gw_of (List.mem_of_getElem? (i := 47) (by decide +kernel)) rfl), by decide +kernel, by decide +kernel⟩, (mm_gw_of (List.mem_of_getElem? (i := 1040) (by decide +kernel)) rfl)⟩
theorem mfJ4_length_8abf5 : mm_mU mJ4_length_8abf5 0 := ⟨⟨rfl, (mm_gw_of (List.mem_of_getElem? (i := 1212) (by decide +kernel)) rfl), (mm_gw_of (List.mem_of_getElem? (i := 47) (by decide +kernel)) rfl), by decide +kernel, by decide +kernel⟩, (mm_gw_of (List.mem_of_getElem? (i := 1211) (by decide +kernel)) rfl)⟩
theorem mfJ1_charAt_3b067 : mm_mS mJ1_charAt_3b067 2 := ⟨⟨rfl, (mm_gw_of (List.mem_of_getElem? (i := 345) (by decide +kernel)) rfl), (mm_gw_of (List.mem_of_getElem? (i := 43) (by decide +kernel)) rfl), by decide +kernel, by decide +kernel⟩, (mm_gw_of (List.mem_of_getElem? (i := 344) (by decide +kernel)) rfl)⟩
theorem mfJ1_canEncode_fc78d : mm_mS mJ1_canEncode_fc78d 1 := ⟨⟨rfl, (mm_gw_of (List.mem_of_getElem? (i := 1158) (by decide +kernel)) rfl), (mm_gw_of (List.mem_of_getElem? (i := 43) (by decide +kernel)) rfl), by decide +kernel, by decide +kernel⟩, (mm_gw_of (List.mem_of_getElem? (i := 1157) (by decide +kernel)) rfl)⟩
theorem mfJ7_copyOf_9075b : mm_mS mJ7_copyOf_9075b 2 := ⟨⟨rfl, (mm_gw_of (List.mem_of_getElem? (i := 1071) (by decide +kernel)) rfl), (mm_gw_of (List.mem_of_getElem? (i := 49) (by decide +kernel)) rfl), by decide +kernel, by decide +kernel⟩, (mm_gw_of (List.mem_of_getElem? (i := 1070) (by decide +kernel)) rfl)⟩
theorem mfJ7_checkLength_df160 : mm_mS mJ7_checkLength_df160 2 := ⟨⟨rfl, (mm_gw_of (List.mem_of_getElem? (i := 1224) (by decide +kernel)) rfl), (mm_gw_of (List.mem_of_getElem? (i := 49) (by decide +kernel)) rfl), by decide +kernel, by decide +kernel⟩, (mm_gw_of (List.mem_of_getElem? (i := 1223) (by decide +kernel)) rfl)⟩
theorem mfJ7_copyOfRange_39247 : mm_mS mJ7_copyOfRange_39247 3 := ⟨⟨rfl, (mm_gw_of (List.mem_of_getElem? (i := 1218) (by decide +kernel)) rfl), (mm_gw_of (List.mem_of_getElem? (i := 49) (by decide +kernel)) rfl), by decide +kernel, by decide +kernel⟩, (mm_gw_of (List.mem_of_getElem? (i := 1217) (by decide +kernel)) rfl)⟩
theorem mfJ7_copyOfRangeByte_39247 : mm_mS mJ7_copyOfRangeByte_39247 3 := ⟨⟨rfl, (mm_gw_of (List.mem_of_getElem? (i := 1221) (by decide +kernel)) rfl), (mm_gw_of (List.mem_of_getElem? (i := 49) (by decide +kernel)) rfl), by decide +kernel, by decide +kernel⟩, (mm_gw_of (List.mem_of_getElem? (i := 1220) (by decide +kernel)) rfl)⟩
theorem mfJ8_newLength_cabcc : mm_mS mJ8_newLength_cabcc 3 := ⟨⟨rfl, (mm_gw_of (List.mem_of_getElem? (i := 1063) (by decide +kernel)) rfl), (mm_gw_of (List.mem_of_getElem? (i := 48) (by decide +kernel)) rfl), by decide +kernel, by decide +kernel⟩, (mm_gw_of (List.mem_of_getElem? (i := 1062) (by decide +kernel)) rfl)⟩
theorem mfJ3_checkIndex_8e157 : mm_mS mJ3_checkIndex_8e157 3 := ⟨⟨rfl, (mm_gw_of (List.mem_of_getElem? (i := 353) (by decide +kernel)) rfl), (mm_gw_of (List.mem_of_getElem? (i := 44) (by decide +kernel)) rfl), by decide +kernel, by decide +kernel⟩, (mm_gw_of (List.mem_of_getElem? (i := 352) (by decide +kernel)) rfl)⟩
theorem mfL_pick : mm_mS mL_pick 3 := ⟨⟨rfl, (mm_gw_of (List.mem_of_getElem? (i := 985) (by decide +kernel)) rfl), (mm_gw_of (List.mem_of_getElem? (i := 29) (by decide +kernel)) rfl), by decide +kernel, by decide +kernel⟩, (mm_gw_of (List.mem_of_getElem? (i := 984) (by decide +kernel)) rfl)⟩
theorem mfL_word : mm_mS mL_word 2 := ⟨⟨rfl, (mm_gw_of (List.mem_of_getElem? (i := 997) (by decide +kernel)) rfl), (mm_gw_of (List.mem_of_getElem? (i := 29) (by decide +kernel)) rfl), by decide +kernel, by decide +kernel⟩, (mm_gw_of (List.mem_of_getElem? (i := 996) (by decide +kernel)) rfl)⟩
theorem mfL_say : mm_mS mL_say 2 := ⟨⟨rfl, (mm_gw_of (List.mem_of_getElem? (i := 989) (by decide +kernel)) rfl), (mm_gw_of (List.mem_of_getElem? (i := 29) (by decide +kernel)) rfl), by decide +kernel, by decide +kernel⟩, (mm_gw_of (List.mem_of_getElem? (i := 988) (by decide +kernel)) rfl)⟩
theorem mfL_setup : mm_mS mL_setup 3 := ⟨⟨rfl, (mm_gw_of (List.mem_of_getElem? (i := 1014) (by decide +kernel)) rfl), (mm_gw_of (List.mem_of_getElem? (i := 29) (by decide +kernel)) rfl), by decide +kernel, by decide +kernel⟩, (mm_gw_of (List.mem_of_getElem? (i := 1013) (by decide +kernel)) rfl)⟩
theorem mfL_act : mm_mS mL_act 2 := ⟨⟨rfl, (mm_gw_of (List.mem_of_getElem? (i := 1248) (by decide +kernel)) rfl), (mm_gw_of (List.mem_of_getElem? (i := 29) (by decide +kernel)) rfl), by decide +kernel, by decide +kernel⟩, (mm_gw_of (List.mem_of_getElem? (i := 1247) (by decide +kernel)) rfl)⟩
theorem lkL_119 : mm_lk RL 119 mX10_init := Or.inl (mm_gw_of (List.mem_of_getElem? (i := 62) (by decide +kernel)) rfl)
theorem lkX10_11 : mm_lk RX10 11 mX8_init := Or.inl (mm_gw_of (List.mem_of_getElem? (i := 70) (by decide +kernel)) rfl)
theorem lkX10_23 : mm_lk RX10 23 mX3_init := Or.inr ⟨"BatchWarehouse", (List.mem_of_getElem? (i := 89) (by decide +kernel))⟩
theorem lkX3_11 : mm_lk RX3 11 mX9_init := Or.inr ⟨"BatchWarehouse", (List.mem_of_getElem? (i := 95) (by decide +kernel))⟩
theorem lkX9_11 : mm_lk RX9 11 mX8_init := Or.inl (mm_gw_of (List.mem_of_getElem? (i := 100) (by decide +kernel)) rfl)
theorem lkX10_30 : mm_lk RX10 30 mX5_init := Or.inr ⟨"BatchWarehouse", (List.mem_of_getElem? (i := 134) (by decide +kernel))⟩
theorem lkX5_11 : mm_lk RX5 11 mX4_init := Or.inl (mm_gw_of (List.mem_of_getElem? (i := 140) (by decide +kernel)) rfl)
theorem lkX10_37 : mm_lk RX10 37 mX1_init := Or.inr ⟨"BatchWarehouse", (List.mem_of_getElem? (i := 163) (by decide +kernel))⟩
theorem lkX1_11 : mm_lk RX1 11 mX4_init := Or.inl (mm_gw_of (List.mem_of_getElem? (i := 168) (by decide +kernel)) rfl)
theorem lkX10_44 : mm_lk RX10 44 mX7_init := Or.inr ⟨"BatchWarehouse", (List.mem_of_getElem? (i := 185) (by decide +kernel))⟩
theorem lkX7_11 : mm_lk RX7 11 mX4_init := Or.inl (mm_gw_of (List.mem_of_getElem? (i := 190) (by decide +kernel)) rfl)
theorem lkX10_57 : mm_lk RX10 57 mX2_init := Or.inr ⟨"BatchWarehouse", (List.mem_of_getElem? (i := 257) (by decide +kernel))⟩
theorem lkX2_11 : mm_lk RX2 11 mX6_init := Or.inl (mm_gw_of (List.mem_of_getElem? (i := 263) (by decide +kernel)) rfl)
theorem lkX6_23 : mm_lk RX6 23 mX4_init := Or.inl (mm_gw_of (List.mem_of_getElem? (i := 271) (by decide +kernel)) rfl)
theorem lkX6_30 : mm_lk RX6 30 mX7_init := Or.inr ⟨"BatchWarehouse", (List.mem_of_getElem? (i := 272) (by decide +kernel))⟩
theorem lkX10_64 : mm_lk RX10 64 mX6_init := Or.inl (mm_gw_of (List.mem_of_getElem? (i := 291) (by decide +kernel)) rfl)
theorem lkX10_71 : mm_lk RX10 71 mX0_init := Or.inr ⟨"BatchWarehouse", (List.mem_of_getElem? (i := 294) (by decide +kernel))⟩
theorem lkX0_11 : mm_lk RX0 11 mX4_init := Or.inl (mm_gw_of (List.mem_of_getElem? (i := 299) (by decide +kernel)) rfl)
theorem lkX10_78 : mm_lk RX10 78 mX1_addProduct := Or.inl (mm_gw_of (List.mem_of_getElem? (i := 313) (by decide +kernel)) rfl)
theorem lkX1_34 : mm_lk RX1 34 mX1_addNameless := Or.inl (mm_gw_of (List.mem_of_getElem? (i := 317) (by decide +kernel)) rfl)
theorem lkX1_53 : mm_lk RX1 53 mX4_put := Or.inl (mm_gw_of (List.mem_of_getElem? (i := 321) (by decide +kernel)) rfl)
theorem lkX1_37 : mm_lk RX1 37 mJ0_length_8abf5 := Or.inl (mm_gw_of (List.mem_of_getElem? (i := 325) (by decide +kernel)) rfl)
theorem lkJ0_335 : mm_lk RJ0 335 mJ0_coder_7d493 := Or.inl (mm_gw_of (List.mem_of_getElem? (i := 329) (by decide +kernel)) rfl)
theorem lkX1_43 : mm_lk RX1 43 mJ0_charAt_5068e := Or.inl (mm_gw_of (List.mem_of_getElem? (i := 335) (by decide +kernel)) rfl)
theorem lkJ0_492 : mm_lk RJ0 492 mJ0_isLatin1_aae02 := Or.inl (mm_gw_of (List.mem_of_getElem? (i := 339) (by decide +kernel)) rfl)
theorem lkJ0_495 : mm_lk RJ0 495 mJ1_charAt_3b067 := Or.inl (mm_gw_of (List.mem_of_getElem? (i := 343) (by decide +kernel)) rfl)
theorem lkJ1_9 : mm_lk RJ1 9 mJ0_checkIndex_df160 := Or.inl (mm_gw_of (List.mem_of_getElem? (i := 346) (by decide +kernel)) rfl)
theorem lkJ0_1059 : mm_lk RJ0 1059 mJ3_checkIndex_8e157 := Or.inl (mm_gw_of (List.mem_of_getElem? (i := 351) (by decide +kernel)) rfl)
theorem lkJ2_414 : mm_lk RJ2 414 mJ0_checkIndex_df160 := Or.inl (mm_gw_of (List.mem_of_getElem? (i := 363) (by decide +kernel)) rfl)
theorem lkX1_47 : mm_lk RX1 47 mX1_addLetter := Or.inl (mm_gw_of (List.mem_of_getElem? (i := 373) (by decide +kernel)) rfl)
theorem lkX1_57 : mm_lk RX1 57 mX4_get := Or.inl (mm_gw_of (List.mem_of_getElem? (i := 377) (by decide +kernel)) rfl)
theorem lkX1_50 : mm_lk RX1 50 mX1_setMinimum := Or.inl (mm_gw_of (List.mem_of_getElem? (i := 381) (by decide +kernel)) rfl)
theorem lkX10_86 : mm_lk RX10 86 mX7_addBatch := Or.inl (mm_gw_of (List.mem_of_getElem? (i := 387) (by decide +kernel)) rfl)
theorem lkX7_132 : mm_lk RX7 132 mX4_put := Or.inl (mm_gw_of (List.mem_of_getElem? (i := 391) (by decide +kernel)) rfl)
theorem lkX7_135 : mm_lk RX7 135 mX4_add := Or.inl (mm_gw_of (List.mem_of_getElem? (i := 392) (by decide +kernel)) rfl)
theorem lkL_128 : mm_lk RL 128 mX10_load := Or.inl (mm_gw_of (List.mem_of_getElem? (i := 430) (by decide +kernel)) rfl)
theorem lkX10_111 : mm_lk RX10 111 mX3_parseSetup := Or.inl (mm_gw_of (List.mem_of_getElem? (i := 434) (by decide +kernel)) rfl)
theorem lkX3_22 : mm_lk RX3 22 mX3_begin := Or.inl (mm_gw_of (List.mem_of_getElem? (i := 438) (by decide +kernel)) rfl)
theorem lkX3_80 : mm_lk RX3 80 mX9_startWith := Or.inl (mm_gw_of (List.mem_of_getElem? (i := 442) (by decide +kernel)) rfl)
theorem lkX9_24 : mm_lk RX9 24 mX9_readToken := Or.inl (mm_gw_of (List.mem_of_getElem? (i := 446) (by decide +kernel)) rfl)
theorem lkX9_30 : mm_lk RX9 30 mX8_byteAt := Or.inl (mm_gw_of (List.mem_of_getElem? (i := 450) (by decide +kernel)) rfl)
theorem lkX9_34 : mm_lk RX9 34 mX9_isSpace := Or.inl (mm_gw_of (List.mem_of_getElem? (i := 454) (by decide +kernel)) rfl)
theorem lkX9_44 : mm_lk RX9 44 mX9_isLetter := Or.inl (mm_gw_of (List.mem_of_getElem? (i := 457) (by decide +kernel)) rfl)
theorem lkX9_47 : mm_lk RX9 47 mX9_readWord := Or.inl (mm_gw_of (List.mem_of_getElem? (i := 460) (by decide +kernel)) rfl)
theorem lkX9_56 : mm_lk RX9 56 mX9_size := Or.inl (mm_gw_of (List.mem_of_getElem? (i := 464) (by decide +kernel)) rfl)
theorem lkX9_50 : mm_lk RX9 50 mX9_isDigit := Or.inl (mm_gw_of (List.mem_of_getElem? (i := 468) (by decide +kernel)) rfl)
theorem lkX9_53 : mm_lk RX9 53 mX9_readNumber := Or.inl (mm_gw_of (List.mem_of_getElem? (i := 471) (by decide +kernel)) rfl)
theorem lkX3_26 : mm_lk RX3 26 mX1_empty := Or.inl (mm_gw_of (List.mem_of_getElem? (i := 475) (by decide +kernel)) rfl)
theorem lkX3_31 : mm_lk RX3 31 mX7_empty := Or.inl (mm_gw_of (List.mem_of_getElem? (i := 479) (by decide +kernel)) rfl)
theorem lkX7_72 : mm_lk RX7 72 mX4_zero := Or.inl (mm_gw_of (List.mem_of_getElem? (i := 483) (by decide +kernel)) rfl)
theorem lkX3_36 : mm_lk RX3 36 mX3_takeWord := Or.inl (mm_gw_of (List.mem_of_getElem? (i := 488) (by decide +kernel)) rfl)
theorem lkX3_50 : mm_lk RX3 50 mX9_isWord := Or.inl (mm_gw_of (List.mem_of_getElem? (i := 492) (by decide +kernel)) rfl)
theorem lkX9_63 : mm_lk RX9 63 mJ0_length_8abf5 := Or.inl (mm_gw_of (List.mem_of_getElem? (i := 496) (by decide +kernel)) rfl)
theorem lkX9_67 : mm_lk RX9 67 mJ0_charAt_5068e := Or.inl (mm_gw_of (List.mem_of_getElem? (i := 497) (by decide +kernel)) rfl)
theorem lkX3_53 : mm_lk RX3 53 mX3_fail := Or.inl (mm_gw_of (List.mem_of_getElem? (i := 498) (by decide +kernel)) rfl)
theorem lkX3_86 : mm_lk RX3 86 mX9_readToken := Or.inl (mm_gw_of (List.mem_of_getElem? (i := 502) (by decide +kernel)) rfl)
theorem lkX3_40 : mm_lk RX3 40 mX3_takeSemicolon := Or.inl (mm_gw_of (List.mem_of_getElem? (i := 503) (by decide +kernel)) rfl)
theorem lkX3_44 : mm_lk RX3 44 mX3_takeProduct := Or.inl (mm_gw_of (List.mem_of_getElem? (i := 507) (by decide +kernel)) rfl)
theorem lkX3_123 : mm_lk RX3 123 mX3_takeNewName := Or.inl (mm_gw_of (List.mem_of_getElem? (i := 512) (by decide +kernel)) rfl)
theorem lkX3_100 : mm_lk RX3 100 mX9_size := Or.inl (mm_gw_of (List.mem_of_getElem? (i := 516) (by decide +kernel)) rfl)
theorem lkX3_103 : mm_lk RX3 103 mX1_numberOf := Or.inl (mm_gw_of (List.mem_of_getElem? (i := 517) (by decide +kernel)) rfl)
theorem lkX1_61 : mm_lk RX1 61 mX1_hasLetters := Or.inl (mm_gw_of (List.mem_of_getElem? (i := 521) (by decide +kernel)) rfl)
theorem lkX1_65 : mm_lk RX1 65 mX8_byteAt := Or.inl (mm_gw_of (List.mem_of_getElem? (i := 525) (by decide +kernel)) rfl)
theorem lkX3_107 : mm_lk RX3 107 mX1_addNameless := Or.inl (mm_gw_of (List.mem_of_getElem? (i := 526) (by decide +kernel)) rfl)
theorem lkX3_113 : mm_lk RX3 113 mX8_byteAt := Or.inl (mm_gw_of (List.mem_of_getElem? (i := 527) (by decide +kernel)) rfl)
theorem lkX3_119 : mm_lk RX3 119 mX1_addLetter := Or.inl (mm_gw_of (List.mem_of_getElem? (i := 528) (by decide +kernel)) rfl)
theorem lkX3_126 : mm_lk RX3 126 mX3_takeNumber := Or.inl (mm_gw_of (List.mem_of_getElem? (i := 529) (by decide +kernel)) rfl)
theorem lkX3_92 : mm_lk RX3 92 mX10_isOutside := Or.inr ⟨"BatchWarehouse", (List.mem_of_getElem? (i := 533) (by decide +kernel))⟩
theorem lkX3_130 : mm_lk RX3 130 mX1_setMinimum := Or.inl (mm_gw_of (List.mem_of_getElem? (i := 536) (by decide +kernel)) rfl)
theorem lkX3_59 : mm_lk RX3 59 mX3_takeBatch := Or.inl (mm_gw_of (List.mem_of_getElem? (i := 538) (by decide +kernel)) rfl)
theorem lkX3_133 : mm_lk RX3 133 mX3_takeKnownName := Or.inl (mm_gw_of (List.mem_of_getElem? (i := 542) (by decide +kernel)) rfl)
theorem lkX3_137 : mm_lk RX3 137 mX7_addBatch := Or.inl (mm_gw_of (List.mem_of_getElem? (i := 546) (by decide +kernel)) rfl)
theorem lkX10_108 : mm_lk RX10 108 mX8_cutTo := Or.inl (mm_gw_of (List.mem_of_getElem? (i := 547) (by decide +kernel)) rfl)
theorem lkX10_120 : mm_lk RX10 120 mX1_copyFrom := Or.inl (mm_gw_of (List.mem_of_getElem? (i := 621) (by decide +kernel)) rfl)
theorem lkX1_30 : mm_lk RX1 30 mX4_copyFrom := Or.inl (mm_gw_of (List.mem_of_getElem? (i := 625) (by decide +kernel)) rfl)
theorem lkX10_124 : mm_lk RX10 124 mX7_copyFrom := Or.inl (mm_gw_of (List.mem_of_getElem? (i := 633) (by decide +kernel)) rfl)
theorem lkX7_75 : mm_lk RX7 75 mX4_copyFrom := Or.inl (mm_gw_of (List.mem_of_getElem? (i := 637) (by decide +kernel)) rfl)
theorem lkX10_127 : mm_lk RX10 127 mX6_empty := Or.inl (mm_gw_of (List.mem_of_getElem? (i := 638) (by decide +kernel)) rfl)
theorem lkX6_31 : mm_lk RX6 31 mX4_zero := Or.inl (mm_gw_of (List.mem_of_getElem? (i := 642) (by decide +kernel)) rfl)
theorem lkX10_130 : mm_lk RX10 130 mX2_forget := Or.inl (mm_gw_of (List.mem_of_getElem? (i := 643) (by decide +kernel)) rfl)
theorem lkL_72 : mm_lk RL 72 mX10_day := Or.inl (mm_gw_of (List.mem_of_getElem? (i := 647) (by decide +kernel)) rfl)
theorem lkL_172 : mm_lk RL 172 mX10_expiryDay := Or.inl (mm_gw_of (List.mem_of_getElem? (i := 651) (by decide +kernel)) rfl)
theorem lkX10_205 : mm_lk RX10 205 mX10_checkBatch := Or.inl (mm_gw_of (List.mem_of_getElem? (i := 655) (by decide +kernel)) rfl)
theorem lkX10_407 : mm_lk RX10 407 mX7_hasBatch := Or.inl (mm_gw_of (List.mem_of_getElem? (i := 659) (by decide +kernel)) rfl)
theorem lkX10_152 : mm_lk RX10 152 mX4_get := Or.inl (mm_gw_of (List.mem_of_getElem? (i := 679) (by decide +kernel)) rfl)
theorem lkL_179 : mm_lk RL 179 mX10_unitCost := Or.inl (mm_gw_of (List.mem_of_getElem? (i := 680) (by decide +kernel)) rfl)
theorem lkL_151 : mm_lk RL 151 mX10_costOfIssue := Or.inl (mm_gw_of (List.mem_of_getElem? (i := 684) (by decide +kernel)) rfl)
theorem lkX10_145 : mm_lk RX10 145 mX10_checkProduct := Or.inl (mm_gw_of (List.mem_of_getElem? (i := 688) (by decide +kernel)) rfl)
theorem lkX10_402 : mm_lk RX10 402 mX1_hasProduct := Or.inl (mm_gw_of (List.mem_of_getElem? (i := 692) (by decide +kernel)) rfl)
theorem lkX10_104 : mm_lk RX10 104 mX10_checkRange := Or.inl (mm_gw_of (List.mem_of_getElem? (i := 697) (by decide +kernel)) rfl)
theorem lkX10_158 : mm_lk RX10 158 mX10_isOutside := Or.inl (mm_gw_of (List.mem_of_getElem? (i := 700) (by decide +kernel)) rfl)
theorem lkX10_189 : mm_lk RX10 189 mX7_availableUnits := Or.inl (mm_gw_of (List.mem_of_getElem? (i := 702) (by decide +kernel)) rfl)
theorem lkX7_88 : mm_lk RX7 88 mX7_isOf := Or.inl (mm_gw_of (List.mem_of_getElem? (i := 706) (by decide +kernel)) rfl)
theorem lkX7_79 : mm_lk RX7 79 mX4_get := Or.inl (mm_gw_of (List.mem_of_getElem? (i := 710) (by decide +kernel)) rfl)
theorem lkX7_92 : mm_lk RX7 92 mX7_lastsUntil := Or.inl (mm_gw_of (List.mem_of_getElem? (i := 711) (by decide +kernel)) rfl)
theorem lkX7_95 : mm_lk RX7 95 mX7_freeUnitsIn := Or.inl (mm_gw_of (List.mem_of_getElem? (i := 715) (by decide +kernel)) rfl)
theorem lkX10_227 : mm_lk RX10 227 mX7_collectIssueOrder := Or.inl (mm_gw_of (List.mem_of_getElem? (i := 719) (by decide +kernel)) rfl)
theorem lkX7_83 : mm_lk RX7 83 mX0_empty := Or.inl (mm_gw_of (List.mem_of_getElem? (i := 723) (by decide +kernel)) rfl)
theorem lkX7_98 : mm_lk RX7 98 mX0_insert := Or.inl (mm_gw_of (List.mem_of_getElem? (i := 727) (by decide +kernel)) rfl)
theorem lkX0_27 : mm_lk RX0 27 mX4_get := Or.inl (mm_gw_of (List.mem_of_getElem? (i := 731) (by decide +kernel)) rfl)
theorem lkX0_31 : mm_lk RX0 31 mX4_put := Or.inl (mm_gw_of (List.mem_of_getElem? (i := 732) (by decide +kernel)) rfl)
theorem lkX10_236 : mm_lk RX10 236 mX7_costOfTaking := Or.inl (mm_gw_of (List.mem_of_getElem? (i := 733) (by decide +kernel)) rfl)
theorem lkL_66 : mm_lk RL 66 mX10_reservationCount := Or.inl (mm_gw_of (List.mem_of_getElem? (i := 738) (by decide +kernel)) rfl)
theorem lkL_97 : mm_lk RL 97 mX10_isOpen := Or.inl (mm_gw_of (List.mem_of_getElem? (i := 742) (by decide +kernel)) rfl)
theorem lkX10_243 : mm_lk RX10 243 mX10_checkReservation := Or.inl (mm_gw_of (List.mem_of_getElem? (i := 746) (by decide +kernel)) rfl)
theorem lkX10_412 : mm_lk RX10 412 mX7_hasReservation := Or.inl (mm_gw_of (List.mem_of_getElem? (i := 750) (by decide +kernel)) rfl)
theorem lkX10_252 : mm_lk RX10 252 mX7_isPending := Or.inl (mm_gw_of (List.mem_of_getElem? (i := 755) (by decide +kernel)) rfl)
theorem lkL_169 : mm_lk RL 169 mX10_missing := Or.inl (mm_gw_of (List.mem_of_getElem? (i := 759) (by decide +kernel)) rfl)
theorem lkX10_255 : mm_lk RX10 255 mX7_missingUnits := Or.inl (mm_gw_of (List.mem_of_getElem? (i := 763) (by decide +kernel)) rfl)
theorem lkX7_113 : mm_lk RX7 113 mX7_isPending := Or.inl (mm_gw_of (List.mem_of_getElem? (i := 767) (by decide +kernel)) rfl)
theorem lkX7_117 : mm_lk RX7 117 mX7_allUnitsAllocated := Or.inl (mm_gw_of (List.mem_of_getElem? (i := 768) (by decide +kernel)) rfl)
theorem lkL_91 : mm_lk RL 91 mX10_whyNotShipped := Or.inl (mm_gw_of (List.mem_of_getElem? (i := 772) (by decide +kernel)) rfl)
theorem lkX10_261 : mm_lk RX10 261 mX7_shippingObstacle := Or.inl (mm_gw_of (List.mem_of_getElem? (i := 776) (by decide +kernel)) rfl)
theorem lkX7_120 : mm_lk RX7 120 mX7_missingUnits := Or.inl (mm_gw_of (List.mem_of_getElem? (i := 780) (by decide +kernel)) rfl)
theorem lkX7_123 : mm_lk RX7 123 mX7_holdsExpiringBefore := Or.inl (mm_gw_of (List.mem_of_getElem? (i := 781) (by decide +kernel)) rfl)
theorem lkX7_129 : mm_lk RX7 129 mX7_allocatedUnits := Or.inl (mm_gw_of (List.mem_of_getElem? (i := 785) (by decide +kernel)) rfl)
theorem lkL_84 : mm_lk RL 84 mX10_issue := Or.inl (mm_gw_of (List.mem_of_getElem? (i := 789) (by decide +kernel)) rfl)
theorem lkX10_308 : mm_lk RX10 308 mX10_refusalOfIssue := Or.inl (mm_gw_of (List.mem_of_getElem? (i := 793) (by decide +kernel)) rfl)
theorem lkX10_302 : mm_lk RX10 302 mX10_refuse := Or.inl (mm_gw_of (List.mem_of_getElem? (i := 797) (by decide +kernel)) rfl)
theorem lkX10_305 : mm_lk RX10 305 mX2_remember := Or.inl (mm_gw_of (List.mem_of_getElem? (i := 817) (by decide +kernel)) rfl)
theorem lkX2_27 : mm_lk RX2 27 mX6_store := Or.inl (mm_gw_of (List.mem_of_getElem? (i := 821) (by decide +kernel)) rfl)
theorem lkX6_38 : mm_lk RX6 38 mX7_copyFrom := Or.inl (mm_gw_of (List.mem_of_getElem? (i := 825) (by decide +kernel)) rfl)
theorem lkX6_42 : mm_lk RX6 42 mX4_put := Or.inl (mm_gw_of (List.mem_of_getElem? (i := 826) (by decide +kernel)) rfl)
theorem lkX10_311 : mm_lk RX10 311 mX7_issueUnits := Or.inl (mm_gw_of (List.mem_of_getElem? (i := 828) (by decide +kernel)) rfl)
theorem lkX7_138 : mm_lk RX7 138 mX7_collectIssueOrder := Or.inl (mm_gw_of (List.mem_of_getElem? (i := 832) (by decide +kernel)) rfl)
theorem lkX7_142 : mm_lk RX7 142 mX7_costOfTaking := Or.inl (mm_gw_of (List.mem_of_getElem? (i := 833) (by decide +kernel)) rfl)
theorem lkL_87 : mm_lk RL 87 mX10_reserve := Or.inl (mm_gw_of (List.mem_of_getElem? (i := 834) (by decide +kernel)) rfl)
theorem lkX10_314 : mm_lk RX10 314 mX10_refusalOfReserve := Or.inl (mm_gw_of (List.mem_of_getElem? (i := 838) (by decide +kernel)) rfl)
theorem lkX10_317 : mm_lk RX10 317 mX7_addReservation := Or.inl (mm_gw_of (List.mem_of_getElem? (i := 842) (by decide +kernel)) rfl)
theorem lkX7_146 : mm_lk RX7 146 mX7_refillReservation := Or.inl (mm_gw_of (List.mem_of_getElem? (i := 846) (by decide +kernel)) rfl)
theorem lkL_94 : mm_lk RL 94 mX10_ship := Or.inl (mm_gw_of (List.mem_of_getElem? (i := 851) (by decide +kernel)) rfl)
theorem lkX10_320 : mm_lk RX10 320 mX10_refusalOfShip := Or.inl (mm_gw_of (List.mem_of_getElem? (i := 855) (by decide +kernel)) rfl)
theorem lkX10_323 : mm_lk RX10 323 mX7_shipReservation := Or.inl (mm_gw_of (List.mem_of_getElem? (i := 859) (by decide +kernel)) rfl)
theorem lkX7_149 : mm_lk RX7 149 mX7_close := Or.inl (mm_gw_of (List.mem_of_getElem? (i := 863) (by decide +kernel)) rfl)
theorem lkL_113 : mm_lk RL 113 mX10_writeOffExpired := Or.inl (mm_gw_of (List.mem_of_getElem? (i := 867) (by decide +kernel)) rfl)
theorem lkX10_341 : mm_lk RX10 341 mX7_writeOffExpiredBatches := Or.inl (mm_gw_of (List.mem_of_getElem? (i := 871) (by decide +kernel)) rfl)
theorem lkX7_152 : mm_lk RX7 152 mX7_hasExpired := Or.inl (mm_gw_of (List.mem_of_getElem? (i := 875) (by decide +kernel)) rfl)
theorem lkX7_155 : mm_lk RX7 155 mX7_writeOff := Or.inl (mm_gw_of (List.mem_of_getElem? (i := 879) (by decide +kernel)) rfl)
theorem lkL_133 : mm_lk RL 133 mX11_init := Or.inl (mm_gw_of (List.mem_of_getElem? (i := 885) (by decide +kernel)) rfl)
theorem lkL_140 : mm_lk RL 140 mX11_read := Or.inl (mm_gw_of (List.mem_of_getElem? (i := 911) (by decide +kernel)) rfl)
theorem lkX11_22 : mm_lk RX11 22 mX10_batchCount := Or.inl (mm_gw_of (List.mem_of_getElem? (i := 915) (by decide +kernel)) rfl)
theorem lkX11_32 : mm_lk RX11 32 mX10_reservationCount := Or.inl (mm_gw_of (List.mem_of_getElem? (i := 919) (by decide +kernel)) rfl)
theorem lkX11_38 : mm_lk RX11 38 mX10_quantity := Or.inl (mm_gw_of (List.mem_of_getElem? (i := 920) (by decide +kernel)) rfl)
theorem lkX11_41 : mm_lk RX11 41 mX10_allocation := Or.inl (mm_gw_of (List.mem_of_getElem? (i := 924) (by decide +kernel)) rfl)
theorem lkX10_258 : mm_lk RX10 258 mX7_allocatedUnits := Or.inl (mm_gw_of (List.mem_of_getElem? (i := 928) (by decide +kernel)) rfl)
theorem lkL_148 : mm_lk RL 148 mX11_free := Or.inl (mm_gw_of (List.mem_of_getElem? (i := 929) (by decide +kernel)) rfl)
theorem lkX11_49 : mm_lk RX11 49 mX10_productOf := Or.inl (mm_gw_of (List.mem_of_getElem? (i := 933) (by decide +kernel)) rfl)
theorem lkX11_52 : mm_lk RX11 52 mX10_expiryDay := Or.inl (mm_gw_of (List.mem_of_getElem? (i := 937) (by decide +kernel)) rfl)
theorem lkX11_55 : mm_lk RX11 55 mX11_held := Or.inl (mm_gw_of (List.mem_of_getElem? (i := 938) (by decide +kernel)) rfl)
theorem lkX11_45 : mm_lk RX11 45 mX10_isOpen := Or.inl (mm_gw_of (List.mem_of_getElem? (i := 942) (by decide +kernel)) rfl)
theorem lkL_154 : mm_lk RL 154 mX11_issue := Or.inl (mm_gw_of (List.mem_of_getElem? (i := 943) (by decide +kernel)) rfl)
theorem lkX11_58 : mm_lk RX11 58 mX10_day := Or.inl (mm_gw_of (List.mem_of_getElem? (i := 947) (by decide +kernel)) rfl)
theorem lkX11_61 : mm_lk RX11 61 mX11_next := Or.inl (mm_gw_of (List.mem_of_getElem? (i := 948) (by decide +kernel)) rfl)
theorem lkX11_64 : mm_lk RX11 64 mX10_unitCost := Or.inl (mm_gw_of (List.mem_of_getElem? (i := 952) (by decide +kernel)) rfl)
theorem lkL_166 : mm_lk RL 166 mX11_allocate := Or.inl (mm_gw_of (List.mem_of_getElem? (i := 953) (by decide +kernel)) rfl)
theorem lkL_143 : mm_lk RL 143 mX11_agrees := Or.inl (mm_gw_of (List.mem_of_getElem? (i := 957) (by decide +kernel)) rfl)
theorem lkX11_67 : mm_lk RX11 67 mX10_reservedOf := Or.inl (mm_gw_of (List.mem_of_getElem? (i := 961) (by decide +kernel)) rfl)
theorem lkX11_70 : mm_lk RX11 70 mX10_missing := Or.inl (mm_gw_of (List.mem_of_getElem? (i := 965) (by decide +kernel)) rfl)
theorem lkX11_73 : mm_lk RX11 73 mX10_reservedQuantity := Or.inl (mm_gw_of (List.mem_of_getElem? (i := 966) (by decide +kernel)) rfl)
theorem lkX11_76 : mm_lk RX11 76 mX10_inconsistencies := Or.inl (mm_gw_of (List.mem_of_getElem? (i := 970) (by decide +kernel)) rfl)
theorem lkX10_183 : mm_lk RX10 183 mX7_unitsOf := Or.inl (mm_gw_of (List.mem_of_getElem? (i := 974) (by decide +kernel)) rfl)
theorem lkX10_282 : mm_lk RX10 282 mX7_unitsByAccounts := Or.inl (mm_gw_of (List.mem_of_getElem? (i := 978) (by decide +kernel)) rfl)
theorem lkX10_285 : mm_lk RX10 285 mX7_freeUnitsIn := Or.inl (mm_gw_of (List.mem_of_getElem? (i := 982) (by decide +kernel)) rfl)
theorem lkL_49 : mm_lk RL 49 mL_pick := Or.inl (mm_gw_of (List.mem_of_getElem? (i := 983) (by decide +kernel)) rfl)
theorem lkL_124 : mm_lk RL 124 mL_say := Or.inl (mm_gw_of (List.mem_of_getElem? (i := 987) (by decide +kernel)) rfl)
theorem lkL_18 : mm_lk RL 18 mX10_truncate := Or.inl (mm_gw_of (List.mem_of_getElem? (i := 990) (by decide +kernel)) rfl)
theorem lkL_8 : mm_lk RL 8 mJ0_length_8abf5 := Or.inl (mm_gw_of (List.mem_of_getElem? (i := 994) (by decide +kernel)) rfl)
theorem lkL_24 : mm_lk RL 24 mL_word := Or.inl (mm_gw_of (List.mem_of_getElem? (i := 995) (by decide +kernel)) rfl)
theorem lkL_14 : mm_lk RL 14 mJ0_charAt_5068e := Or.inl (mm_gw_of (List.mem_of_getElem? (i := 998) (by decide +kernel)) rfl)
theorem lkL_30 : mm_lk RL 30 mX10_append := Or.inl (mm_gw_of (List.mem_of_getElem? (i := 999) (by decide +kernel)) rfl)
theorem lkX10_101 : mm_lk RX10 101 mX8_addBytesOf := Or.inl (mm_gw_of (List.mem_of_getElem? (i := 1004) (by decide +kernel)) rfl)
theorem lkX8_25 : mm_lk RX8 25 mX8_addByte := Or.inl (mm_gw_of (List.mem_of_getElem? (i := 1008) (by decide +kernel)) rfl)
theorem lkL_120 : mm_lk RL 120 mL_setup := Or.inl (mm_gw_of (List.mem_of_getElem? (i := 1012) (by decide +kernel)) rfl)
theorem lkL_38 : mm_lk RL 38 mJ4_init_a7421 := Or.inl (mm_gw_of (List.mem_of_getElem? (i := 1018) (by decide +kernel)) rfl)
theorem lkJ4_7 : mm_lk RJ4 7 mJ5_init_a7421 := Or.inl (mm_gw_of (List.mem_of_getElem? (i := 1021) (by decide +kernel)) rfl)
theorem lkJ5_32 : mm_lk RJ5 32 mJ0_length_8abf5 := Or.inl (mm_gw_of (List.mem_of_getElem? (i := 1025) (by decide +kernel)) rfl)
theorem lkJ5_40 : mm_lk RJ5 40 mJ0_coder_7d493 := Or.inl (mm_gw_of (List.mem_of_getElem? (i := 1028) (by decide +kernel)) rfl)
theorem lkJ5_43 : mm_lk RJ5 43 mJ5_append_cf1ce := Or.inl (mm_gw_of (List.mem_of_getElem? (i := 1036) (by decide +kernel)) rfl)
theorem lkJ4_23 : mm_lk RJ4 23 mJ4_append_15ec4 := Or.inl (mm_gw_of (List.mem_of_getElem? (i := 1042) (by decide +kernel)) rfl)
theorem lkJ4_29 : mm_lk RJ4 29 mJ5_append_cf1ce := Or.inl (mm_gw_of (List.mem_of_getElem? (i := 1046) (by decide +kernel)) rfl)
theorem lkJ5_100 : mm_lk RJ5 100 mJ5_ensureCapacityInternal_d00df := Or.inl (mm_gw_of (List.mem_of_getElem? (i := 1053) (by decide +kernel)) rfl)
theorem lkJ5_104 : mm_lk RJ5 104 mJ5_newCapacity_0f7a4 := Or.inl (mm_gw_of (List.mem_of_getElem? (i := 1057) (by decide +kernel)) rfl)
theorem lkJ5_114 : mm_lk RJ5 114 mJ8_newLength_cabcc := Or.inl (mm_gw_of (List.mem_of_getElem? (i := 1061) (by decide +kernel)) rfl)
theorem lkJ5_108 : mm_lk RJ5 108 mJ7_copyOf_9075b := Or.inl (mm_gw_of (List.mem_of_getElem? (i := 1069) (by decide +kernel)) rfl)
theorem lkJ5_83 : mm_lk RJ5 83 mJ5_isLatin1_aae02 := Or.inl (mm_gw_of (List.mem_of_getElem? (i := 1081) (by decide +kernel)) rfl)
theorem lkJ5_208 : mm_lk RJ5 208 mJ5_putStringAt_47b60 := Or.inl (mm_gw_of (List.mem_of_getElem? (i := 1102) (by decide +kernel)) rfl)
theorem lkJ5_397 : mm_lk RJ5 397 mJ5_inflateIfNeededFor_a7421 := Or.inl (mm_gw_of (List.mem_of_getElem? (i := 1106) (by decide +kernel)) rfl)
theorem lkJ5_399 : mm_lk RJ5 399 mJ0_getBytes_840e7 := Or.inl (mm_gw_of (List.mem_of_getElem? (i := 1129) (by decide +kernel)) rfl)
theorem lkL_43 : mm_lk RL 43 mJ4_append_15ec4 := Or.inl (mm_gw_of (List.mem_of_getElem? (i := 1148) (by decide +kernel)) rfl)
theorem lkL_46 : mm_lk RL 46 mJ4_append_cf468 := Or.inl (mm_gw_of (List.mem_of_getElem? (i := 1149) (by decide +kernel)) rfl)
theorem lkJ4_50 : mm_lk RJ4 50 mJ5_append_3fe6f := Or.inl (mm_gw_of (List.mem_of_getElem? (i := 1153) (by decide +kernel)) rfl)
theorem lkJ5_191 : mm_lk RJ5 191 mJ1_canEncode_fc78d := Or.inl (mm_gw_of (List.mem_of_getElem? (i := 1156) (by decide +kernel)) rfl)
theorem lkL_53 : mm_lk RL 53 mJ4_append_bf812 := Or.inl (mm_gw_of (List.mem_of_getElem? (i := 1162) (by decide +kernel)) rfl)
theorem lkJ4_53 : mm_lk RJ4 53 mJ5_append_c97b9 := Or.inl (mm_gw_of (List.mem_of_getElem? (i := 1166) (by decide +kernel)) rfl)
theorem lkJ5_245 : mm_lk RJ5 245 mJ6_stringSize_0f7a4 := Or.inl (mm_gw_of (List.mem_of_getElem? (i := 1169) (by decide +kernel)) rfl)
theorem lkJ5_248 : mm_lk RJ5 248 mJ6_getChars_ba4f3 := Or.inl (mm_gw_of (List.mem_of_getElem? (i := 1172) (by decide +kernel)) rfl)
theorem lkL_59 : mm_lk RL 59 mJ4_toString_0e30d := Or.inl (mm_gw_of (List.mem_of_getElem? (i := 1189) (by decide +kernel)) rfl)
theorem lkJ4_137 : mm_lk RJ4 137 mJ0_init_81219 := Or.inl (mm_gw_of (List.mem_of_getElem? (i := 1195) (by decide +kernel)) rfl)
theorem lkJ0_489 : mm_lk RJ0 489 mJ0_init_db425 := Or.inl (mm_gw_of (List.mem_of_getElem? (i := 1198) (by decide +kernel)) rfl)
theorem lkJ0_552 : mm_lk RJ0 552 mJ5_getValue_6d5f1 := Or.inl (mm_gw_of (List.mem_of_getElem? (i := 1202) (by decide +kernel)) rfl)
theorem lkJ0_549 : mm_lk RJ0 549 mJ5_length_8abf5 := Or.inl (mm_gw_of (List.mem_of_getElem? (i := 1207) (by decide +kernel)) rfl)
theorem lkJ4_343 : mm_lk RJ4 343 mJ5_length_8abf5 := Or.inl (mm_gw_of (List.mem_of_getElem? (i := 1213) (by decide +kernel)) rfl)
theorem lkJ0_1047 : mm_lk RJ0 1047 mJ5_isLatin1_aae02 := Or.inl (mm_gw_of (List.mem_of_getElem? (i := 1215) (by decide +kernel)) rfl)
theorem lkJ0_54 : mm_lk RJ0 54 mJ7_copyOfRange_39247 := Or.inl (mm_gw_of (List.mem_of_getElem? (i := 1216) (by decide +kernel)) rfl)
theorem lkJ7_339 : mm_lk RJ7 339 mJ7_copyOfRangeByte_39247 := Or.inl (mm_gw_of (List.mem_of_getElem? (i := 1219) (by decide +kernel)) rfl)
theorem lkJ7_343 : mm_lk RJ7 343 mJ7_checkLength_df160 := Or.inl (mm_gw_of (List.mem_of_getElem? (i := 1222) (by decide +kernel)) rfl)
theorem lkJ2_126 : mm_lk RJ2 126 mJ7_copyOfRange_39247 := Or.inl (mm_gw_of (List.mem_of_getElem? (i := 1231) (by decide +kernel)) rfl)
theorem lkL_136 : mm_lk RL 136 mL_act := Or.inl (mm_gw_of (List.mem_of_getElem? (i := 1246) (by decide +kernel)) rfl)
theorem lkL_63 : mm_lk RL 63 mX10_productCount := Or.inl (mm_gw_of (List.mem_of_getElem? (i := 1249) (by decide +kernel)) rfl)
theorem lkL_69 : mm_lk RL 69 mX10_batchCount := Or.inl (mm_gw_of (List.mem_of_getElem? (i := 1253) (by decide +kernel)) rfl)
theorem lkL_76 : mm_lk RL 76 mX10_receive := Or.inl (mm_gw_of (List.mem_of_getElem? (i := 1255) (by decide +kernel)) rfl)
theorem lkX10_299 : mm_lk RX10 299 mX10_refusalOfReceive := Or.inl (mm_gw_of (List.mem_of_getElem? (i := 1259) (by decide +kernel)) rfl)
theorem lkL_80 : mm_lk RL 80 mX10_availableOn := Or.inl (mm_gw_of (List.mem_of_getElem? (i := 1263) (by decide +kernel)) rfl)
theorem lkL_101 : mm_lk RL 101 mX10_cancel := Or.inl (mm_gw_of (List.mem_of_getElem? (i := 1267) (by decide +kernel)) rfl)
theorem lkX10_326 : mm_lk RX10 326 mX10_refusalOfOpenOnly := Or.inl (mm_gw_of (List.mem_of_getElem? (i := 1271) (by decide +kernel)) rfl)
theorem lkX10_329 : mm_lk RX10 329 mX7_cancelReservation := Or.inl (mm_gw_of (List.mem_of_getElem? (i := 1275) (by decide +kernel)) rfl)
theorem lkL_104 : mm_lk RL 104 mX10_refill := Or.inl (mm_gw_of (List.mem_of_getElem? (i := 1279) (by decide +kernel)) rfl)
theorem lkX10_332 : mm_lk RX10 332 mX7_refillReservation := Or.inl (mm_gw_of (List.mem_of_getElem? (i := 1283) (by decide +kernel)) rfl)
theorem lkL_107 : mm_lk RL 107 mX10_reservedOf := Or.inl (mm_gw_of (List.mem_of_getElem? (i := 1284) (by decide +kernel)) rfl)
theorem lkL_110 : mm_lk RL 110 mX10_takeStock := Or.inl (mm_gw_of (List.mem_of_getElem? (i := 1285) (by decide +kernel)) rfl)
theorem lkX10_335 : mm_lk RX10 335 mX10_refusalOfCount := Or.inl (mm_gw_of (List.mem_of_getElem? (i := 1289) (by decide +kernel)) rfl)
theorem lkX10_338 : mm_lk RX10 338 mX7_countBatch := Or.inl (mm_gw_of (List.mem_of_getElem? (i := 1293) (by decide +kernel)) rfl)
theorem lkL_116 : mm_lk RL 116 mX10_passDays := Or.inl (mm_gw_of (List.mem_of_getElem? (i := 1297) (by decide +kernel)) rfl)
theorem lkX10_345 : mm_lk RX10 345 mX10_refusalOfDays := Or.inl (mm_gw_of (List.mem_of_getElem? (i := 1301) (by decide +kernel)) rfl)
theorem lkX10_348 : mm_lk RX10 348 mX7_advance := Or.inl (mm_gw_of (List.mem_of_getElem? (i := 1305) (by decide +kernel)) rfl)
end MMW

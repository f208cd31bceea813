section MMK
/-! kinds of the objects (gen15.py) -/
theorem mm_kd_lt {o t n : Nat} (h : mm_kd o = (t, n)) (ht : ¬ t = 9) : o < 352 := by
  rcases Nat.lt_or_ge o 352 with h1 | h1
  · exact h1
  · have h2 : mm_kd o = (9, 0) := by
      unfold mm_kd
      rw [List.getD_eq_getElem?_getD, List.getElem?_eq_none (by have h3 : mm_kdl.length = 352 := by decide +kernel
                                                                omega)]
      rfl
    rw [h2] at h
    cases h
    omega
def mm_cap (o : Nat) : Nat := (mm_kd (o + 1)).2
theorem kdX8_0 {o : Nat} (hk : mm_kd o = (0, 8)) : mm_kd (o + 1) = (3, mm_cap o) := by
  have h9 : ∀ o, o < 352 → mm_kd o = (0, 8) → mm_kd (o + 1) = (3, mm_cap o) := by decide +kernel
  exact h9 o (mm_kd_lt hk (by decide)) hk
theorem kdX3_0 {o : Nat} (hk : mm_kd o = (0, 3)) : mm_kd (o + 1) = (0, 9) := by
  have h9 : ∀ o, o < 352 → mm_kd o = (0, 3) → mm_kd (o + 1) = (0, 9) := by decide +kernel
  exact h9 o (mm_kd_lt hk (by decide)) hk
theorem kdX4_0 {o : Nat} (hk : mm_kd o = (0, 4)) : mm_kd (o + 1) = (1, mm_cap o) := by
  have h9 : ∀ o, o < 352 → mm_kd o = (0, 4) → mm_kd (o + 1) = (1, mm_cap o) := by decide +kernel
  exact h9 o (mm_kd_lt hk (by decide)) hk
theorem kdX5_2 {o : Nat} (hk : mm_kd o = (0, 5)) : mm_kd (o + 1) = (0, 4) := by
  have h9 : ∀ o, o < 352 → mm_kd o = (0, 5) → mm_kd (o + 1) = (0, 4) := by decide +kernel
  exact h9 o (mm_kd_lt hk (by decide)) hk
theorem kdX5_3 {o : Nat} (hk : mm_kd o = (0, 5)) : mm_kd (o + 3) = (0, 4) := by
  have h9 : ∀ o, o < 352 → mm_kd o = (0, 5) → mm_kd (o + 3) = (0, 4) := by decide +kernel
  exact h9 o (mm_kd_lt hk (by decide)) hk
theorem kdX1_1 {o : Nat} (hk : mm_kd o = (0, 1)) : mm_kd (o + 1) = (0, 4) := by
  have h9 : ∀ o, o < 352 → mm_kd o = (0, 1) → mm_kd (o + 1) = (0, 4) := by decide +kernel
  exact h9 o (mm_kd_lt hk (by decide)) hk
theorem kdX1_2 {o : Nat} (hk : mm_kd o = (0, 1)) : mm_kd (o + 3) = (0, 4) := by
  have h9 : ∀ o, o < 352 → mm_kd o = (0, 1) → mm_kd (o + 3) = (0, 4) := by decide +kernel
  exact h9 o (mm_kd_lt hk (by decide)) hk
theorem kdX1_3 {o : Nat} (hk : mm_kd o = (0, 1)) : mm_kd (o + 5) = (0, 4) := by
  have h9 : ∀ o, o < 352 → mm_kd o = (0, 1) → mm_kd (o + 5) = (0, 4) := by decide +kernel
  exact h9 o (mm_kd_lt hk (by decide)) hk
theorem kdX7_2 {o : Nat} (hk : mm_kd o = (0, 7)) : mm_kd (o + 1) = (0, 4) := by
  have h9 : ∀ o, o < 352 → mm_kd o = (0, 7) → mm_kd (o + 1) = (0, 4) := by decide +kernel
  exact h9 o (mm_kd_lt hk (by decide)) hk
theorem kdX7_3 {o : Nat} (hk : mm_kd o = (0, 7)) : mm_kd (o + 3) = (0, 4) := by
  have h9 : ∀ o, o < 352 → mm_kd o = (0, 7) → mm_kd (o + 3) = (0, 4) := by decide +kernel
  exact h9 o (mm_kd_lt hk (by decide)) hk
theorem kdX7_4 {o : Nat} (hk : mm_kd o = (0, 7)) : mm_kd (o + 5) = (0, 4) := by
  have h9 : ∀ o, o < 352 → mm_kd o = (0, 7) → mm_kd (o + 5) = (0, 4) := by decide +kernel
  exact h9 o (mm_kd_lt hk (by decide)) hk
theorem kdX7_5 {o : Nat} (hk : mm_kd o = (0, 7)) : mm_kd (o + 7) = (0, 4) := by
  have h9 : ∀ o, o < 352 → mm_kd o = (0, 7) → mm_kd (o + 7) = (0, 4) := by decide +kernel
  exact h9 o (mm_kd_lt hk (by decide)) hk
theorem kdX7_6 {o : Nat} (hk : mm_kd o = (0, 7)) : mm_kd (o + 9) = (0, 4) := by
  have h9 : ∀ o, o < 352 → mm_kd o = (0, 7) → mm_kd (o + 9) = (0, 4) := by decide +kernel
  exact h9 o (mm_kd_lt hk (by decide)) hk
theorem kdX7_8 {o : Nat} (hk : mm_kd o = (0, 7)) : mm_kd (o + 11) = (0, 4) := by
  have h9 : ∀ o, o < 352 → mm_kd o = (0, 7) → mm_kd (o + 11) = (0, 4) := by decide +kernel
  exact h9 o (mm_kd_lt hk (by decide)) hk
theorem kdX7_9 {o : Nat} (hk : mm_kd o = (0, 7)) : mm_kd (o + 13) = (0, 4) := by
  have h9 : ∀ o, o < 352 → mm_kd o = (0, 7) → mm_kd (o + 13) = (0, 4) := by decide +kernel
  exact h9 o (mm_kd_lt hk (by decide)) hk
theorem kdX7_10 {o : Nat} (hk : mm_kd o = (0, 7)) : mm_kd (o + 15) = (0, 4) := by
  have h9 : ∀ o, o < 352 → mm_kd o = (0, 7) → mm_kd (o + 15) = (0, 4) := by decide +kernel
  exact h9 o (mm_kd_lt hk (by decide)) hk
theorem kdX7_11 {o : Nat} (hk : mm_kd o = (0, 7)) : mm_kd (o + 17) = (0, 4) := by
  have h9 : ∀ o, o < 352 → mm_kd o = (0, 7) → mm_kd (o + 17) = (0, 4) := by decide +kernel
  exact h9 o (mm_kd_lt hk (by decide)) hk
theorem kdX7_12 {o : Nat} (hk : mm_kd o = (0, 7)) : mm_kd (o + 19) = (0, 4) := by
  have h9 : ∀ o, o < 352 → mm_kd o = (0, 7) → mm_kd (o + 19) = (0, 4) := by decide +kernel
  exact h9 o (mm_kd_lt hk (by decide)) hk
theorem kdX7_13 {o : Nat} (hk : mm_kd o = (0, 7)) : mm_kd (o + 21) = (0, 4) := by
  have h9 : ∀ o, o < 352 → mm_kd o = (0, 7) → mm_kd (o + 21) = (0, 4) := by decide +kernel
  exact h9 o (mm_kd_lt hk (by decide)) hk
theorem kdX7_14 {o : Nat} (hk : mm_kd o = (0, 7)) : mm_kd (o + 23) = (0, 4) := by
  have h9 : ∀ o, o < 352 → mm_kd o = (0, 7) → mm_kd (o + 23) = (0, 4) := by decide +kernel
  exact h9 o (mm_kd_lt hk (by decide)) hk
theorem kdX7_15 {o : Nat} (hk : mm_kd o = (0, 7)) : mm_kd (o + 25) = (0, 4) := by
  have h9 : ∀ o, o < 352 → mm_kd o = (0, 7) → mm_kd (o + 25) = (0, 4) := by decide +kernel
  exact h9 o (mm_kd_lt hk (by decide)) hk
theorem kdX7_16 {o : Nat} (hk : mm_kd o = (0, 7)) : mm_kd (o + 27) = (0, 4) := by
  have h9 : ∀ o, o < 352 → mm_kd o = (0, 7) → mm_kd (o + 27) = (0, 4) := by decide +kernel
  exact h9 o (mm_kd_lt hk (by decide)) hk
theorem kdX7_17 {o : Nat} (hk : mm_kd o = (0, 7)) : mm_kd (o + 29) = (0, 4) := by
  have h9 : ∀ o, o < 352 → mm_kd o = (0, 7) → mm_kd (o + 29) = (0, 4) := by decide +kernel
  exact h9 o (mm_kd_lt hk (by decide)) hk
theorem kdX6_0 {o : Nat} (hk : mm_kd o = (0, 6)) : mm_kd (o + 1) = (6, mm_cap o) := by
  have h9 : ∀ o, o < 352 → mm_kd o = (0, 6) → mm_kd (o + 1) = (6, mm_cap o) := by decide +kernel
  exact h9 o (mm_kd_lt hk (by decide)) hk
theorem kdX6_1 {o : Nat} (hk : mm_kd o = (0, 6)) : mm_kd (o + 2) = (0, 4) := by
  have h9 : ∀ o, o < 352 → mm_kd o = (0, 6) → mm_kd (o + 2) = (0, 4) := by decide +kernel
  exact h9 o (mm_kd_lt hk (by decide)) hk
theorem kdX2_0 {o : Nat} (hk : mm_kd o = (0, 2)) : mm_kd (o + 1) = (0, 6) := by
  have h9 : ∀ o, o < 352 → mm_kd o = (0, 2) → mm_kd (o + 1) = (0, 6) := by decide +kernel
  exact h9 o (mm_kd_lt hk (by decide)) hk
theorem kdX0_1 {o : Nat} (hk : mm_kd o = (0, 0)) : mm_kd (o + 1) = (0, 4) := by
  have h9 : ∀ o, o < 352 → mm_kd o = (0, 0) → mm_kd (o + 1) = (0, 4) := by decide +kernel
  exact h9 o (mm_kd_lt hk (by decide)) hk
theorem kdX0_2 {o : Nat} (hk : mm_kd o = (0, 0)) : mm_kd (o + 3) = (0, 4) := by
  have h9 : ∀ o, o < 352 → mm_kd o = (0, 0) → mm_kd (o + 3) = (0, 4) := by decide +kernel
  exact h9 o (mm_kd_lt hk (by decide)) hk
theorem kdA {o n : Nat} {i : Int32} (hk : mm_kd o = (6, n)) (hi : vp_in i n) : mm_kd (o + 3 + 31 * i.toNatClampNeg) = (0, 7) := by
  have h9 : ∀ o, o < 352 → (mm_kd o).1 = 6 → ∀ j, j < (mm_kd o).2 → mm_kd (o + 3 + 31 * j) = (0, 7) := by decide +kernel
  have h8 := h9 o (mm_kd_lt hk (by decide)) (by rw [hk]) i.toNatClampNeg (by rw [hk]; unfold vp_in at hi; omega)
  exact h8
theorem sr_0 : ("BatchWarehouse", 76, "milk", 0) ∈ mm_srl := List.mem_of_getElem? (i := 0) rfl
theorem sr_1 : ("BatchWarehouse", 82, "rice", 1) ∈ mm_srl := List.mem_of_getElem? (i := 1) rfl
theorem sr_2 : ("BatchWarehouse", 84, "eggs", 2) ∈ mm_srl := List.mem_of_getElem? (i := 2) rfl
theorem sr_3 : ("BatchWarehouse$Parser", 34, "warehouse", 3) ∈ mm_srl := List.mem_of_getElem? (i := 3) rfl
theorem sr_4 : ("BatchWarehouse$Parser", 48, "product", 4) ∈ mm_srl := List.mem_of_getElem? (i := 4) rfl
theorem sr_5 : ("BatchWarehouse$Parser", 57, "batch", 5) ∈ mm_srl := List.mem_of_getElem? (i := 5) rfl
theorem sr_6 : ("BatchWarehouse", 117, "the setup text has an error", 6) ∈ mm_srl := List.mem_of_getElem? (i := 6) rfl
theorem sr_7 : ("BatchWarehouse", 410, "the batch does not exist", 7) ∈ mm_srl := List.mem_of_getElem? (i := 7) rfl
theorem sr_8 : ("BatchWarehouse", 405, "the product does not exist", 8) ∈ mm_srl := List.mem_of_getElem? (i := 8) rfl
theorem sr_9 : ("BatchWarehouse", 400, "an argument is out of range", 9) ∈ mm_srl := List.mem_of_getElem? (i := 9) rfl
theorem sr_10 : ("BatchWarehouse", 415, "the reservation does not exist", 10) ∈ mm_srl := List.mem_of_getElem? (i := 10) rfl
theorem sr_11 : ("BatchWarehouse", 427, "there is nothing with this number", 11) ∈ mm_srl := List.mem_of_getElem? (i := 11) rfl
theorem sr_12 : ("BatchWarehouse", 429, "the state does not allow this change", 12) ∈ mm_srl := List.mem_of_getElem? (i := 12) rfl
theorem sr_13 : ("BatchWarehouse", 96, "the input buffer has no room for 20 more bytes", 13) ∈ mm_srl := List.mem_of_getElem? (i := 13) rfl
theorem sr_14 : ("BatchWarehouseLaw", 36, "warehouse;", 14) ∈ mm_srl := List.mem_of_getElem? (i := 14) rfl
theorem sr_15 : ("BatchWarehouseLaw", 41, "product p", 15) ∈ mm_srl := List.mem_of_getElem? (i := 15) rfl
theorem sr_16 : ("BatchWarehouseLaw", 57, "batch p", 16) ∈ mm_srl := List.mem_of_getElem? (i := 16) rfl
theorem kd_0 : mm_kd 0 = (0, 10) := by decide +kernel
theorem kd_1 : mm_kd 1 = (0, 8) := by decide +kernel
theorem kd_2 : mm_kd 2 = (3, 600) := by decide +kernel
theorem kd_3 : mm_kd 3 = (0, 8) := by decide +kernel
theorem kd_4 : mm_kd 4 = (3, 199) := by decide +kernel
theorem kd_5 : mm_kd 5 = (0, 3) := by decide +kernel
theorem kd_6 : mm_kd 6 = (0, 9) := by decide +kernel
theorem kd_7 : mm_kd 7 = (0, 8) := by decide +kernel
theorem kd_8 : mm_kd 8 = (3, 0) := by decide +kernel
theorem kd_9 : mm_kd 9 = (0, 5) := by decide +kernel
theorem kd_10 : mm_kd 10 = (0, 4) := by decide +kernel
theorem kd_11 : mm_kd 11 = (1, 30) := by decide +kernel
theorem kd_12 : mm_kd 12 = (0, 4) := by decide +kernel
theorem kd_13 : mm_kd 13 = (1, 120) := by decide +kernel
theorem kd_14 : mm_kd 14 = (0, 1) := by decide +kernel
theorem kd_15 : mm_kd 15 = (0, 4) := by decide +kernel
theorem kd_16 : mm_kd 16 = (1, 48) := by decide +kernel
theorem kd_17 : mm_kd 17 = (0, 4) := by decide +kernel
theorem kd_18 : mm_kd 18 = (1, 8) := by decide +kernel
theorem kd_19 : mm_kd 19 = (0, 4) := by decide +kernel
theorem kd_20 : mm_kd 20 = (1, 8) := by decide +kernel
theorem kd_21 : mm_kd 21 = (0, 7) := by decide +kernel
theorem kd_22 : mm_kd 22 = (0, 4) := by decide +kernel
theorem kd_23 : mm_kd 23 = (1, 20) := by decide +kernel
theorem kd_24 : mm_kd 24 = (0, 4) := by decide +kernel
theorem kd_25 : mm_kd 25 = (1, 20) := by decide +kernel
theorem kd_26 : mm_kd 26 = (0, 4) := by decide +kernel
theorem kd_27 : mm_kd 27 = (1, 20) := by decide +kernel
theorem kd_28 : mm_kd 28 = (0, 4) := by decide +kernel
theorem kd_29 : mm_kd 29 = (1, 20) := by decide +kernel
theorem kd_30 : mm_kd 30 = (0, 4) := by decide +kernel
theorem kd_31 : mm_kd 31 = (1, 20) := by decide +kernel
theorem kd_32 : mm_kd 32 = (0, 4) := by decide +kernel
theorem kd_33 : mm_kd 33 = (1, 10) := by decide +kernel
theorem kd_34 : mm_kd 34 = (0, 4) := by decide +kernel
theorem kd_35 : mm_kd 35 = (1, 10) := by decide +kernel
theorem kd_36 : mm_kd 36 = (0, 4) := by decide +kernel
theorem kd_37 : mm_kd 37 = (1, 10) := by decide +kernel
theorem kd_38 : mm_kd 38 = (0, 4) := by decide +kernel
theorem kd_39 : mm_kd 39 = (1, 10) := by decide +kernel
theorem kd_40 : mm_kd 40 = (0, 4) := by decide +kernel
theorem kd_41 : mm_kd 41 = (1, 200) := by decide +kernel
theorem kd_42 : mm_kd 42 = (0, 4) := by decide +kernel
theorem kd_43 : mm_kd 43 = (1, 8) := by decide +kernel
theorem kd_44 : mm_kd 44 = (0, 4) := by decide +kernel
theorem kd_45 : mm_kd 45 = (1, 8) := by decide +kernel
theorem kd_46 : mm_kd 46 = (0, 4) := by decide +kernel
theorem kd_47 : mm_kd 47 = (1, 8) := by decide +kernel
theorem kd_48 : mm_kd 48 = (0, 4) := by decide +kernel
theorem kd_49 : mm_kd 49 = (1, 8) := by decide +kernel
theorem kd_50 : mm_kd 50 = (0, 4) := by decide +kernel
theorem kd_51 : mm_kd 51 = (1, 8) := by decide +kernel
theorem kd_52 : mm_kd 52 = (0, 1) := by decide +kernel
theorem kd_53 : mm_kd 53 = (0, 4) := by decide +kernel
theorem kd_54 : mm_kd 54 = (1, 48) := by decide +kernel
theorem kd_55 : mm_kd 55 = (0, 4) := by decide +kernel
theorem kd_56 : mm_kd 56 = (1, 8) := by decide +kernel
theorem kd_57 : mm_kd 57 = (0, 4) := by decide +kernel
theorem kd_58 : mm_kd 58 = (1, 8) := by decide +kernel
theorem kd_59 : mm_kd 59 = (0, 7) := by decide +kernel
theorem kd_60 : mm_kd 60 = (0, 4) := by decide +kernel
theorem kd_61 : mm_kd 61 = (1, 20) := by decide +kernel
theorem kd_62 : mm_kd 62 = (0, 4) := by decide +kernel
theorem kd_63 : mm_kd 63 = (1, 20) := by decide +kernel
theorem kd_64 : mm_kd 64 = (0, 4) := by decide +kernel
theorem kd_65 : mm_kd 65 = (1, 20) := by decide +kernel
theorem kd_66 : mm_kd 66 = (0, 4) := by decide +kernel
theorem kd_67 : mm_kd 67 = (1, 20) := by decide +kernel
theorem kd_68 : mm_kd 68 = (0, 4) := by decide +kernel
theorem kd_69 : mm_kd 69 = (1, 20) := by decide +kernel
theorem kd_70 : mm_kd 70 = (0, 4) := by decide +kernel
theorem kd_71 : mm_kd 71 = (1, 10) := by decide +kernel
theorem kd_72 : mm_kd 72 = (0, 4) := by decide +kernel
theorem kd_73 : mm_kd 73 = (1, 10) := by decide +kernel
theorem kd_74 : mm_kd 74 = (0, 4) := by decide +kernel
theorem kd_75 : mm_kd 75 = (1, 10) := by decide +kernel
theorem kd_76 : mm_kd 76 = (0, 4) := by decide +kernel
theorem kd_77 : mm_kd 77 = (1, 10) := by decide +kernel
theorem kd_78 : mm_kd 78 = (0, 4) := by decide +kernel
theorem kd_79 : mm_kd 79 = (1, 200) := by decide +kernel
theorem kd_80 : mm_kd 80 = (0, 4) := by decide +kernel
theorem kd_81 : mm_kd 81 = (1, 8) := by decide +kernel
theorem kd_82 : mm_kd 82 = (0, 4) := by decide +kernel
theorem kd_83 : mm_kd 83 = (1, 8) := by decide +kernel
theorem kd_84 : mm_kd 84 = (0, 4) := by decide +kernel
theorem kd_85 : mm_kd 85 = (1, 8) := by decide +kernel
theorem kd_86 : mm_kd 86 = (0, 4) := by decide +kernel
theorem kd_87 : mm_kd 87 = (1, 8) := by decide +kernel
theorem kd_88 : mm_kd 88 = (0, 4) := by decide +kernel
theorem kd_89 : mm_kd 89 = (1, 8) := by decide +kernel
theorem kd_90 : mm_kd 90 = (0, 2) := by decide +kernel
theorem kd_91 : mm_kd 91 = (0, 6) := by decide +kernel
theorem kd_92 : mm_kd 92 = (6, 6) := by decide +kernel
theorem kd_93 : mm_kd 93 = (0, 4) := by decide +kernel
theorem kd_94 : mm_kd 94 = (1, 6) := by decide +kernel
theorem kd_95 : mm_kd 95 = (0, 7) := by decide +kernel
theorem kd_96 : mm_kd 96 = (0, 4) := by decide +kernel
theorem kd_97 : mm_kd 97 = (1, 20) := by decide +kernel
theorem kd_98 : mm_kd 98 = (0, 4) := by decide +kernel
theorem kd_99 : mm_kd 99 = (1, 20) := by decide +kernel
theorem kd_100 : mm_kd 100 = (0, 4) := by decide +kernel
theorem kd_101 : mm_kd 101 = (1, 20) := by decide +kernel
theorem kd_102 : mm_kd 102 = (0, 4) := by decide +kernel
theorem kd_103 : mm_kd 103 = (1, 20) := by decide +kernel
theorem kd_104 : mm_kd 104 = (0, 4) := by decide +kernel
theorem kd_105 : mm_kd 105 = (1, 20) := by decide +kernel
theorem kd_106 : mm_kd 106 = (0, 4) := by decide +kernel
theorem kd_107 : mm_kd 107 = (1, 10) := by decide +kernel
theorem kd_108 : mm_kd 108 = (0, 4) := by decide +kernel
theorem kd_109 : mm_kd 109 = (1, 10) := by decide +kernel
theorem kd_110 : mm_kd 110 = (0, 4) := by decide +kernel
theorem kd_111 : mm_kd 111 = (1, 10) := by decide +kernel
theorem kd_112 : mm_kd 112 = (0, 4) := by decide +kernel
theorem kd_113 : mm_kd 113 = (1, 10) := by decide +kernel
theorem kd_114 : mm_kd 114 = (0, 4) := by decide +kernel
theorem kd_115 : mm_kd 115 = (1, 200) := by decide +kernel
theorem kd_116 : mm_kd 116 = (0, 4) := by decide +kernel
theorem kd_117 : mm_kd 117 = (1, 8) := by decide +kernel
theorem kd_118 : mm_kd 118 = (0, 4) := by decide +kernel
theorem kd_119 : mm_kd 119 = (1, 8) := by decide +kernel
theorem kd_120 : mm_kd 120 = (0, 4) := by decide +kernel
theorem kd_121 : mm_kd 121 = (1, 8) := by decide +kernel
theorem kd_122 : mm_kd 122 = (0, 4) := by decide +kernel
theorem kd_123 : mm_kd 123 = (1, 8) := by decide +kernel
theorem kd_124 : mm_kd 124 = (0, 4) := by decide +kernel
theorem kd_125 : mm_kd 125 = (1, 8) := by decide +kernel
theorem kd_126 : mm_kd 126 = (0, 7) := by decide +kernel
theorem kd_127 : mm_kd 127 = (0, 4) := by decide +kernel
theorem kd_128 : mm_kd 128 = (1, 20) := by decide +kernel
theorem kd_129 : mm_kd 129 = (0, 4) := by decide +kernel
theorem kd_130 : mm_kd 130 = (1, 20) := by decide +kernel
theorem kd_131 : mm_kd 131 = (0, 4) := by decide +kernel
theorem kd_132 : mm_kd 132 = (1, 20) := by decide +kernel
theorem kd_133 : mm_kd 133 = (0, 4) := by decide +kernel
theorem kd_134 : mm_kd 134 = (1, 20) := by decide +kernel
theorem kd_135 : mm_kd 135 = (0, 4) := by decide +kernel
theorem kd_136 : mm_kd 136 = (1, 20) := by decide +kernel
theorem kd_137 : mm_kd 137 = (0, 4) := by decide +kernel
theorem kd_138 : mm_kd 138 = (1, 10) := by decide +kernel
theorem kd_139 : mm_kd 139 = (0, 4) := by decide +kernel
theorem kd_140 : mm_kd 140 = (1, 10) := by decide +kernel
theorem kd_141 : mm_kd 141 = (0, 4) := by decide +kernel
theorem kd_142 : mm_kd 142 = (1, 10) := by decide +kernel
theorem kd_143 : mm_kd 143 = (0, 4) := by decide +kernel
theorem kd_144 : mm_kd 144 = (1, 10) := by decide +kernel
theorem kd_145 : mm_kd 145 = (0, 4) := by decide +kernel
theorem kd_146 : mm_kd 146 = (1, 200) := by decide +kernel
theorem kd_147 : mm_kd 147 = (0, 4) := by decide +kernel
theorem kd_148 : mm_kd 148 = (1, 8) := by decide +kernel
theorem kd_149 : mm_kd 149 = (0, 4) := by decide +kernel
theorem kd_150 : mm_kd 150 = (1, 8) := by decide +kernel
theorem kd_151 : mm_kd 151 = (0, 4) := by decide +kernel
theorem kd_152 : mm_kd 152 = (1, 8) := by decide +kernel
theorem kd_153 : mm_kd 153 = (0, 4) := by decide +kernel
theorem kd_154 : mm_kd 154 = (1, 8) := by decide +kernel
theorem kd_155 : mm_kd 155 = (0, 4) := by decide +kernel
theorem kd_156 : mm_kd 156 = (1, 8) := by decide +kernel
theorem kd_157 : mm_kd 157 = (0, 7) := by decide +kernel
theorem kd_158 : mm_kd 158 = (0, 4) := by decide +kernel
theorem kd_159 : mm_kd 159 = (1, 20) := by decide +kernel
theorem kd_160 : mm_kd 160 = (0, 4) := by decide +kernel
theorem kd_161 : mm_kd 161 = (1, 20) := by decide +kernel
theorem kd_162 : mm_kd 162 = (0, 4) := by decide +kernel
theorem kd_163 : mm_kd 163 = (1, 20) := by decide +kernel
theorem kd_164 : mm_kd 164 = (0, 4) := by decide +kernel
theorem kd_165 : mm_kd 165 = (1, 20) := by decide +kernel
theorem kd_166 : mm_kd 166 = (0, 4) := by decide +kernel
theorem kd_167 : mm_kd 167 = (1, 20) := by decide +kernel
theorem kd_168 : mm_kd 168 = (0, 4) := by decide +kernel
theorem kd_169 : mm_kd 169 = (1, 10) := by decide +kernel
theorem kd_170 : mm_kd 170 = (0, 4) := by decide +kernel
theorem kd_171 : mm_kd 171 = (1, 10) := by decide +kernel
theorem kd_172 : mm_kd 172 = (0, 4) := by decide +kernel
theorem kd_173 : mm_kd 173 = (1, 10) := by decide +kernel
theorem kd_174 : mm_kd 174 = (0, 4) := by decide +kernel
theorem kd_175 : mm_kd 175 = (1, 10) := by decide +kernel
theorem kd_176 : mm_kd 176 = (0, 4) := by decide +kernel
theorem kd_177 : mm_kd 177 = (1, 200) := by decide +kernel
theorem kd_178 : mm_kd 178 = (0, 4) := by decide +kernel
theorem kd_179 : mm_kd 179 = (1, 8) := by decide +kernel
theorem kd_180 : mm_kd 180 = (0, 4) := by decide +kernel
theorem kd_181 : mm_kd 181 = (1, 8) := by decide +kernel
theorem kd_182 : mm_kd 182 = (0, 4) := by decide +kernel
theorem kd_183 : mm_kd 183 = (1, 8) := by decide +kernel
theorem kd_184 : mm_kd 184 = (0, 4) := by decide +kernel
theorem kd_185 : mm_kd 185 = (1, 8) := by decide +kernel
theorem kd_186 : mm_kd 186 = (0, 4) := by decide +kernel
theorem kd_187 : mm_kd 187 = (1, 8) := by decide +kernel
theorem kd_188 : mm_kd 188 = (0, 7) := by decide +kernel
theorem kd_189 : mm_kd 189 = (0, 4) := by decide +kernel
theorem kd_190 : mm_kd 190 = (1, 20) := by decide +kernel
theorem kd_191 : mm_kd 191 = (0, 4) := by decide +kernel
theorem kd_192 : mm_kd 192 = (1, 20) := by decide +kernel
theorem kd_193 : mm_kd 193 = (0, 4) := by decide +kernel
theorem kd_194 : mm_kd 194 = (1, 20) := by decide +kernel
theorem kd_195 : mm_kd 195 = (0, 4) := by decide +kernel
theorem kd_196 : mm_kd 196 = (1, 20) := by decide +kernel
theorem kd_197 : mm_kd 197 = (0, 4) := by decide +kernel
theorem kd_198 : mm_kd 198 = (1, 20) := by decide +kernel
theorem kd_199 : mm_kd 199 = (0, 4) := by decide +kernel
theorem kd_200 : mm_kd 200 = (1, 10) := by decide +kernel
theorem kd_201 : mm_kd 201 = (0, 4) := by decide +kernel
theorem kd_202 : mm_kd 202 = (1, 10) := by decide +kernel
theorem kd_203 : mm_kd 203 = (0, 4) := by decide +kernel
theorem kd_204 : mm_kd 204 = (1, 10) := by decide +kernel
theorem kd_205 : mm_kd 205 = (0, 4) := by decide +kernel
theorem kd_206 : mm_kd 206 = (1, 10) := by decide +kernel
theorem kd_207 : mm_kd 207 = (0, 4) := by decide +kernel
theorem kd_208 : mm_kd 208 = (1, 200) := by decide +kernel
theorem kd_209 : mm_kd 209 = (0, 4) := by decide +kernel
theorem kd_210 : mm_kd 210 = (1, 8) := by decide +kernel
theorem kd_211 : mm_kd 211 = (0, 4) := by decide +kernel
theorem kd_212 : mm_kd 212 = (1, 8) := by decide +kernel
theorem kd_213 : mm_kd 213 = (0, 4) := by decide +kernel
theorem kd_214 : mm_kd 214 = (1, 8) := by decide +kernel
theorem kd_215 : mm_kd 215 = (0, 4) := by decide +kernel
theorem kd_216 : mm_kd 216 = (1, 8) := by decide +kernel
theorem kd_217 : mm_kd 217 = (0, 4) := by decide +kernel
theorem kd_218 : mm_kd 218 = (1, 8) := by decide +kernel
theorem kd_219 : mm_kd 219 = (0, 7) := by decide +kernel
theorem kd_220 : mm_kd 220 = (0, 4) := by decide +kernel
theorem kd_221 : mm_kd 221 = (1, 20) := by decide +kernel
theorem kd_222 : mm_kd 222 = (0, 4) := by decide +kernel
theorem kd_223 : mm_kd 223 = (1, 20) := by decide +kernel
theorem kd_224 : mm_kd 224 = (0, 4) := by decide +kernel
theorem kd_225 : mm_kd 225 = (1, 20) := by decide +kernel
theorem kd_226 : mm_kd 226 = (0, 4) := by decide +kernel
theorem kd_227 : mm_kd 227 = (1, 20) := by decide +kernel
theorem kd_228 : mm_kd 228 = (0, 4) := by decide +kernel
theorem kd_229 : mm_kd 229 = (1, 20) := by decide +kernel
theorem kd_230 : mm_kd 230 = (0, 4) := by decide +kernel
theorem kd_231 : mm_kd 231 = (1, 10) := by decide +kernel
theorem kd_232 : mm_kd 232 = (0, 4) := by decide +kernel
theorem kd_233 : mm_kd 233 = (1, 10) := by decide +kernel
theorem kd_234 : mm_kd 234 = (0, 4) := by decide +kernel
theorem kd_235 : mm_kd 235 = (1, 10) := by decide +kernel
theorem kd_236 : mm_kd 236 = (0, 4) := by decide +kernel
theorem kd_237 : mm_kd 237 = (1, 10) := by decide +kernel
theorem kd_238 : mm_kd 238 = (0, 4) := by decide +kernel
theorem kd_239 : mm_kd 239 = (1, 200) := by decide +kernel
theorem kd_240 : mm_kd 240 = (0, 4) := by decide +kernel
theorem kd_241 : mm_kd 241 = (1, 8) := by decide +kernel
theorem kd_242 : mm_kd 242 = (0, 4) := by decide +kernel
theorem kd_243 : mm_kd 243 = (1, 8) := by decide +kernel
theorem kd_244 : mm_kd 244 = (0, 4) := by decide +kernel
theorem kd_245 : mm_kd 245 = (1, 8) := by decide +kernel
theorem kd_246 : mm_kd 246 = (0, 4) := by decide +kernel
theorem kd_247 : mm_kd 247 = (1, 8) := by decide +kernel
theorem kd_248 : mm_kd 248 = (0, 4) := by decide +kernel
theorem kd_249 : mm_kd 249 = (1, 8) := by decide +kernel
theorem kd_250 : mm_kd 250 = (0, 7) := by decide +kernel
theorem kd_251 : mm_kd 251 = (0, 4) := by decide +kernel
theorem kd_252 : mm_kd 252 = (1, 20) := by decide +kernel
theorem kd_253 : mm_kd 253 = (0, 4) := by decide +kernel
theorem kd_254 : mm_kd 254 = (1, 20) := by decide +kernel
theorem kd_255 : mm_kd 255 = (0, 4) := by decide +kernel
theorem kd_256 : mm_kd 256 = (1, 20) := by decide +kernel
theorem kd_257 : mm_kd 257 = (0, 4) := by decide +kernel
theorem kd_258 : mm_kd 258 = (1, 20) := by decide +kernel
theorem kd_259 : mm_kd 259 = (0, 4) := by decide +kernel
theorem kd_260 : mm_kd 260 = (1, 20) := by decide +kernel
theorem kd_261 : mm_kd 261 = (0, 4) := by decide +kernel
theorem kd_262 : mm_kd 262 = (1, 10) := by decide +kernel
theorem kd_263 : mm_kd 263 = (0, 4) := by decide +kernel
theorem kd_264 : mm_kd 264 = (1, 10) := by decide +kernel
theorem kd_265 : mm_kd 265 = (0, 4) := by decide +kernel
theorem kd_266 : mm_kd 266 = (1, 10) := by decide +kernel
theorem kd_267 : mm_kd 267 = (0, 4) := by decide +kernel
theorem kd_268 : mm_kd 268 = (1, 10) := by decide +kernel
theorem kd_269 : mm_kd 269 = (0, 4) := by decide +kernel
theorem kd_270 : mm_kd 270 = (1, 200) := by decide +kernel
theorem kd_271 : mm_kd 271 = (0, 4) := by decide +kernel
theorem kd_272 : mm_kd 272 = (1, 8) := by decide +kernel
theorem kd_273 : mm_kd 273 = (0, 4) := by decide +kernel
theorem kd_274 : mm_kd 274 = (1, 8) := by decide +kernel
theorem kd_275 : mm_kd 275 = (0, 4) := by decide +kernel
theorem kd_276 : mm_kd 276 = (1, 8) := by decide +kernel
theorem kd_277 : mm_kd 277 = (0, 4) := by decide +kernel
theorem kd_278 : mm_kd 278 = (1, 8) := by decide +kernel
theorem kd_279 : mm_kd 279 = (0, 4) := by decide +kernel
theorem kd_280 : mm_kd 280 = (1, 8) := by decide +kernel
theorem kd_281 : mm_kd 281 = (0, 6) := by decide +kernel
theorem kd_282 : mm_kd 282 = (6, 2) := by decide +kernel
theorem kd_283 : mm_kd 283 = (0, 4) := by decide +kernel
theorem kd_284 : mm_kd 284 = (1, 2) := by decide +kernel
theorem kd_285 : mm_kd 285 = (0, 7) := by decide +kernel
theorem kd_286 : mm_kd 286 = (0, 4) := by decide +kernel
theorem kd_287 : mm_kd 287 = (1, 20) := by decide +kernel
theorem kd_288 : mm_kd 288 = (0, 4) := by decide +kernel
theorem kd_289 : mm_kd 289 = (1, 20) := by decide +kernel
theorem kd_290 : mm_kd 290 = (0, 4) := by decide +kernel
theorem kd_291 : mm_kd 291 = (1, 20) := by decide +kernel
theorem kd_292 : mm_kd 292 = (0, 4) := by decide +kernel
theorem kd_293 : mm_kd 293 = (1, 20) := by decide +kernel
theorem kd_294 : mm_kd 294 = (0, 4) := by decide +kernel
theorem kd_295 : mm_kd 295 = (1, 20) := by decide +kernel
theorem kd_296 : mm_kd 296 = (0, 4) := by decide +kernel
theorem kd_297 : mm_kd 297 = (1, 10) := by decide +kernel
theorem kd_298 : mm_kd 298 = (0, 4) := by decide +kernel
theorem kd_299 : mm_kd 299 = (1, 10) := by decide +kernel
theorem kd_300 : mm_kd 300 = (0, 4) := by decide +kernel
theorem kd_301 : mm_kd 301 = (1, 10) := by decide +kernel
theorem kd_302 : mm_kd 302 = (0, 4) := by decide +kernel
theorem kd_303 : mm_kd 303 = (1, 10) := by decide +kernel
theorem kd_304 : mm_kd 304 = (0, 4) := by decide +kernel
theorem kd_305 : mm_kd 305 = (1, 200) := by decide +kernel
theorem kd_306 : mm_kd 306 = (0, 4) := by decide +kernel
theorem kd_307 : mm_kd 307 = (1, 8) := by decide +kernel
theorem kd_308 : mm_kd 308 = (0, 4) := by decide +kernel
theorem kd_309 : mm_kd 309 = (1, 8) := by decide +kernel
theorem kd_310 : mm_kd 310 = (0, 4) := by decide +kernel
theorem kd_311 : mm_kd 311 = (1, 8) := by decide +kernel
theorem kd_312 : mm_kd 312 = (0, 4) := by decide +kernel
theorem kd_313 : mm_kd 313 = (1, 8) := by decide +kernel
theorem kd_314 : mm_kd 314 = (0, 4) := by decide +kernel
theorem kd_315 : mm_kd 315 = (1, 8) := by decide +kernel
theorem kd_316 : mm_kd 316 = (0, 7) := by decide +kernel
theorem kd_317 : mm_kd 317 = (0, 4) := by decide +kernel
theorem kd_318 : mm_kd 318 = (1, 20) := by decide +kernel
theorem kd_319 : mm_kd 319 = (0, 4) := by decide +kernel
theorem kd_320 : mm_kd 320 = (1, 20) := by decide +kernel
theorem kd_321 : mm_kd 321 = (0, 4) := by decide +kernel
theorem kd_322 : mm_kd 322 = (1, 20) := by decide +kernel
theorem kd_323 : mm_kd 323 = (0, 4) := by decide +kernel
theorem kd_324 : mm_kd 324 = (1, 20) := by decide +kernel
theorem kd_325 : mm_kd 325 = (0, 4) := by decide +kernel
theorem kd_326 : mm_kd 326 = (1, 20) := by decide +kernel
theorem kd_327 : mm_kd 327 = (0, 4) := by decide +kernel
theorem kd_328 : mm_kd 328 = (1, 10) := by decide +kernel
theorem kd_329 : mm_kd 329 = (0, 4) := by decide +kernel
theorem kd_330 : mm_kd 330 = (1, 10) := by decide +kernel
theorem kd_331 : mm_kd 331 = (0, 4) := by decide +kernel
theorem kd_332 : mm_kd 332 = (1, 10) := by decide +kernel
theorem kd_333 : mm_kd 333 = (0, 4) := by decide +kernel
theorem kd_334 : mm_kd 334 = (1, 10) := by decide +kernel
theorem kd_335 : mm_kd 335 = (0, 4) := by decide +kernel
theorem kd_336 : mm_kd 336 = (1, 200) := by decide +kernel
theorem kd_337 : mm_kd 337 = (0, 4) := by decide +kernel
theorem kd_338 : mm_kd 338 = (1, 8) := by decide +kernel
theorem kd_339 : mm_kd 339 = (0, 4) := by decide +kernel
theorem kd_340 : mm_kd 340 = (1, 8) := by decide +kernel
theorem kd_341 : mm_kd 341 = (0, 4) := by decide +kernel
theorem kd_342 : mm_kd 342 = (1, 8) := by decide +kernel
theorem kd_343 : mm_kd 343 = (0, 4) := by decide +kernel
theorem kd_344 : mm_kd 344 = (1, 8) := by decide +kernel
theorem kd_345 : mm_kd 345 = (0, 4) := by decide +kernel
theorem kd_346 : mm_kd 346 = (1, 8) := by decide +kernel
theorem kd_347 : mm_kd 347 = (0, 0) := by decide +kernel
theorem kd_348 : mm_kd 348 = (0, 4) := by decide +kernel
theorem kd_349 : mm_kd 349 = (1, 20) := by decide +kernel
theorem kd_350 : mm_kd 350 = (0, 4) := by decide +kernel
theorem kd_351 : mm_kd 351 = (1, 20) := by decide +kernel
theorem kc_bm100 : (Int8.ofInt (-100)).toInt32 = (-100) := by decide +kernel
theorem kc_bm10 : (Int8.ofInt (-10)).toInt32 = (-10) := by decide +kernel
theorem kc_bm9 : (Int8.ofInt (-9)).toInt32 = (-9) := by decide +kernel
theorem kc_b6 : (Int8.ofInt 6).toInt32 = 6 := by decide +kernel
theorem kc_b7 : (Int8.ofInt 7).toInt32 = 7 := by decide +kernel
theorem kc_b8 : (Int8.ofInt 8).toInt32 = 8 := by decide +kernel
theorem kc_b9 : (Int8.ofInt 9).toInt32 = 9 := by decide +kernel
theorem kc_b10 : (Int8.ofInt 10).toInt32 = 10 := by decide +kernel
theorem kc_b12 : (Int8.ofInt 12).toInt32 = 12 := by decide +kernel
theorem kc_b13 : (Int8.ofInt 13).toInt32 = 13 := by decide +kernel
theorem kc_b15 : (Int8.ofInt 15).toInt32 = 15 := by decide +kernel
theorem kc_b16 : (Int8.ofInt 16).toInt32 = 16 := by decide +kernel
theorem kc_b17 : (Int8.ofInt 17).toInt32 = 17 := by decide +kernel
theorem kc_b18 : (Int8.ofInt 18).toInt32 = 18 := by decide +kernel
theorem kc_b20 : (Int8.ofInt 20).toInt32 = 20 := by decide +kernel
theorem kc_b24 : (Int8.ofInt 24).toInt32 = 24 := by decide +kernel
theorem kc_b25 : (Int8.ofInt 25).toInt32 = 25 := by decide +kernel
theorem kc_b30 : (Int8.ofInt 30).toInt32 = 30 := by decide +kernel
theorem kc_b31 : (Int8.ofInt 31).toInt32 = 31 := by decide +kernel
theorem kc_b32 : (Int8.ofInt 32).toInt32 = 32 := by decide +kernel
theorem kc_b40 : (Int8.ofInt 40).toInt32 = 40 := by decide +kernel
theorem kc_b45 : (Int8.ofInt 45).toInt32 = 45 := by decide +kernel
theorem kc_b48 : (Int8.ofInt 48).toInt32 = 48 := by decide +kernel
theorem kc_b50 : (Int8.ofInt 50).toInt32 = 50 := by decide +kernel
theorem kc_b57 : (Int8.ofInt 57).toInt32 = 57 := by decide +kernel
theorem kc_b59 : (Int8.ofInt 59).toInt32 = 59 := by decide +kernel
theorem kc_b64 : (Int8.ofInt 64).toInt32 = 64 := by decide +kernel
theorem kc_b97 : (Int8.ofInt 97).toInt32 = 97 := by decide +kernel
theorem kc_b100 : (Int8.ofInt 100).toInt32 = 100 := by decide +kernel
theorem kc_b108 : (Int8.ofInt 108).toInt32 = 108 := by decide +kernel
theorem kc_b110 : (Int8.ofInt 110).toInt32 = 110 := by decide +kernel
theorem kc_b117 : (Int8.ofInt 117).toInt32 = 117 := by decide +kernel
theorem kc_b120 : (Int8.ofInt 120).toInt32 = 120 := by decide +kernel
theorem kc_b122 : (Int8.ofInt 122).toInt32 = 122 := by decide +kernel
theorem kc_im1 : Int32.ofInt (-1) = (-1) := by decide +kernel
theorem kc_i0 : Int32.ofInt 0 = 0 := by decide +kernel
theorem kc_i1 : Int32.ofInt 1 = 1 := by decide +kernel
theorem kc_i2 : Int32.ofInt 2 = 2 := by decide +kernel
theorem kc_i3 : Int32.ofInt 3 = 3 := by decide +kernel
theorem kc_i4 : Int32.ofInt 4 = 4 := by decide +kernel
theorem kc_i5 : Int32.ofInt 5 = 5 := by decide +kernel
theorem kc_i6 : Int32.ofInt 6 = 6 := by decide +kernel
theorem kc_i7 : Int32.ofInt 7 = 7 := by decide +kernel
theorem kc_i8 : Int32.ofInt 8 = 8 := by decide +kernel
theorem kc_i20 : Int32.ofInt 20 = 20 := by decide +kernel
theorem kc_s128 : (Int16.ofInt 128).toInt32 = 128 := by decide +kernel
theorem kc_s199 : (Int16.ofInt 199).toInt32 = 199 := by decide +kernel
theorem kc_s200 : (Int16.ofInt 200).toInt32 = 200 := by decide +kernel
theorem kc_s255 : (Int16.ofInt 255).toInt32 = 255 := by decide +kernel
theorem kc_s256 : (Int16.ofInt 256).toInt32 = 256 := by decide +kernel
theorem kc_s600 : (Int16.ofInt 600).toInt32 = 600 := by decide +kernel
theorem kc_s999 : (Int16.ofInt 999).toInt32 = 999 := by decide +kernel
theorem kc_s1024 : (Int16.ofInt 1024).toInt32 = 1024 := by decide +kernel
theorem kc_s2048 : (Int16.ofInt 2048).toInt32 = 2048 := by decide +kernel
theorem kc_s8192 : (Int16.ofInt 8192).toInt32 = 8192 := by decide +kernel
theorem kc_s9999 : (Int16.ofInt 9999).toInt32 = 9999 := by decide +kernel
theorem kc_nz2 : ¬ (2 : Int32) = 0 := by decide
theorem kc_nz3 : ¬ (3 : Int32) = 0 := by decide
theorem kc_nz6 : ¬ (6 : Int32) = 0 := by decide
theorem kc_nz10 : ¬ (10 : Int32) = 0 := by decide
theorem kc_nz24 : ¬ (24 : Int32) = 0 := by decide
theorem kc_nz100 : ¬ (100 : Int32) = 0 := by decide
end MMK

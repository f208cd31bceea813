section PRR
/-! the String constants at the law's start: the places of their bytes' words -/
def st_offs : List Nat := [75, 83, 91, 99, 149, 180, 193, 204, 213, 244, 274, 305, 333, 361, 395, 432, 472, 483, 492, 503, 511, 521, 531, 540, 552, 560, 587, 617, 644, 676, 712, 851, 865, 877, 887, 899, 909, 921, 930, 941, 952, 962, 975]
theorem st_w5a : ∀ i, i < 43 → (st_ws.drop (st_offs.getD i 0)).take (mm_slen.getD i 0) = (List.range (mm_slen.getD i 0)).map (st_el i) := by decide +kernel
theorem st_w5 {i j : Nat} (hi : i < 43) (hj : j < mm_slen.getD i 0) : st_el i j ∈ st_ws := by
  have h1 : st_el i j ∈ (List.range (mm_slen.getD i 0)).map (st_el i) := List.mem_map.mpr ⟨j, List.mem_range.mpr hj, rfl⟩
  rw [← st_w5a i hi] at h1
  exact List.mem_of_mem_drop (List.mem_of_mem_take h1)
end PRR

section PRR
/-! the String constants at the law's start: the places of their bytes' words -/
def st_offs : List Nat := [221, 229, 238, 248, 264, 279, 293, 330, 365, 403, 443, 487, 535, 587, 650, 678, 706]
theorem st_w5a : ∀ i, i < 17 → (st_ws.drop (st_offs.getD i 0)).take (mm_slen.getD i 0) = (List.range (mm_slen.getD i 0)).map (st_el i) := by decide +kernel
theorem st_w5 {i j : Nat} (hi : i < 17) (hj : j < mm_slen.getD i 0) : st_el i j ∈ st_ws := by
  have h1 : st_el i j ∈ (List.range (mm_slen.getD i 0)).map (st_el i) := List.mem_map.mpr ⟨j, List.mem_range.mpr hj, rfl⟩
  rw [← st_w5a i hi] at h1
  exact List.mem_of_mem_drop (List.mem_of_mem_take h1)
end PRR

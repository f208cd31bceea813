section PQE
variable {A : sp_A} {h : mm_H}
/-! receive -/
/-- the three numbers of a batch: all in their ranges, or not -/
theorem po_data (x y z : Int32) : (∃ q e c, 1 ≤ q ∧ q ≤ 999 ∧ e ≤ 9999 ∧ 1 ≤ c ∧ c ≤ 999 ∧ x = nI q ∧ y = nI e ∧ z = nI c) ∨ (po_no x 1 999 ∨ po_no y 0 9999 ∨ po_no z 1 999) := by
  rcases po_cr x (a := 1) (b := 999) (by decide) (by decide) with ⟨q, h1, h2, h3⟩ | hx
  · rcases po_cr y (a := 0) (b := 9999) (by decide) (by decide) with ⟨e, _, h5, h6⟩ | hy
    · rcases po_cr z (a := 1) (b := 999) (by decide) (by decide) with ⟨c, h7, h8, h9⟩ | hz
      · exact Or.inl ⟨q, e, c, h1, h2, h5, h7, h8, h3, h6, h9⟩
      · exact Or.inr (Or.inr (Or.inr hz))
    · exact Or.inr (Or.inr (Or.inl hy))
  · exact Or.inr (Or.inl hx)
theorem lc_3t {t : Int32} {E : String} (ht : (t = 1 ∧ E = po_IO) ∨ (t = 2 ∧ E = po_IA) ∨ (t = 3 ∧ E = po_IS)) : lc_3 po_IO po_IA po_IS E = some t ∧ ¬ t = 0 := by
  rcases ht with ⟨rfl, rfl⟩ | ⟨rfl, rfl⟩ | ⟨rfl, rfl⟩
  · exact ⟨lc_3a, by decide⟩
  · exact ⟨lc_3b, by decide⟩
  · exact ⟨lc_3c, by decide⟩
/-! issue -/
end PQE

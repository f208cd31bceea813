section PQF
variable {A : sp_A} {h : mm_H}
theorem po_one (x y : Int32) : (x = y) ∨ ¬ x = y := Decidable.em _
/-! reserve -/
theorem po_jn {α τ : Type} {k : α} {b : α → τ} {r : τ} (h : ∀ k', k' = k → b k' = r) : mm_jn k b = r := h k rfl
/-! ship, cancel, refill -/
theorem lc_2t {t : Int32} {E : String} (ht : (t = 1 ∧ E = po_IO) ∨ (t = 2 ∧ E = po_IS)) : lc_2 po_IO po_IS E = some t ∧ ¬ t = 0 := by
  rcases ht with ⟨rfl, rfl⟩ | ⟨rfl, rfl⟩
  · exact ⟨lc_2a, by decide⟩
  · exact ⟨lc_2s, by decide⟩
theorem sp_why0 {S : sp_S} {r : Nat} (h : sp_why S r = 0) : sp_r S r 3 = 0 := by
  unfold sp_why at h
  by_cases h3 : sp_r S r 3 = 0
  · exact h3
  · rw [if_neg h3] at h
    cases h
theorem sp_why_le (S : sp_S) (r : Nat) : sp_why S r ≤ 3 := by
  unfold sp_why
  split
  · split
    · decide
    · split
      · decide
      · decide
  · decide
/-! takeStock -/
/-! passDays, writeOffExpired -/
theorem lc_2d {t : Int32} {E : String} (ht : (t = 1 ∧ E = po_IA) ∨ (t = 2 ∧ E = po_IS)) : lc_2 po_IA po_IS E = some t ∧ ¬ t = 0 := by
  rcases ht with ⟨rfl, rfl⟩ | ⟨rfl, rfl⟩
  · exact ⟨lc_2a, by decide⟩
  · exact ⟨lc_2i, by decide⟩
end PQF

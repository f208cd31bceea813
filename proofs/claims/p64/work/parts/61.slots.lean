section PQG
/-! undo, save, restore -/
variable {A : sp_A} {h : mm_H}
def sa_U1 (A : sp_A) (S : sp_S) (U : List sp_S) : sp_A := ((sa_C A, S), (U, sa_V A), A.2.2)
theorem sa_undo_ok (ok : sa_ok A) {S : sp_S} {U : List sp_S} (hU : sa_U A = S :: U) : sa_ok (sa_U1 A S U) := by
  obtain ⟨⟨o1, o2⟩, ⟨o3, o4⟩, o5, o6, o7, o8, o9⟩ := ok
  rw [hU] at o3 o4
  have o92 := o9.2.1
  rw [hU] at o92
  rw [List.length_cons] at o3
  exact ⟨⟨o1, o4 S List.mem_cons_self⟩, ⟨show U.length ≤ 6 by omega, fun S' hS => o4 S' (List.mem_cons_of_mem _ hS)⟩, o5, o6, o7, o8, o92 S List.mem_cons_self, fun S' hS => o92 S' (List.mem_cons_of_mem _ hS), o9.2.2⟩
/-! save -/
def sa_V1 (A : sp_A) (k : Nat) : sp_A := (A.1, (sa_U A, fun j => if j = k then some (sa_S A) else sa_V A j), A.2.2)
theorem sa_V1_ok (ok : sa_ok A) (k : Nat) : sa_ok (sa_V1 A k) := by
  obtain ⟨⟨o1, o2⟩, ⟨o3, o4⟩, o5, o6, o7, o8, o9⟩ := ok
  have hs : ∀ {j : Nat} {S : sp_S}, (if j = k then some (sa_S A) else sa_V A j) = some S → (j = k ∧ S = sa_S A) ∨ sa_V A j = some S := fun {j S} h => by
    by_cases hj : j = k
    · rw [if_pos hj] at h
      exact Or.inl ⟨hj, (Option.some.inj h).symm⟩
    · rw [if_neg hj] at h
      exact Or.inr h
  refine ⟨⟨o1, o2⟩, ⟨o3, o4⟩, fun j S h => ?_, o6, o7, o8, o9.1, o9.2.1, fun j S h => ?_⟩
  · rcases hs h with ⟨_, h2⟩ | h2
    · rw [h2]
      exact o2
    · exact o5 j S h2
  · rcases hs h with ⟨_, h2⟩ | h2
    · rw [h2]
      exact o9.1
    · exact o9.2.2 j S h2
/-! restore -/
theorem sa_rest_ok (ok : sa_ok A) {k : Nat} {S : sp_S} (hV : sa_V A k = some S) : sa_ok (sa_U1 A S []) := by
  obtain ⟨⟨o1, o2⟩, ⟨o3, o4⟩, o5, o6, o7, o8, o9⟩ := ok
  exact ⟨⟨o1, o5 k S hV⟩, ⟨Nat.zero_le _, fun S' hS => by cases hS⟩, o5, o6, o7, o8, o9.2.2 k S hV, (fun S' hS => by cases hS), o9.2.2⟩
theorem sc_U_nil {h h' : mm_H} {U : List sp_S} (H : sc_U U h) (e1 : mh_I h' 90 1 = mh_I h 90 1) (e2 : mh_I h' 90 2 = 0) : sc_U [] h' := by
  obtain ⟨nx, h1, h2, h3, h4⟩ := H
  exact ⟨nx, h1, e1.trans h2, e2, fun i S hi => by cases hi⟩
end PQG

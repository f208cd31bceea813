section PRM
/-! what both constructors make -/
/-- letters of the class's own products, at 18, 34, 50 -/
def lt_by (j : Nat) : Nat := if j < 22 then ((mm_sbyt.getD 0 []).getD (j - 18) 0).toNatClampNeg else if j < 38 then ((mm_sbyt.getD 1 []).getD (j - 34) 0).toNatClampNeg else ((mm_sbyt.getD 2 []).getD (j - 50) 0).toNatClampNeg
def lt_30 : sp_T := (135, fun j => if j < 135 then lt_by j else 0)
theorem lt_30_b (j : Nat) : lt_30.2 j < 256 := by
  show (if j < 135 then lt_by j else 0) < 256
  by_cases hj : j < 135
  · rw [if_pos hj]
    have h9 : ∀ j, j < 135 → lt_by j < 256 := by decide +kernel
    exact h9 j hj
  · rw [if_neg hj]
    decide
def lt_C : sp_C := sp_addC (sp_addC (sp_addC sp_C0 lt_30 18 4 20) lt_30 34 4 50) lt_30 50 4 10
def lt_S : sp_S := sp_add (sp_add (sp_add (sp_add sp_S0 0 30 5 12) 0 20 3 10) 1 100 200 4) 2 24 9 3
def lt_A : sp_A := ((lt_C, lt_S), ([], fun _ => none), ((0, lt_30.2), (0, fun _ => 0)), (0, -1))
theorem lt_n0 : ∀ j, j < 4 → mm_sc 0 (nI j) = nI (lt_30.2 (18 + j)) := by decide +kernel
theorem lt_n1 : ∀ j, j < 4 → mm_sc 1 (nI j) = nI (lt_30.2 (34 + j)) := by decide +kernel
theorem lt_n2 : ∀ j, j < 4 → mm_sc 2 (nI j) = nI (lt_30.2 (50 + j)) := by decide +kernel
theorem lt_C1 : sp_cok (sp_addC sp_C0 lt_30 18 4 20) := sp_addC_ok sp_C0_ok (by decide) (by decide) (by decide) lt_30_b
theorem lt_C2 : sp_cok (sp_addC (sp_addC sp_C0 lt_30 18 4 20) lt_30 34 4 50) := sp_addC_ok lt_C1 (by decide) (by decide) (by decide) lt_30_b
theorem lt_Cok : sp_cok lt_C := sp_addC_ok lt_C2 (by decide) (by decide) (by decide) lt_30_b
theorem lt_S1 : sp_ok (sp_add sp_S0 0 30 5 12) := sp_add_ok sp_S0_ok (by decide) (by decide) (by decide) (by decide) (by decide)
theorem lt_S2 : sp_ok (sp_add (sp_add sp_S0 0 30 5 12) 0 20 3 10) := sp_add_ok lt_S1 (by decide) (by decide) (by decide) (by decide) (by decide)
theorem lt_S3 : sp_ok (sp_add (sp_add (sp_add sp_S0 0 30 5 12) 0 20 3 10) 1 100 200 4) := sp_add_ok lt_S2 (by decide) (by decide) (by decide) (by decide) (by decide)
theorem lt_Sok : sp_ok lt_S := sp_add_ok lt_S3 (by decide) (by decide) (by decide) (by decide) (by decide)
theorem lt_Aok : sa_ok lt_A := ⟨⟨lt_Cok, lt_Sok⟩, ⟨Nat.zero_le _, fun S hS => (by cases hS)⟩, (fun k S hS => by cases hS), ⟨Nat.zero_le _, lt_30_b⟩, ⟨Nat.zero_le _, fun j => (show 0 < 256 by decide)⟩, trivial, (show sp_dy lt_S ≤ 9999 by decide), (fun S hS => by cases hS), fun k S hS => by cases hS⟩
end PRM

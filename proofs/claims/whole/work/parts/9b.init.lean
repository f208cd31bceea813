section PRM
/-! what both constructors make -/
def lt_30 : sp_T := (135, fun j => if j < 135 then ((mm_sbyt.getD 30 []).getD j 0).toNatClampNeg else 0)
def lt_C : sp_C := sp_addC (sp_addC (sp_addC sp_C0 lt_30 18 4 20) lt_30 34 4 50) lt_30 50 4 10
def lt_S : sp_S := sp_add (sp_add (sp_add (sp_add sp_S0 0 30 5 12) 0 20 3 10) 1 100 200 4) 2 24 9 3
def lt_A : sp_A := ((lt_C, lt_S), ([], fun _ => none), ((0, lt_30.2), (0, fun _ => 0)), (0, -1))
def lt_eC (C C' : sp_C) : Bool := sp_np C == sp_np C' && (List.range (sp_np C)).all (fun p => (sp_nl C p == sp_nl C' p && sp_mn C p == sp_mn C' p) && (List.range (sp_nl C p)).all (fun j => sp_lt C p j == sp_lt C' p j))
def lt_eS (S S' : sp_S) : Bool := (sp_dy S == sp_dy S' && sp_nb S == sp_nb S' && (sp_nr S == 0 && sp_nr S' == 0)) && (List.range (sp_nb S)).all (fun b => (List.range 4).all (fun w => sp_b S b w == sp_b S' b w)) && (List.range 8).all (fun p => (List.range 4).all (fun w => sp_ac S p w == sp_ac S' p w))
theorem lt_chk : (match sp_setup lt_30 with | .inl _ => false | .inr y => lt_eC lt_C y.1 && lt_eS lt_S y.2) = true := by decide +kernel
theorem lt_30_b (j : Nat) : lt_30.2 j < 256 := by
  show (if j < 135 then ((mm_sbyt.getD 30 []).getD j 0).toNatClampNeg else 0) < 256
  by_cases hj : j < 135
  · rw [if_pos hj]
    have h9 : ∀ j, j < 135 → ((mm_sbyt.getD 30 []).getD j 0).toNatClampNeg < 256 := by decide +kernel
    exact h9 j hj
  · rw [if_neg hj]
    decide
theorem lt_sc (j : Nat) (hj : j < 135) : mm_sc 30 (nI j) = nI (lt_30.2 j) := by
  have h9 : ∀ j, j < 135 → mm_sc 30 (nI j) = nI (lt_30.2 j) := by decide +kernel
  exact h9 j hj
theorem lt_n0 : ∀ j, j < 4 → mm_sc 0 (nI j) = nI (lt_30.2 (18 + j)) := by decide +kernel
theorem lt_n1 : ∀ j, j < 4 → mm_sc 1 (nI j) = nI (lt_30.2 (34 + j)) := by decide +kernel
theorem lt_n2 : ∀ j, j < 4 → mm_sc 2 (nI j) = nI (lt_30.2 (50 + j)) := by decide +kernel
theorem lt_C1 : sp_cok (sp_addC sp_C0 lt_30 18 4 20) := sp_addC_ok sp_C0_ok (by decide) (by decide) (by decide) lt_30_b
theorem lt_C2 : sp_cok (sp_addC (sp_addC sp_C0 lt_30 18 4 20) lt_30 34 4 50) := sp_addC_ok lt_C1 (by decide) (by decide) (by decide) lt_30_b
theorem lt_Cok : sp_cok lt_C := sp_addC_ok lt_C2 (by decide) (by decide) (by decide) lt_30_b
theorem lt_S1 : sp_ok (sp_add sp_S0 0 30 5 12) := sp_add_ok sp_S0_ok (by decide) (by decide) (by decide) (by decide) (by decide)
theorem lt_S2 : sp_ok (sp_add (sp_add sp_S0 0 30 5 12) 0 20 3 10) := sp_add_ok lt_S1 (by decide) (by decide) (by decide) (by decide) (by decide)
theorem lt_S3 : sp_ok (sp_add (sp_add (sp_add sp_S0 0 30 5 12) 0 20 3 10) 1 100 200 4) := sp_add_ok lt_S2 (by decide) (by decide) (by decide) (by decide) (by decide)
theorem lt_Sok : sp_ok lt_S := sp_add_ok lt_S3 (by decide) (by decide) (by decide) (by decide) (by decide)
theorem lt_Aok : sa_ok lt_A := ⟨⟨lt_Cok, lt_Sok⟩, ⟨Nat.zero_le _, fun S hS => (by cases hS)⟩, (fun k S hS => by cases hS), ⟨Nat.zero_le _, lt_30_b⟩, ⟨Nat.zero_le _, fun j => (show 0 < 256 by decide)⟩, trivial, (show sp_dy lt_S ≤ 9999 by decide), (fun S hS => by cases hS), fun k S hS => by cases hS⟩
variable {h : mm_H}
theorem lt_mC {C' : sp_C} (e : lt_eC lt_C C' = true) (H : sm_C C' 0 h) : sm_C lt_C 0 h := by
  obtain ⟨e1, e2⟩ := Bool.and_eq_true_iff.mp e
  have en := eq_of_beq e1
  refine ⟨by rw [en]; exact H.1, fun p hp => ?_⟩
  obtain ⟨c1, c2⟩ := Bool.and_eq_true_iff.mp (List.all_eq_true.mp e2 p (List.mem_range.mpr hp))
  obtain ⟨c3, c4⟩ := Bool.and_eq_true_iff.mp c1
  have d3 := eq_of_beq c3
  have d4 := eq_of_beq c4
  obtain ⟨u1, u2, u3⟩ := H.2 p (by rw [← en]; exact hp)
  refine ⟨by rw [d3]; exact u1, fun j hj => ?_, by rw [d4]; exact u3⟩
  rw [eq_of_beq (List.all_eq_true.mp c2 j (List.mem_range.mpr hj))]
  exact u2 j (by rw [← d3]; exact hj)
theorem lt_mS {S' : sp_S} (e : lt_eS lt_S S' = true) (H : sm_S S' 0 h) : sm_S lt_S 0 h := by
  obtain ⟨e1, e3⟩ := Bool.and_eq_true_iff.mp e
  obtain ⟨e1, e2⟩ := Bool.and_eq_true_iff.mp e1
  obtain ⟨e1, e5⟩ := Bool.and_eq_true_iff.mp e1
  obtain ⟨e1, e4⟩ := Bool.and_eq_true_iff.mp e1
  obtain ⟨e5, e6⟩ := Bool.and_eq_true_iff.mp e5
  have d1 := eq_of_beq e1
  have d4 := eq_of_beq e4
  have d5 : sp_nr lt_S = 0 := eq_of_beq e5
  have d6 := eq_of_beq e6
  refine ⟨⟨by rw [d1]; exact H.1.1, by rw [d4]; exact H.1.2.1, by rw [show sp_nr lt_S = sp_nr S' from d5.trans d6.symm]; exact H.1.2.2⟩, fun b hb w hw => ?_, fun r hr => absurd hr (by rw [d5]; exact Nat.not_lt_zero _), fun p hp w hw => ?_⟩
  · rw [eq_of_beq (List.all_eq_true.mp (List.all_eq_true.mp e2 b (List.mem_range.mpr hb)) w (List.mem_range.mpr hw))]
    exact H.2.1 b (by rw [← d4]; exact hb) w hw
  · rw [eq_of_beq (List.all_eq_true.mp (List.all_eq_true.mp e3 p (List.mem_range.mpr hp)) w (List.mem_range.mpr hw))]
    exact H.2.2.2 p hp w hw
end PRM

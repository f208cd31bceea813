section PPW
/-! remembering changes, on both sides -/
theorem po_kd95 : ∀ k, k < 6 → mm_kd (91 + 1 + 3 + 31 * k) = (0, 7) := by decide +kernel
theorem po_kd285 : ∀ k, k < 2 → mm_kd (281 + 1 + 3 + 31 * k) = (0, 7) := by decide +kernel
theorem po_c91 : mm_cap 91 = 6 := by decide +kernel
theorem po_c93 : mm_cap (91 + 2) = 6 := by decide +kernel
theorem po_c281 : mm_cap 281 = 2 := by decide +kernel
theorem po_c283 : mm_cap (281 + 2) = 2 := by decide +kernel
def po_hs (q : Nat) : Bool := decide (90 ≤ q ∧ q < 281)
def sp_push (S : sp_S) (U : List sp_S) : List sp_S := (S :: U).take 6
theorem sp_push_len (S : sp_S) (U : List sp_S) : (sp_push S U).length = min 6 (U.length + 1) := by
  unfold sp_push
  rw [List.length_take, List.length_cons]
theorem sp_push_at {S S' : sp_S} {U : List sp_S} {i : Nat} (hi : (sp_push S U)[i]? = some S') : i < 6 ∧ ((i = 0 ∧ S' = S) ∨ ∃ k, i = k + 1 ∧ U[k]? = some S') := by
  unfold sp_push at hi
  rw [List.getElem?_take] at hi
  by_cases h6 : i < 6
  · rw [if_pos h6] at hi
    refine ⟨h6, ?_⟩
    cases i with
    | zero => exact Or.inl ⟨rfl, (Option.some.inj hi).symm⟩
    | succ k => exact Or.inr ⟨k, rfl, hi⟩
  · rw [if_neg h6] at hi
    cases hi
theorem pc_remember {S : sp_S} {U : List sp_S} {h : mm_H} (H : sc_S S 21 h) (ok : sp_ok S) (HU : sc_U U h) (h6 : U.length ≤ 6) :
    ∃ h', gX2_remember 21 h = some h' ∧ sc_U (sp_push S U) h' ∧ po_fr po_hs h h' := by
  obtain ⟨nx, h1, h2, h3, h4⟩ := HU
  unfold gX2_remember
  obtain ⟨a, e1, e2, e3, e4, e5⟩ := pc_store (o := 91) (n := 6) (k := nx) (h := h) po_c91 po_c93 (by decide) h1 (po_kd95 nx h1) (by omega)
  have n90 : (90 == 91 + 3 || po_in (91 + 1 + 3 + 31 * nx) 90) = false := by
    rw [po_in_no (by omega)]
    decide
  rw [h2, e1, Option.bind_some, Option.bind_some, e5.1 90 n90, h2, nI_1, show (6 : Int32) = nI 6 from rfl, pk_rem (by omega) (by decide) (by decide), po_I4 (by decide), e5.1 90 n90, h3, nI_1, po_minN (by decide) (by omega), Option.bind_some]
  refine ⟨_, rfl, ⟨(nx + 1) % 6, by omega, ?_, ?_, fun i S' hi => ?_⟩, ?_⟩
  · rw [po_I4 (by decide), po_I1]
  · rw [po_I1, sp_push_len]
  · obtain ⟨i6, hi⟩ := sp_push_at hi
    refine sc_fr (C := fun z => z == 90) (h := a) ?_ (po_fr_trans (po_fr_I (by decide)) (po_fr_I (by decide))) (fun q hq => ?_)
    · rcases hi with ⟨h0, hS⟩ | ⟨k, hk, hS⟩
      · subst h0
        subst hS
        rw [show 95 + 31 * (((nx + 1) % 6 + 5 - 0) % 6) = 91 + 1 + 3 + 31 * nx by omega]
        exact e2 _ ok H
      · subst hk
        rw [show ((nx + 1) % 6 + 5 - (k + 1)) % 6 = (nx + 5 - k) % 6 by omega]
        refine sc_fr (h4 k S' hS) e5 (fun q hq => ?_)
        have hq' : 95 + 31 * ((nx + 5 - k) % 6) ≤ q ∧ q < 95 + 31 * ((nx + 5 - k) % 6) + 31 := of_decide_eq_true hq
        have hne : (nx + 5 - k) % 6 ≠ nx := by omega
        rw [po_in_no (by omega)]
        show (q == 94 || false) = false
        simp
        omega
    · have hq' : 95 + 31 * (((nx + 1) % 6 + 5 - i) % 6) ≤ q ∧ q < 95 + 31 * (((nx + 1) % 6 + 5 - i) % 6) + 31 := of_decide_eq_true hq
      show (q == 90) = false
      simp
      omega
  · refine po_fr_trans (po_fr_mono e5 (fun z hz => ?_)) (po_fr_trans (po_fr_I (by decide)) (po_fr_I (by decide)))
    have hz' : ¬ (90 ≤ z ∧ z < 281) := of_decide_eq_false hz
    rw [po_in_no (by omega)]
    show (z == 94 || false) = false
    simp
    omega
/-! the reference -/
end PPW

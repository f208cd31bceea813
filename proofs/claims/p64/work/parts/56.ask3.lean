section PQB
/-! questions that the reference answers aside; plain questions -/
variable {A : sp_A} {S : sp_S} {h : mm_H}
theorem po_fm_m {a b : mm_H} (H : po_fr po_m353 a b) : po_fr po_fm a b := po_fr_mono H (fun z hz => by
  have hz' : ¬ (352 ≤ z ∧ z < 358) := of_decide_eq_false hz
  show (z == 353) = false
  simp
  omega)
/-! plain questions -/
theorem po_acc (a b c d : Int32) : a - (b + c) + d = a - b - c + d := by
  rw [Int32.sub_eq_add_neg, Int32.sub_eq_add_neg, Int32.sub_eq_add_neg, Int32.neg_add, Int32.sub_eq_add_neg, ← Int32.add_assoc a]
def sp_told (S : sp_S) (p : Nat) : Int32 := sp_ac S p 0 - sp_ac S p 1 - sp_ac S p 2 + sp_ac S p 3
theorem pc_told (H : ra_c A h) {p : Nat} (hp : p < 8) : gX7_unitsByAccounts 21 (nI p) h = some (sp_told (sa_S A) p) := by
  obtain ⟨a1, a2, a3, a4⟩ := H.1.2.2.2.2 p hp
  unfold gX7_unitsByAccounts sp_told
  rw [pc_acc (k := 23) H hp (by decide), Option.bind_some, pc_acc (k := 25) H hp (by decide), Option.bind_some, pc_acc (k := 27) H hp (by decide), Option.bind_some, Option.bind_some, pc_acc (k := 21) H hp (by decide), Option.bind_some, pc_acc (k := 29) H hp (by decide), Option.bind_some, ← po_acc, ← a1, ← a2, ← a3, ← a4]
end PQB

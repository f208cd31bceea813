section PPD
/-! what the reference's block 0 answers -/
theorem po_m0 : mm_ibd 0 4200 = true := by decide
theorem po_m1 : mm_ibd 1 4200 = true := by decide
theorem po_m2 : mm_ibd 2 4200 = true := by decide
theorem po_m3 : mm_ibd 3 4200 = true := by decide
variable {S : sp_S} {h : mm_H}
/-- a batch from which a product can be taken on a day -/
def sp_el (S : sp_S) (p d b : Nat) : Bool := decide (sp_b S b 0 = p ∧ d ≤ sp_b S b 2 ∧ 0 < sp_free S b)
end PPD

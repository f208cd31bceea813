section PPT
/-! the reference's blocks -/
theorem po_bI {a : Nat} (h : a < 4200) : mm_ibd (nI a) 4200 = true := po_ibd h (by decide)
end PPT

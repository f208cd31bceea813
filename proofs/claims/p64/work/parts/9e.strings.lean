section PRP
/-! the String constants at the law's start -/
def st_tm (i : Nat) : Term := Term.string (mm_srl.getD i ("", 0, "", 0)).1 (mm_srl.getD i ("", 0, "", 0)).2.1
def st_ws : List Cond := flatC (Jvm.Cond.and given_1 narrow_1)
theorem st_w1 : ∀ i, i < 17 → Cond.exactly (st_tm i) "java/lang/String" ∈ st_ws := by decide +kernel
theorem st_w2 : ∀ i, i < 17 → Cond.eq (.field (st_tm i) "java/lang/String" "coder" "B") (.int 0) ∈ st_ws := by decide +kernel
theorem st_w3 : ∀ i, i < 17 → Cond.arrayOf (.field (st_tm i) "java/lang/String" "value" "[B") .byte ∈ st_ws := by decide +kernel
theorem st_w4 : ∀ i, i < 17 → Cond.eq (.length (.field (st_tm i) "java/lang/String" "value" "[B")) (.int (Int32.ofNat (mm_slen.getD i 0))) ∈ st_ws := by decide +kernel
end PRP

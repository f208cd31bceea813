section PQA
/-! more questions -/
variable {A : sp_A} {S : sp_S} {h : mm_H}
/-- units to order -/
def sp_to (A : sp_A) (p : Nat) : Nat := sp_mn (sa_C A) p - sp_av (sa_S A) p (sp_dy (sa_S A))
end PQA

section PRK
/-! the constructors' allocation, on closed states -/
def ez_0 : ez_E := ((0, 0, 0), fun _ _ => none)
def ez_A : ez_E := (ezX10_init (ez_N ez_0 11)).getD ez_0
def ez_chk (N t : Nat) (e : ez_E) : Bool := decide (ez_n e = N) && (List.range 352).all (fun o => (List.range 24).all (fun k => match mm_R0 t o k with | none => true | some q => e.2 o k == some q))
theorem ez_A_ok : ((ezX10_init (ez_N ez_0 11)).isSome && ez_chk 352 7 ez_A && ez_A.1.2.1 == 352 && decide (ez_A.1.2.2 ≤ 20000)) = true := by decide +kernel
theorem ez_A_4 : ez_A.2 0 4 = some 14 := by decide +kernel
theorem ez_A_e : ezX10_init (ez_N ez_0 11) = some ez_A := by
  have h := ez_A_ok
  unfold ez_A at h ⊢
  cases hx : ezX10_init (ez_N ez_0 11) with
  | none =>
    rw [hx] at h
    cases h
  | some e => rfl
end PRK

section PRK
/-! the constructors' allocation, on closed states -/
def ez_0 : ez_E := ((0, 0, 0), fun _ _ => none)
def ez_A : ez_E := (ezX10_init (ez_N ez_0 11)).getD ez_0
def ez_B : ez_E := (ezX11_init (ez_N ez_A 15)).getD ez_0
def ez_C : ez_E := ez_N (ez_N ez_B 1) 1
def ez_chk (N t : Nat) (e : ez_E) : Bool := decide (ez_n e = N) && (List.range N).all (fun o => (List.range 24).all (fun k => match mm_R0 t o k with | none => true | some q => e.2 o k == some q))
theorem ez_A_ok : ((ezX10_init (ez_N ez_0 11)).isSome && ez_chk 352 7 ez_A && ez_A.1.2.1 == 352 && decide (ez_A.1.2.2 ≤ 20000)) = true := by decide +kernel
theorem ez_B_ok : ((ezX11_init (ez_N ez_A 15)).isSome && ez_chk 358 7 ez_B && ez_B.1.2.1 == 358 && decide (ez_B.1.2.2 ≤ 40000)) = true := by decide +kernel
theorem ez_C_ok : (ez_chk 360 7 ez_C && ez_C.1.2.1 == 360 && decide (ez_C.1.2.2 ≤ 40000)) = true := by decide +kernel
theorem ez_A_4 : ez_A.2 0 4 = some 14 := by decide +kernel
theorem ez_A_e : ezX10_init (ez_N ez_0 11) = some ez_A := by
  have h := ez_A_ok
  unfold ez_A at h ⊢
  cases hx : ezX10_init (ez_N ez_0 11) with
  | none =>
    rw [hx] at h
    cases h
  | some e => rfl
theorem ez_B_e : ezX11_init (ez_N ez_A 15) = some ez_B := by
  have h := ez_B_ok
  unfold ez_B at h ⊢
  cases hx : ezX11_init (ez_N ez_A 15) with
  | none =>
    rw [hx] at h
    cases h
  | some e => rfl
end PRK

section PRQ
/-! the String constants at the law's start: their bytes -/
def st_el (i j : Nat) : Cond := Cond.eq (.elem (.field (st_tm i) "java/lang/String" "value" "[B") (.int (Int32.ofNat j))) (.int ((mm_sbyt.getD i []).getD j 0))
theorem st_len : ∀ i, i < 17 → mm_slen.getD i 0 < 2 ^ 31 := by decide +kernel
theorem st_S (h5 : ∀ i j, i < 17 → j < mm_slen.getD i 0 → st_el i j ∈ st_ws) {args : Array Value} {s : State} {A : Nat → Prop} (hw : ∀ w ∈ st_ws, w.before args s = true) (hA : ∀ a : Nat, a < s.heap.size → ¬ A a) :
    ∃ adK adV : Nat → Nat, ∀ i : Nat, i < 17 → (st_tm i).eval args s none [] s = some (.ref (adK i)) ∧ va_O "java/lang/String" (adK i) A s s.heap ∧ va_OF "java/lang/String" "coder" "B" (.int 0) (adK i) A s s.heap ∧ va_OF "java/lang/String" "value" "[B" (.ref (adV i)) (adK i) A s s.heap ∧ va_T .byte (adV i) (mm_slen.getD i 0) (fun j => .int ((mm_sbyt.getD i []).getD j 0)) A s s.heap := by
  have h0 : ∀ i : Nat, ∃ q : Nat × Nat, i < 17 → (st_tm i).eval args s none [] s = some (.ref q.1) ∧ va_O "java/lang/String" q.1 A s s.heap ∧ va_OF "java/lang/String" "coder" "B" (.int 0) q.1 A s s.heap ∧ va_OF "java/lang/String" "value" "[B" (.ref q.2) q.1 A s s.heap ∧ va_T .byte q.2 (mm_slen.getD i 0) (fun j => .int ((mm_sbyt.getD i []).getD j 0)) A s s.heap := by
    intro i
    by_cases hi : i < 17
    · obtain ⟨a, c, cA, kA, q1, q2, q3, q4, q5, q6, -⟩ := Cond.exactly_spec (args := args) (first := s) (o := none) (s := s) (idx := []) (t := st_tm i) (cls := "java/lang/String") (hw _ (st_w1 i hi))
      obtain ⟨t, ht, hT⟩ := va_Tof (f := fun j => .int ((mm_sbyt.getD i []).getD j 0)) (A := A) (st_len i hi) (hw _ (st_w3 i hi)) (va_eqt (hw _ (st_w4 i hi))) (fun j hj => va_eqt (hw _ (h5 i j hi hj))) hA
      exact ⟨(a, t), fun _ => ⟨q1, va_Oof (hw _ (st_w1 i hi)) q1 hA, vk_OFof q1 (va_eqt (hw _ (st_w2 i hi))) hA, vk_OFof q1 ht hA, hT⟩⟩
    · exact ⟨(0, 0), fun h => absurd h hi⟩
  obtain ⟨ad, had⟩ := Classical.axiomOfChoice h0
  exact ⟨fun i => (ad i).1, fun i => (ad i).2, fun i hi => had i hi⟩
end PRQ

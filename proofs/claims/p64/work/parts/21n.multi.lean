section MMUM
variable {p : Program} {l : Launch} {e : Env} {R : Room} {s : State} {m : MethodId} {args : Array Value} {below : List Frame} {meth : Method} {c : Code}
/-- the rows one by one: what the model's loop does -/
theorem mu_rows {E : CtlPost} {d : Bool} {acts : List Action} {S : State} {cA cI cc : ClassId} {kA kI : Class} {N : Nat} {m0 : Int32} (hA : S.vm.classes[cA]? = some kA) (hAk : kA.kind = .array cI (.array .int)) (hI : S.vm.classes[cI]? = some kI) (hIk : kI.kind = .array cc .int) (hm : ¬ m0 < 0)
    (h1 : m0.toNatClampNeg ≤ e.platform.arrayLengthLimit) (h2 : m0.toNatClampNeg * componentBytes .int ≤ e.platform.maxHeapBytes) (h3 : S.heap.size + 1 + N ≤ e.platform.maxCells) (h4 : S.slotsUsed + N + N * m0.toNatClampNeg ≤ e.platform.maxSlots)
    {Q : PUnit → Pre} (hq : ∀ d' acts', Q PUnit.unit d' acts' (mu_st S cA cI N m0.toNatClampNeg N)) :
    wp (forIn (List.range' 0 N 1) PUnit.unit (fun i r => do
      let x ← multianewarray.make cI [m0]
      let y ← writeLoc S.heap.size i (.ref x)
      Pure.pure (ForInStep.yield PUnit.unit))) Q E e d acts (mu_st S cA cI N m0.toNatClampNeg 0) := by
  refine wp_forIn_inv (fun rest s' => ∃ i, i ≤ N ∧ rest = List.range' i (N - i) ∧ s' = mu_st S cA cI N m0.toNatClampNeg i) _ _ ⟨0, Nat.zero_le _, rfl, rfl⟩ ?_ ?_
  · rintro x rest s' d' acts' Q' ⟨i, hi, hl, rfl⟩ hn
    have hlt : i < N := by
      rcases Nat.lt_or_ge i N with h | h
      · exact h
      · exfalso
        rw [show N - i = 0 by omega] at hl
        cases hl
    rw [show N - i = (N - (i + 1)) + 1 by omega, List.range'_succ] at hl
    obtain ⟨rfl, rfl⟩ := List.cons.inj hl
    obtain ⟨f1, f2, f3⟩ := mu_sz S cA cI N m0.toNatClampNeg x
    have f4 := mu_out S cA cI N m0.toNatClampNeg x
    have hmul : x * m0.toNatClampNeg + m0.toNatClampNeg ≤ N * m0.toNatClampNeg := by
      have := Nat.mul_le_mul_right m0.toNatClampNeg (show x + 1 ≤ N from hlt)
      rw [Nat.succ_mul] at this
      exact this
    have g1 : (mu_st S cA cI N m0.toNatClampNeg x).heap.size < e.platform.maxCells := by rw [f1]; omega
    have g2 : (mu_st S cA cI N m0.toNatClampNeg x).slotsUsed + m0.toNatClampNeg ≤ e.platform.maxSlots := by rw [f3]; omega
    have hlt0 : S.heap.size < (mu_st S cA cI N m0.toNatClampNeg x).heap.size := by rw [f1]; omega
    have f5 : ((mu_st S cA cI N m0.toNatClampNeg x).pushCell (arrV cI m0.toNatClampNeg (fun _ => .int 0))).heap[S.heap.size]? = some (arrV cA N (fun j => if j < x then .ref (S.heap.size + 1 + j) else .null)) := by
      rw [State.heap_pushCell_of_lt (h := hlt0)]
      exact f4
    rw [wp_bind', multianewarray.make]
    simp only [wp_bind', W.ite, hm, if_false, wp_pure', W.theClass, f2, hI, hIk, Option.some.injEq, exists_eq_left']
    refine mu_alloc (by rw [f2]; exact hI) hIk h1 h2 rfl rfl g1 g2 ?_
    simp only [wp_bind', W.writeLoc, wp_pure']
    refine ⟨_, f5, (fun h => by cases h), by rw [arrV_size]; exact hlt, ?_, hn _ _ _ ⟨x + 1, hlt, rfl, ?_⟩⟩
    · show State.fitsSlot _ cA .none x _ = true
      simp [State.fitsSlot, State.slotType?, f2, hA, hAk, fits, FieldType.isReference]
    · rw [arrV_store, f1, mu_upd]
      rfl
  · rintro s' d' acts' ⟨i, hi, hl, rfl⟩
    have hiN : i = N := by
      rcases Nat.lt_or_ge i N with h | h
      · exfalso
        rw [show N - i = (N - (i + 1)) + 1 by omega, List.range'_succ] at hl
        cases hl
      · omega
    subst hiN
    exact hq _ _
theorem mu_make {E : CtlPost} {d : Bool} {acts : List Action} {S : State} {cA cI cc : ClassId} {kA kI : Class} {n0 m0 : Int32} (hA : S.vm.classes[cA]? = some kA) (hAk : kA.kind = .array cI (.array .int)) (hI : S.vm.classes[cI]? = some kI) (hIk : kI.kind = .array cc .int) (hn : ¬ n0 < 0) (hm : ¬ m0 < 0)
    (h0 : n0.toNatClampNeg ≤ e.platform.arrayLengthLimit) (h0' : n0.toNatClampNeg * componentBytes (.array .int) ≤ e.platform.maxHeapBytes) (h1 : m0.toNatClampNeg ≤ e.platform.arrayLengthLimit) (h2 : m0.toNatClampNeg * componentBytes .int ≤ e.platform.maxHeapBytes) (h3 : S.heap.size + 1 + n0.toNatClampNeg ≤ e.platform.maxCells) (h4 : S.slotsUsed + n0.toNatClampNeg + n0.toNatClampNeg * m0.toNatClampNeg ≤ e.platform.maxSlots)
    {Q : Addr → Pre} (hq : ∀ d' acts', Q S.heap.size d' acts' (mu_st S cA cI n0.toNatClampNeg m0.toNatClampNeg n0.toNatClampNeg)) : wp (multianewarray.make cA [n0, m0]) Q E e d acts S := by
  have hf : ([m0].find? (· < 0)) = none := by simp [hm]
  have hmz : 0 ≤ n0.toNatClampNeg * m0.toNatClampNeg := Nat.zero_le _
  rw [multianewarray.make]
  simp only [wp_bind', W.ite, hn, if_false, wp_pure', W.theClass, hA, hAk, Option.some.injEq, exists_eq_left']
  refine mu_alloc hA hAk h0 h0' rfl rfl (by omega) (by omega) ?_
  simp only [hf]
  rw [ite_self, wp_bind', Std.Legacy.Range.forIn_eq_forIn_range']
  have hsz : ([:n0.toNatClampNeg] : Std.Legacy.Range).size = n0.toNatClampNeg := by simp [Std.Legacy.Range.size]
  rw [hsz]
  exact mu_rows (E := E) (cc := cc) (N := n0.toNatClampNeg) hA hAk hI hIk hm h1 h2 h3 h4 (fun d' acts' => by
    simp only [wp_pure']
    exact hq d' acts')
end MMUM

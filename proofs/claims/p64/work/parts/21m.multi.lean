section MMUL
/-! multianewarray of two dimensions: the outer array, then the rows, one by one -/
/-- after i rows: the outer array (class cA, N places) at the old end of the heap, the rows (class cI, M numbers) behind it -/
def mu_st (T : State) (cA cI : ClassId) (N M : Nat) : Nat → State
  | 0 => T.pushCell (arrV cA N (fun _ => .null))
  | i + 1 => ((mu_st T cA cI N M i).pushCell (arrV cI M (fun _ => .int 0))).setCell T.heap.size (arrV cA N (fun j => if j < i + 1 then .ref (T.heap.size + 1 + j) else .null))
theorem mu_top (T : State) (f : JFrame) (cA cI : ClassId) (N M : Nat) : ∀ i, mu_st (T.setTop f) cA cI N M i = (mu_st T cA cI N M i).setTop f
  | 0 => rfl
  | i + 1 => by
    unfold mu_st
    rw [mu_top T f cA cI N M i, State.pushCell_setTop, State.setCell_setTop]
    rfl
theorem mu_sz (T : State) (cA cI : ClassId) (N M : Nat) : ∀ i, (mu_st T cA cI N M i).heap.size = T.heap.size + 1 + i ∧ (mu_st T cA cI N M i).vm = T.vm ∧ (mu_st T cA cI N M i).slotsUsed = T.slotsUsed + N + i * M
  | 0 => ⟨by simp [mu_st], rfl, by simp [mu_st, arrV_size]⟩
  | i + 1 => by
    obtain ⟨h1, h2, h3⟩ := mu_sz T cA cI N M i
    refine ⟨?_, by simp [mu_st, h2], ?_⟩
    · simp [mu_st, h1]
      omega
    · simp [mu_st, h3, arrV_size, Nat.succ_mul]
      omega
theorem mu_out (T : State) (cA cI : ClassId) (N M : Nat) : ∀ i, (mu_st T cA cI N M i).heap[T.heap.size]? = some (arrV cA N (fun j => if j < i then .ref (T.heap.size + 1 + j) else .null))
  | 0 => by simp [mu_st]
  | i + 1 => by
    have h1 := (mu_sz T cA cI N M i).1
    have h2 := mu_out T cA cI N M i
    have h3 : ((mu_st T cA cI N M i).pushCell (arrV cI M (fun _ => .int 0))).heap[T.heap.size]? = some (arrV cA N (fun j => if j < i then .ref (T.heap.size + 1 + j) else .null)) := by
      have h4 : T.heap.size < (mu_st T cA cI N M i).heap.size := by rw [h1]; omega
      rw [State.heap_pushCell_of_lt (h := h4)]
      exact h2
    exact State.heap_setCell_self h3
theorem mu_in (T : State) (cA cI : ClassId) (N M : Nat) : ∀ i j, j < i → (mu_st T cA cI N M i).heap[T.heap.size + 1 + j]? = some (arrV cI M (fun _ => .int 0))
  | 0, j, h => by omega
  | i + 1, j, h => by
    have h1 := (mu_sz T cA cI N M i).1
    show (((mu_st T cA cI N M i).pushCell (arrV cI M (fun _ => .int 0))).setCell T.heap.size _).heap[T.heap.size + 1 + j]? = _
    have hne : T.heap.size ≠ T.heap.size + 1 + j := by omega
    rw [State.heap_setCell_other hne]
    by_cases hj : j = i
    · subst hj
      have h2 : (mu_st T cA cI N M j).heap.size = T.heap.size + 1 + j := h1
      rw [← h2]
      exact State.heap_pushCell_size _ _
    · have h4 : T.heap.size + 1 + j < (mu_st T cA cI N M i).heap.size := by rw [h1]; omega
      rw [State.heap_pushCell_of_lt (h := h4)]
      exact mu_in T cA cI N M i j (by omega)
theorem mu_old (T : State) (cA cI : ClassId) (N M : Nat) {q : Nat} (hq : q < T.heap.size) : ∀ i, (mu_st T cA cI N M i).heap[q]? = T.heap[q]?
  | 0 => State.heap_pushCell_of_lt _ _ hq
  | i + 1 => by
    have h1 := (mu_sz T cA cI N M i).1
    show (((mu_st T cA cI N M i).pushCell (arrV cI M (fun _ => .int 0))).setCell T.heap.size _).heap[q]? = _
    have hne : T.heap.size ≠ q := by omega
    have h4 : q < (mu_st T cA cI N M i).heap.size := by rw [h1]; omega
    rw [State.heap_setCell_other hne, State.heap_pushCell_of_lt (h := h4)]
    exact mu_old T cA cI N M hq i
theorem mu_upd (z i : Nat) : updV (fun j => if j < i then Value.ref (z + 1 + j) else .null) i (.ref (z + 1 + i)) = fun j => if j < i + 1 then .ref (z + 1 + j) else .null := by
  funext j
  unfold updV
  by_cases hj : j = i
  · subst hj
    rw [if_pos rfl, if_pos (by omega)]
  · rw [if_neg hj]
    show (if j < i then Value.ref (z + 1 + j) else Value.null) = _
    by_cases h2 : j < i
    · rw [if_pos h2, if_pos (by omega)]
    · rw [if_neg h2, if_neg (by omega)]
variable {p : Program} {l : Launch} {e : Env} {R : Room} {s : State} {m : MethodId} {args : Array Value} {below : List Frame} {meth : Method} {c : Code} {T : State} {locs : List Loc} {cells slots : Nat}
theorem mu_stand (X : Stand p l e R s m args below meth c T locs cells slots) (hz : s.heap.size ≤ T.heap.size) (cA cI : ClassId) (N M : Nat) : ∀ i, Stand p l e R s m args below meth c (mu_st T cA cI N M i) locs (cells + 1 + i) (slots + N + i * M)
  | 0 => by
    have h := X.pushed (arrV cA N (fun _ => .null))
    rw [arrV_size] at h
    rw [Nat.zero_mul]
    exact h
  | i + 1 => by
    have X1 := mu_stand X hz cA cI N M i
    have h1 := (mu_sz T cA cI N M i).1
    have h2 := mu_out T cA cI N M i
    have X2 := X1.pushed (arrV cI M (fun _ => .int 0))
    have h3 : ((mu_st T cA cI N M i).pushCell (arrV cI M (fun _ => .int 0))).heap[T.heap.size]? = some (arrV cA N (fun j => if j < i then .ref (T.heap.size + 1 + j) else .null)) := by
      have h4 : T.heap.size < (mu_st T cA cI N M i).heap.size := by rw [h1]; omega
      rw [State.heap_pushCell_of_lt (h := h4)]
      exact h2
    have X3 := X2.stored h3 i (.ref (T.heap.size + 1 + i))
    rw [arrV_store, mu_upd, arrV_size] at X3
    have X4 := Stand.forget X3 (fun q hq => by
      rw [List.mem_singleton.mp hq]
      exact hz)
    have e1 : slots + N + (i + 1) * M = slots + N + i * M + M := by rw [Nat.succ_mul]; omega
    rw [e1]
    exact X4
theorem mu_alloc {E : CtlPost} {d : Bool} {acts : List Action} {S : State} {cc comp : ClassId} {k : Class} {ty : FieldType} {n : Nat} {v : Value} (hk : S.vm.classes[cc]? = some k) (hkd : k.kind = .array comp ty) (h1 : n ≤ e.platform.arrayLengthLimit) (h2 : n * componentBytes ty ≤ e.platform.maxHeapBytes) (hf : fits ty v = true) (hv : v.isDefault = true) (h3 : S.heap.size < e.platform.maxCells) (h4 : S.slotsUsed + n ≤ e.platform.maxSlots) {Q : Addr → Pre} (hq : Q S.heap.size d acts (S.pushCell (arrV cc n (fun _ => v)))) :
    wp (Jvm.newArray cc n v) Q E e d acts S := by
  rw [← arrV_new] at hq
  have hda : allocActs (Array.replicate n v) S.heap.size acts = acts := by
    have ha : ((Array.replicate n v).all (·.isDefault)) = true := by
      rw [Array.all_replicate]
      split <;> simp [hv]
    unfold allocActs
    rw [if_pos ha]
  have hfs : ∀ (i : Nat) (x : Value), (Array.replicate n v)[i]? = some x → S.fitsSlot cc .none i x = true := by
    intro i x hx
    rw [Array.getElem?_replicate] at hx
    by_cases hi : i < n
    · rw [if_pos hi] at hx
      cases hx
      simp [State.fitsSlot, State.slotType?, hk, hkd, hf]
    · rw [if_neg hi] at hx
      cases hx
  have n1 : ¬ n > e.platform.arrayLengthLimit := by omega
  have n2 : ¬ n * componentBytes ty > e.platform.maxHeapBytes := by omega
  simp only [Jvm.newArray, Jvm.arrayFits, wp_bind', W.ask, W.ite, n1, if_false, wp_pure', W.theClass, hk, hkd, n2, W.alloc, W.stop, Option.some.injEq, exists_eq_left', Array.size_replicate, hda]
  rw [if_neg (by omega)]
  exact ⟨h3, h4, hfs, hq⟩
end MMUL

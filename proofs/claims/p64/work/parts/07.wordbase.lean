section MMB
/-! words of the tables, as the small machine wants them -/
-- words
def mm_gw : List Cond := lw_tbl.filter goodWord
theorem mm_gw_of {w : Cond} (h : w ∈ lw_tbl) (hg : goodWord w = true) : w ∈ mm_gw := List.mem_filter.mpr ⟨h, hg⟩
def mm_nw (w : Cond) : Bool := match w with
  | .fieldLinkNest .. => true
  | .methodLinkNest .. => true
  | .castable .. => true
  | .declares _ => true
  | _ => false
def my_y (M : mm_M) : MethodName := M.1
def my_b (M : mm_M) : ByteArray := M.2.1
def my_L (M : mm_M) : Nat := M.2.2.1
def my_r (M : mm_M) : Option FieldType := M.2.2.2.1
def my_f (M : mm_M) : Nat := M.2.2.2.2.1.1
def my_w (M : mm_M) : Nat := M.2.2.2.2.1.2
def my_h (M : mm_M) : List (Nat × Nat × Nat × Nat) := M.2.2.2.2.2
def my_ws (M : mm_M) : List Cond := (match my_h M with | [] => Cond.code (my_y M) (my_b M) (my_L M) (my_r M) | hh => Cond.codeWith (my_y M) (my_b M) (my_L M) (my_r M) hh) :: mm_gw
def mm_fk (own : String) (idx ci k : Nat) : Prop := ∃ (C : String) (T : u_T) (N : Nat), mm_cl[ci]? = some (C, T, N) ∧ mm_Nl.getD ci 0 = N ∧ (∀ w ∈ u_ws C T N, w ∈ mm_gw) ∧ k < N ∧
  (Cond.fieldLink own idx (T k).1 (T k).2.1 (T k).2.2.1 ∈ mm_gw ∨ ∃ host, Cond.fieldLinkNest own idx (T k).1 (T k).2.1 (T k).2.2.1 host ∈ lw_tbl)
def mm_mB (N : mm_M) (n : Nat) : Prop := my_h N = [] ∧ Cond.code (my_y N) (my_b N) (my_L N) (my_r N) ∈ mm_gw ∧ Cond.initialized (my_y N).cls ∈ mm_gw ∧ ((my_y N).cls ≠ "java/lang/invoke/MethodHandle" ∧ (my_y N).cls ≠ "java/lang/invoke/VarHandle") ∧ (parseMethodDescriptor (my_y N).desc).map (fun d => d.parameters.length) = some n
def mm_mV (N : mm_M) (n : Nat) : Prop := mm_mB N n ∧ Cond.instanceMethod (my_y N) ∈ mm_gw ∧ Cond.selects (my_y N).cls (my_y N) (my_y N) ∈ mm_gw
def mm_mI (N : mm_M) (n : Nat) : Prop := mm_mB N n ∧ my_r N = none ∧ (my_y N).name = "<init>" ∧ Cond.instanceMethod (my_y N) ∈ mm_gw
def mm_mS (N : mm_M) (n : Nat) : Prop := mm_mB N n ∧ Cond.static (my_y N) ∈ mm_gw
def mm_lk (own : String) (idx : Nat) (N : mm_M) : Prop := Cond.methodLink own idx (my_y N) ∈ mm_gw ∨ ∃ host, Cond.methodLinkNest own idx (my_y N) host ∈ lw_tbl
def mm_cn (ci : Nat) : Option String := (mm_cl[ci]?).map (fun q => q.1)
def mm_xn : List String := ["java/lang/RuntimeException", "java/lang/Exception"]
def mm_tw (own : String) (ik ic : Nat) (cls : String) : Prop := Cond.classLink own ik cls ∈ mm_gw ∧ Cond.initialized cls ∈ mm_gw ∧ Bundle.fit cls = true ∧ ∀ w ∈ vx_atS own ic cls mm_xn, w ∈ lw_tbl ∧ (goodWord w || mm_nw w) = true
def mm_ft (ci k : Nat) : Bool := (mm_ftl.getD ci []).getD k false
end MMB

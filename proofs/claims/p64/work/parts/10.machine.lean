section MMA
/-! A SMALL MACHINE over the kit: objects by their numbers, contents as functions; judgements of a body (mm_EX) and of a method (mm_RET) -/
abbrev mm_H : Type := (Nat × Nat × Nat) × ((Nat → Nat → Int32) × (Nat → Nat → Option Nat) × (Nat → Nat → Int64) × (Nat → Nat → Nat))
def mh_n (h : mm_H) : Nat := h.1.1
def mh_c (h : mm_H) : Nat := h.1.2.1
def mh_w (h : mm_H) : Nat := h.1.2.2
def mh_I (h : mm_H) : Nat → Nat → Int32 := h.2.1
def mh_R (h : mm_H) : Nat → Nat → Option Nat := h.2.2.1
def mh_J (h : mm_H) : Nat → Nat → Int64 := h.2.2.2.1
/-- the kinds of the objects from 352 on: mh_D h o 0, mh_D h o 1 -/
def mh_D (h : mm_H) : Nat → Nat → Nat := h.2.2.2.2
def mm_up {α : Type} (f : Nat → Nat → α) (o k : Nat) (v : α) : Nat → Nat → α := fun p j => if p = o ∧ j = k then v else f p j
def ms_I (h : mm_H) (o k : Nat) (v : Int32) : mm_H := (h.1, mm_up (mh_I h) o k v, mh_R h, mh_J h, mh_D h)
def ms_R (h : mm_H) (o k : Nat) (v : Option Nat) : mm_H := (h.1, mh_I h, mm_up (mh_R h) o k v, mh_J h, mh_D h)
def ms_J (h : mm_H) (o k : Nat) (v : Int64) : mm_H := (h.1, mh_I h, mh_R h, mm_up (mh_J h) o k v, mh_D h)
def ms_D (h : mm_H) (o k : Nat) (v : Nat) : mm_H := (h.1, mh_I h, mh_R h, mh_J h, mm_up (mh_D h) o k v)
/-- a whole row written -/
def ms_Y (h : mm_H) (o : Nat) (f : Nat → Int32) : mm_H := (h.1, fun p j => if p = o then f j else mh_I h p j, mh_R h, mh_J h, mh_D h)
/-- one object more, of w slots -/
def ms_N (h : mm_H) (w : Nat) : mm_H := ((mh_n h + 1, mh_c h + 1, mh_w h + w), h.2)
/-- one object more, from 352 on: of kind (t, a), w slots -/
def ms_K (h : mm_H) (w t a : Nat) : mm_H := ((mh_n h + 1, mh_c h + 1, mh_w h + w), mh_I h, mh_R h, mh_J h, fun p j => if p = mh_n h then (if j = 0 then t else if j = 1 then a else 0) else mh_D h p j)
def mm_kk (h : mm_H) (o : Nat) : Nat × Nat := if o < 352 then mm_kd o else (mh_D h o 0, mh_D h o 1)
/-- an exception made -/
def ms_X (h : mm_H) : mm_H := ((mh_n h, mh_c h + 1, mh_w h + 6), h.2)
-- the machine's side: where the objects lie
abbrev mm_X : Type := (Nat × Nat × Nat × (Nat → Int32)) × ((Nat → Nat) × (Nat → Nat) × (Nat → Nat)) × (va_G × (Nat → ClassId))
def mx_base (X : mm_X) : Nat := X.1.1
def mx_b (X : mm_X) : Nat := X.1.2.1
def mx_L (X : mm_X) : Nat := X.1.2.2.1
def mx_xs (X : mm_X) : Nat → Int32 := X.1.2.2.2
def mx_adK (X : mm_X) : Nat → Nat := X.2.1.1
def mx_adV (X : mm_X) : Nat → Nat := X.2.1.2.1
def mx_adF (X : mm_X) : Nat → Nat := X.2.1.2.2
def mx_G (X : mm_X) : va_G := X.2.2.1
def mx_dA (X : mm_X) : Nat → ClassId := X.2.2.2
def mx_ad (X : mm_X) (o : Nat) : Nat := if o < mm_NN then mx_base X + o else if o = mm_NN then mx_b X else if o < mm_NN + 101 then mx_adK X (o - (mm_NN + 1)) else if o < mm_NN + 201 then mx_adV X (o - (mm_NN + 101)) else mx_adF X (o - (mm_NN + 201))
def mx_cv (X : mm_X) : Value → Value := fun v => match v with
  | .ref o => .ref (mx_ad X o)
  | w => w
def mm_A (X : mm_X) : Nat → Prop := fun q => mx_base X ≤ q
def mm_fs (X : mm_X) (h : mm_H) (o ci : Nat) : List Value := (List.range (mm_Nl.getD ci 0)).map (fun k => if mm_ft ci k = true then va_rf ((mh_R h o k).map (mx_ad X)) else .int (mh_I h o k))
def mm_cell (X : mm_X) (h : mm_H) (o : Nat) : va_E := match ((mm_kk h o).1 % 10, (mm_kk h o).2) with
  | (0, ci) => .inr (ci, mm_fs X h o ci)
  | (1, n) => .inl (mx_dA X 0, n, .inl (mh_I h o))
  | (2, n) => .inl (mx_dA X 1, n, .inl (mh_I h o))
  | (3, n) => .inl (mx_dA X 2, n, .inl (mh_I h o))
  | (4, n) => .inl (mx_dA X 3, n, .inr (.inl (mh_J h o)))
  | (6, n) => .inl (mx_dA X 5, n, .inr (.inr (.inr (.inr (fun j => (mh_R h o j).map (mx_ad X))))))
  | (7, n) => .inl (mx_dA X 6, n, .inr (.inr (.inr (.inr (fun j => (mh_R h o j).map (mx_ad X))))))
  | _ => .inr (99, [])
def mm_ws (X : mm_X) (h : mm_H) : va_W := (List.range (mh_n h)).map fun o => (mx_base X + o, mm_cell X h o)
def mm_tys (X : mm_X) : List (ClassId × FieldType) := [(mx_dA X 0, .int), (mx_dA X 0, .int), (mx_dA X 2, .byte), (mx_dA X 0, .int), (mx_dA X 0, .int), (mx_dA X 5, .object "BatchWarehouse$Stock"), (mx_dA X 6, .array .int)]
def mm_Pr (X : mm_X) (h : mm_H) : Prop := mh_n h ≤ mm_NN ∧ (mh_I h mm_NN 0 = nI (mx_L X) ∧ ∀ j, j < mx_L X → mh_I h mm_NN (j + 1) = mx_xs X j) ∧ ∀ o, mh_n h ≤ o → o < mm_NN → ∀ k, mh_I h o k = 0 ∧ mh_R h o k = none ∧ mh_J h o k = 0 ∧ mh_D h o k = 0
def mm_P (X : mm_X) (h : mm_H) (H : Heap) : Prop := va_P (mx_G X) mm_cl (mm_ws X h) H ∧ mm_Pr X h
theorem mm_ws_get {X : mm_X} {h : mm_H} {o : Nat} (ho : o < mh_n h) : (mm_ws X h)[o]? = some (mx_base X + o, mm_cell X h o) := by
  simp [mm_ws, ho]
theorem mm_ws_inv {X : mm_X} {h : mm_H} {o : Nat} {q : Nat × va_E} (hq : (mm_ws X h)[o]? = some q) : o < mh_n h ∧ q = (mx_base X + o, mm_cell X h o) := by
  have hl : o < mh_n h := by
    have := (List.getElem?_eq_some_iff.mp hq).1
    simpa [mm_ws] using this
  exact ⟨hl, Option.some.inj (hq.symm.trans (mm_ws_get hl))⟩
theorem mm_ws_set {X : mm_X} {h h' : mm_H} {o : Nat} (ho : o < mh_n h) (hn : mh_n h' = mh_n h) (hc : ∀ p, p ≠ o → mm_cell X h' p = mm_cell X h p) : (mm_ws X h).set o (mx_base X + o, mm_cell X h' o) = mm_ws X h' := by
  apply List.ext_getElem?
  intro k
  by_cases hk : k = o
  · subst hk
    rw [List.getElem?_set_self (by simp [mm_ws]; exact ho), mm_ws_get (hn ▸ ho)]
  · rw [List.getElem?_set_ne (Ne.symm hk)]
    by_cases hl : k < mh_n h
    · rw [mm_ws_get hl, mm_ws_get (hn ▸ hl), hc k hk]
    · rw [List.getElem?_eq_none (by simp [mm_ws]; omega), List.getElem?_eq_none (by simp [mm_ws, hn]; omega)]
theorem mm_ws_push {X : mm_X} {h h' : mm_H} (hn : mh_n h' = mh_n h + 1) (hc : ∀ p, p < mh_n h → mm_cell X h' p = mm_cell X h p) : mm_ws X h ++ [(mx_base X + mh_n h, mm_cell X h' (mh_n h))] = mm_ws X h' := by
  apply List.ext_getElem?
  intro k
  by_cases hl : k < mh_n h
  · rw [List.getElem?_append_left (by simp [mm_ws]; exact hl), mm_ws_get hl, mm_ws_get (by omega), hc k hl]
  · by_cases he : k = mh_n h
    · subst he
      rw [List.getElem?_append_right (by simp [mm_ws]), mm_ws_get (by omega)]
      simp [mm_ws]
    · rw [List.getElem?_eq_none (by simp [mm_ws]; omega), List.getElem?_eq_none (by simp [mm_ws, hn]; omega)]
theorem mm_wsD (X : mm_X) (h : mm_H) : va_D (mm_A X) (mm_ws X h) := by
  refine ⟨fun i j p q hi hj hpq => ?_, fun k q hk => ?_⟩
  · obtain ⟨-, rfl⟩ := mm_ws_inv hi
    obtain ⟨-, rfl⟩ := mm_ws_inv hj
    dsimp only at hpq
    omega
  · obtain ⟨-, rfl⟩ := mm_ws_inv hk
    show mx_base X ≤ mx_base X + k
    omega
theorem mx_ad_lt {X : mm_X} {o : Nat} (h : o < mm_NN) : mx_ad X o = mx_base X + o := if_pos h
def mm_S (X : mm_X) (U : State) (H : Heap) : Prop := ∀ i : Nat, i < 17 → va_O "java/lang/String" (mx_adK X i) (mm_A X) U H ∧ va_OF "java/lang/String" "coder" "B" (.int 0) (mx_adK X i) (mm_A X) U H ∧ va_OF "java/lang/String" "value" "[B" (.ref (mx_adV X i)) (mx_adK X i) (mm_A X) U H ∧ va_T .byte (mx_adV X i) (mm_slen.getD i 0) (fun j => .int ((mm_sbyt.getD i []).getD j 0)) (mm_A X) U H
/-- two arrays of numbers of java/lang/Integer: the digits of 0 .. 99 -/
def mm_dg (a : Nat) (X : mm_X) (U : State) (H : Heap) : Prop := va_Z "java/lang/Integer" (if a = 1 then "DigitOnes" else "DigitTens") "[B" (.ref (mx_adF X a)) (mm_A X) U H ∧ va_T .byte (mx_adF X a) 100 (fun j => .int (nI (if a = 1 then j % 10 + 48 else j / 10 + 48))) (mm_A X) U H
/-- statics of the JDK's -/
def mm_Z (X : mm_X) (U : State) (H : Heap) : Prop := va_Z "java/lang/String" "COMPACT_STRINGS" "Z" (.int 1) (mm_A X) U H ∧ (va_Z "jdk/internal/util/Preconditions" "SIOOBE_FORMATTER" "Ljava/util/function/BiFunction;" .null (mm_A X) U H ∨ va_Z "jdk/internal/util/Preconditions" "SIOOBE_FORMATTER" "Ljava/util/function/BiFunction;" (.ref (mx_adF X 0)) (mm_A X) U H) ∧ mm_dg 1 X U H ∧ mm_dg 2 X U H
/-- the class of int arrays, and that of arrays of these -/
def mm_AA (X : mm_X) (U : State) : Prop := ((∃ (k : Class) (c : ClassId), U.vm.classes[mx_dA X 0]? = some k ∧ k.kind = .array c .int) ∧ ∃ k : Class, U.vm.classes[mx_dA X 6]? = some k ∧ k.kind = .array (mx_dA X 0) (.array .int)) ∧ ∀ x : MethodName, Cond.privateMethod x ∈ lw_tbl → (Cond.privateMethod x).before #[] U = true
theorem mm_AA_moved {X : mm_X} {u U : State} (hvm : u.vm.Alike U.vm) (h : mm_AA X u) : mm_AA X U := by
  obtain ⟨⟨⟨k, c, h1, h2⟩, k', h3, h4⟩, h5⟩ := h
  obtain ⟨q, g1, g2⟩ := hvm.2.2 _ _ h1
  obtain ⟨q', g3, g4⟩ := hvm.2.2 _ _ h3
  refine ⟨⟨⟨q, c, g1, by rw [g2]; exact h2⟩, q', g3, by rw [g4]; exact h4⟩, fun x hx => ?_⟩
  have h6 := (Cond.privateMethod_setVm (args := #[]) hvm x).trans (h5 x hx)
  exact (Cond.onTables_vm (A := #[]) (A' := #[]) (U := u) (U' := U) U.vm (Cond.privateMethod x) rfl).symm.trans h6
def mm_E (X : mm_X) (U : State) (H : Heap) : Prop := (mx_b X < mx_base X ∧ mx_L X ≤ 3072 ∧ mx_base X ≤ H.size) ∧ va_X (mx_b X) (mx_L X) (mx_xs X) U H ∧ va_K (mx_G X) mm_cl (mm_tys X) U ∧ mm_S X U H ∧
  (∀ q ∈ mm_srl, vk_R q.1 q.2.1 q.2.2.1 (mx_adK X q.2.2.2) U) ∧ (vx_Zq Bundle.tN "UNASSIGNED_STACK" Bundle.steD (mm_A X) U H ∧ vx_Zq Bundle.tN "SUPPRESSED_SENTINEL" Bundle.listD (mm_A X) U H) ∧
  (∀ w ∈ lw_tbl, mm_nw w = true → va_Nw w U) ∧ va_AO "BatchWarehouse$Stock" U ∧ mm_Z X U H ∧ mm_AA X U
theorem mm_nw_warm {w : Cond} {s U : State} (hg : mm_nw w = true) (hW : s.WarmedH U.vm) (h : va_Nw w s) : va_Nw w U := by
  cases w <;> first | exact va_Nw.warmF hW h | exact va_Nw.warmM hW h | exact va_Nw.warmC hW h | exact va_Nw.warmD hW h | exact absurd hg (by simp [mm_nw])

theorem mm_S_step {X : mm_X} {s U : State} {H H1 : Heap} (hvm : s.vm.Alike U.vm) (hq : ∀ a : Nat, a < H.size → ¬ mm_A X a → H1[a]? = H[a]?) (h : mm_S X s H) : mm_S X U H1 := fun i hi =>
  ⟨(va_O.moved hvm (h i hi).1).kept hq, (va_OF.moved hvm (h i hi).2.1).kept hq, (va_OF.moved hvm (h i hi).2.2.1).kept hq, (va_T.moved hvm (h i hi).2.2.2).kept hq⟩
theorem mm_dg_step {X : mm_X} {a : Nat} {s U : State} {H H1 : Heap} (hvm : s.vm.Alike U.vm) (hq : ∀ a : Nat, a < H.size → ¬ mm_A X a → H1[a]? = H[a]?) (h : mm_dg a X s H) : mm_dg a X U H1 :=
  ⟨(h.1.moved hvm).kept hq, (h.2.moved hvm).kept hq⟩
theorem mm_Z_step {X : mm_X} {s U : State} {H H1 : Heap} (hvm : s.vm.Alike U.vm) (hq : ∀ a : Nat, a < H.size → ¬ mm_A X a → H1[a]? = H[a]?) (h : mm_Z X s H) : mm_Z X U H1 :=
  ⟨(h.1.moved hvm).kept hq, h.2.1.elim (fun z => Or.inl ((z.moved hvm).kept hq)) (fun z => Or.inr ((z.moved hvm).kept hq)), mm_dg_step hvm hq h.2.2.1, mm_dg_step hvm hq h.2.2.2⟩
theorem mm_E_step {X : mm_X} {s U : State} {H : Heap} {locs : List Loc} (hE : mm_E X s s.heap) (hW : s.WarmedH U.vm) (hH : U.heap = H) (hS : va_S (mm_A X) s.heap H locs) : mm_E X U U.heap := by
  obtain ⟨⟨h1, h2, h3⟩, hX, hK, hSt, hR, ⟨hU, hN⟩, hn, hA, hZ, hAA⟩ := hE
  have hvm := hW.alike
  have hq : ∀ a : Nat, a < s.heap.size → ¬ mm_A X a → U.heap[a]? = s.heap[a]? := by rw [hH]; exact hS.2.1
  refine ⟨⟨h1, h2, by rw [hH]; exact Nat.le_trans h3 hS.1⟩, (hX.moved hvm).kept (hq _ (by omega) (by show ¬ _ ≤ _; omega)), hK.moved hvm, mm_S_step hvm hq hSt, fun q h => vk_R.warm hW (hR q h), ⟨(hU.moved hvm).kept hq, (hN.moved hvm).kept hq⟩, fun w h g => mm_nw_warm g hW (hn w h g), hA.moved hvm, mm_Z_step hvm hq hZ, mm_AA_moved hvm hAA⟩
/-- the state's own face: calling does not touch it -/
theorem mm_E_calling {X : mm_X} {U : State} {H : Heap} {g : JFrame} {mk : MethodId} {a : Array Value} (h : mm_E X U H) : mm_E X (U.calling g mk a) H := by
  obtain ⟨h1, hX, hK, hSt, hR, ⟨hU, hN⟩, hn, hA, hZ, hAA⟩ := h
  have hvm : U.vm.Alike (U.calling g mk a).vm := Vm.Alike.refl U.vm
  refine ⟨h1, hX.moved hvm, hK.moved hvm, mm_S_step (s := U) hvm (fun _ _ _ => rfl) hSt, fun q hq => vk_R.same (u := U) rfl (hR q hq), ⟨hU.moved hvm, hN.moved hvm⟩, fun w hw g9 => ?_, hA.moved hvm, mm_Z_step (s := U) hvm (fun _ _ _ => rfl) hZ, mm_AA_moved (u := U) hvm hAA⟩
  have h9 := hn w hw g9
  cases w <;> first | exact va_Nw.same rfl rfl h9 | exact absurd g9 (by simp [mm_nw])
abbrev mm_O : Type := (Option Value ⊕ String) × mm_H
def mm_Q (X : mm_X) (r : mm_O) : Array Value → State → Outcome → State → Prop := fun _ st o t => (∃ v, r.1 = .inl v ∧ o = .returned (v.map (mx_cv X))) ∧ mm_P X r.2 t.heap ∧ va_F (mm_A X) st t
def mm_V (X : mm_X) (r : mm_O) : String → State → State → Prop := fun E st t => r.1 = .inr E ∧ mm_P X r.2 t.heap ∧ va_F (mm_A X) st t
def mm_le (h h' : mm_H) : Prop := mh_c h ≤ mh_c h' ∧ mh_w h ≤ mh_w h'
theorem mm_le_refl (h : mm_H) : mm_le h h := ⟨Nat.le_refl _, Nat.le_refl _⟩
theorem mm_le_trans {a b c : mm_H} (h1 : mm_le a b) (h2 : mm_le b c) : mm_le a c := ⟨Nat.le_trans h1.1 h2.1, Nat.le_trans h1.2 h2.2⟩
/-- the locals -/
def mm_LH (X : mm_X) (ls : Array Slot) (n : Nat) (L : List (Option Value)) : Prop := ls.size = n ∧ lv_wf ls ∧ ∀ (i : Nat) (v : Value), L[i]? = some (some v) → ls[i]? = some (.val (mx_cv X v))
/-- what stands still in a body -/
def mm_CX (M : mm_M) (X : mm_X) (p : Program) (l : Launch) (R : Room) (s : State) (m : MethodId) (args : Array Value) (meth : Method) (c : Code) : Prop :=
  l.stackTraces = false ∧ p.tables.exec = Jvm.exec ∧ c.code = my_b M ∧ meth.sig.returnType = my_r M ∧ c.maxLocals = my_L M ∧ s.vm.findClass (my_y M).cls = some m.cls ∧ meth.locks = false ∧ (∀ w ∈ mm_gw, w.before args s = true) ∧ mm_E X s s.heap ∧
  (my_h M = [(0, 0, 0, 0)] ∨ c.exceptionTable.toList = tableOf (my_h M)) ∧ ((my_y M).name = "<init>" → meth.name = "<init>") ∧ my_f M ≤ R.frames ∧ my_w M ≤ R.locals
/-- the body of M, from pc on, with the locals L, the operands st and the objects h, comes to r; F: what holds of the objects here, G: at the end -/
def mm_EX (F G : mm_H → Prop) (M : mm_M) (pc : Nat) (L : List (Option Value)) (st : List Value) (h : mm_H) (r : mm_O) : Prop :=
  F h → mm_le h r.2 ∧ G r.2 ∧ ∀ (X : mm_X) (p : Program) (l : Launch) (e : Env) (R : Room) (s : State) (m : MethodId) (args : Array Value) (below : List Frame) (meth : Method) (c : Code), mm_CX M X p l R s m args meth c →
    ∀ (k0 w0 : Nat), s.heap.size ≤ mx_base X + k0 → k0 ≤ mh_c h → w0 ≤ mh_w h → mh_c r.2 - k0 ≤ R.cells → mh_w r.2 - w0 ≤ R.slots → ∀ (H : Heap) (locs : List Loc) (ls : Array Slot), mm_P X h H → va_S (mm_A X) s.heap H locs → mm_LH X ls (my_L M) L →
      W p l e R s m args below meth c H locs (mh_c h - k0) (mh_w h - w0) (vx_MQ below (mm_Q X r) (mm_V X r) args s (mh_c r.2 - k0) (mh_w r.2 - w0) (mm_A X)) (F0 m pc ls (st.map (mx_cv X)))
def mm_E2 {τ : Type} (F G : mm_H → Prop) (M : mm_M) (pc : Nat) (L : List (Option Value)) (st : List Value) (h : mm_H) (o : Option τ) (lf : τ → mm_O) : Prop := ∀ x, o = some x → mm_EX F G M pc L st h (lf x)
/-- M's contract at these arguments and objects -/
def mm_RET (F G : mm_H → Prop) (M : mm_M) (as : List Value) (h : mm_H) (r : mm_O) : Prop :=
  F h → mm_le h r.2 ∧ G r.2 ∧ ∀ (l : Launch) (X : mm_X), l.stackTraces = false → vx_Met l (my_y M) (my_ws M) { frames := my_f M, cells := mh_c r.2 - mh_c h, slots := mh_w r.2 - mh_w h, locals := my_w M } (fun v U => v = (as.map (mx_cv X)).toArray ∧ mm_P X h U.heap ∧ mm_E X U U.heap ∧ U.heap.size ≤ mx_base X + mh_c h) (mm_Q X r) (mm_V X r) (mh_c r.2 - mh_c h) (mh_w r.2 - mh_w h) (mm_A X)
def mm_R2 {τ : Type} (F G : mm_H → Prop) (M : mm_M) (as : List Value) (h : mm_H) (o : Option τ) (lf : τ → mm_O) : Prop := ∀ x, o = some x → mm_RET F G M as h (lf x)
/-- a step that changes neither objects nor locals -/
theorem mm_lift {τ : Type} {F G : mm_H → Prop} {M : mm_M} {pc pc' : Nat} {L : List (Option Value)} {st st' : List Value} {h : mm_H} {o : Option τ} {lf : τ → mm_O}
    (stp : ∀ (X : mm_X) (p : Program) (l : Launch) (e : Env) (R : Room) (s : State) (m : MethodId) (args : Array Value) (below : List Frame) (meth : Method) (c : Code) (H : Heap) (locs : List Loc) (ls : Array Slot) (cells slots : Nat) (Q : State → Prop), mm_CX M X p l R s m args meth c → mm_P X h H → va_S (mm_A X) s.heap H locs → mm_LH X ls (my_L M) L → F h → cells ≤ R.cells → slots ≤ R.slots →
      W p l e R s m args below meth c H locs cells slots Q (F0 m pc' ls (st'.map (mx_cv X))) → W p l e R s m args below meth c H locs cells slots Q (F0 m pc ls (st.map (mx_cv X))))
    (k : mm_E2 F G M pc' L st' h o lf) : mm_E2 F G M pc L st h o lf := by
  intro x hx hF
  obtain ⟨k1, k2, k3⟩ := k x hx hF
  refine ⟨k1, k2, fun X p l e R s m args below meth c hC k0 w0 h0 h1 h2 h3 h4 H locs ls hP hS hL => ?_⟩
  exact stp X p l e R s m args below meth c H locs ls _ _ _ hC hP hS hL hF (by have := k1.1; omega) (by have := k1.2; omega) (k3 X p l e R s m args below meth c hC k0 w0 h0 h1 h2 h3 h4 H locs ls hP hS hL)
theorem mx_cv_cat (X : mm_X) (v : Value) : (mx_cv X v).category = v.category := by cases v <;> rfl
theorem mx_cats (X : mm_X) (st : List Value) : ((st.map (mx_cv X)).map fun v => v.category).sum = (st.map fun v => v.category).sum := by
  rw [List.map_map]
  congr 1
  exact List.map_congr_left fun v _ => mx_cv_cat X v
end MMA

section MMI
/-! the instructions of the small machine -/
variable {τ : Type} {F G : mm_H → Prop} {M : mm_M} {pc pc' : Nat} {L : List (Option Value)} {st : List Value} {h : mm_H} {o : Option τ} {lf : τ → mm_O}
theorem mm_guard {c : Prop} {_ : Decidable c} (k : c → mm_E2 F G M pc L st h o lf) : mm_E2 F G M pc L st h (if c then o else none) lf := by
  intro x hx
  by_cases hc : c
  · rw [if_pos hc] at hx
    exact k hc x hx
  · rw [if_neg hc] at hx
    cases hx
theorem mm_if {c : Prop} {_ : Decidable c} {o2 : Option τ} (k1 : c → mm_E2 F G M pc L st h o lf) (k2 : ¬ c → mm_E2 F G M pc L st h o2 lf) : mm_E2 F G M pc L st h (if c then o else o2) lf := by
  intro x hx
  by_cases hc : c
  · rw [if_pos hc] at hx
    exact k1 hc x hx
  · rw [if_neg hc] at hx
    exact k2 hc x hx
theorem mm_none : mm_E2 F G M pc L st h (none : Option τ) lf := fun _ hx => by cases hx
/-- fewer locals known -/
theorem mm_mask {L' : List (Option Value)} (hL : ∀ (i : Nat) (v : Value), L'[i]? = some (some v) → L[i]? = some (some v)) (k : mm_E2 F G M pc L' st h o lf) : mm_E2 F G M pc L st h o lf := by
  intro x hx hF
  obtain ⟨k1, k2, k3⟩ := k x hx hF
  exact ⟨k1, k2, fun X p l e R s m args below meth c hC k0 w0 h0 h1 h2 h3 h4 H locs ls hP hS hl => k3 X p l e R s m args below meth c hC k0 w0 h0 h1 h2 h3 h4 H locs ls hP hS ⟨hl.1, hl.2.1, fun i v hv => hl.2.2 i v (hL i v hv)⟩⟩
/-- a list of locals, by its places, as the kit's -/
def mm_sb : List (Option Value) → List (Option Value) → Bool
  | [], _ => true
  | none :: t, [] => mm_sb t []
  | none :: t, _ :: u => mm_sb t u
  | some _ :: _, [] => false
  | some _ :: t, _ :: u => mm_sb t u
def mm_ll (X : mm_X) : Nat → List (Option Value) → List (Nat × Value)
  | _, [] => []
  | i, none :: t => mm_ll X (i + 1) t
  | i, some v :: t => (i, mx_cv X v) :: mm_ll X (i + 1) t
theorem mm_ll_mem {X : mm_X} : ∀ (L : List (Option Value)) (i : Nat) (q : Nat × Value), q ∈ mm_ll X i L ↔ ∃ k v, L[k]? = some (some v) ∧ q = (i + k, mx_cv X v)
  | [], i, q => by simp [mm_ll]
  | none :: t, i, q => by
    rw [mm_ll, mm_ll_mem t (i + 1) q]
    constructor
    · rintro ⟨k, v, h1, rfl⟩
      exact ⟨k + 1, v, by rw [List.getElem?_cons_succ]; exact h1, by rw [show i + 1 + k = i + (k + 1) by omega]⟩
    · rintro ⟨k, v, h1, rfl⟩
      cases k with
      | zero => simp at h1
      | succ k => exact ⟨k, v, by rw [List.getElem?_cons_succ] at h1; exact h1, by rw [show i + 1 + k = i + (k + 1) by omega]⟩
  | some w :: t, i, q => by
    rw [mm_ll, List.mem_cons, mm_ll_mem t (i + 1) q]
    constructor
    · rintro (rfl | ⟨k, v, h1, rfl⟩)
      · exact ⟨0, w, by simp, rfl⟩
      · exact ⟨k + 1, v, by rw [List.getElem?_cons_succ]; exact h1, by rw [show i + 1 + k = i + (k + 1) by omega]⟩
    · rintro ⟨k, v, h1, rfl⟩
      cases k with
      | zero =>
        simp at h1
        subst h1
        exact Or.inl rfl
      | succ k => exact Or.inr ⟨k, v, by rw [List.getElem?_cons_succ] at h1; exact h1, by rw [show i + 1 + k = i + (k + 1) by omega]⟩
theorem mm_has {X : mm_X} {ls : Array Slot} {n : Nat} (hL : mm_LH X ls n L) : lv_has ls n (mm_ll X 0 L) := by
  refine ⟨hL.1, hL.2.1, fun q hq => ?_⟩
  obtain ⟨k, v, h1, rfl⟩ := (mm_ll_mem L 0 q).mp hq
  rw [Nat.zero_add]
  exact hL.2.2 k v h1
/-- a value of one slot stored -/
def mm_s1 (L : List (Option Value)) (i : Nat) (v : Value) : List (Option Value) := match i with
  | 0 => L.set 0 (some v)
  | k + 1 => match L[k]? with
    | some (some w) => if w.category = 2 then (L.set k none).set (k + 1) (some v) else L.set (k + 1) (some v)
    | _ => L.set (k + 1) (some v)
def mm_s2 (L : List (Option Value)) (i : Nat) (v : Value) : List (Option Value) := (mm_s1 L i v).set (i + 1) none
theorem mm_s1_in {i : Nat} {v : Value} (hi : i < L.length) (k : Nat) (w : Value) (hw : (mm_s1 L i v)[k]? = some (some w)) : (k = i ∧ w = v) ∨ (k ≠ i ∧ L[k]? = some (some w) ∧ ¬ (k + 1 = i ∧ w.category = 2)) := by
  have key : ∀ (L0 : List (Option Value)), L0.length = L.length → (L0.set i (some v))[k]? = some (some w) → (k = i ∧ w = v) ∨ (k ≠ i ∧ L0[k]? = some (some w)) := by
    intro L0 hl hw
    by_cases hk : k = i
    · subst hk
      rw [List.getElem?_set_self (by omega)] at hw
      cases hw
      exact Or.inl ⟨rfl, rfl⟩
    · rw [List.getElem?_set_ne (Ne.symm hk)] at hw
      exact Or.inr ⟨hk, hw⟩
  cases i with
  | zero =>
    rcases key L rfl hw with h | ⟨h1, h2⟩
    · exact Or.inl h
    · exact Or.inr ⟨h1, h2, fun z => by omega⟩
  | succ i =>
    unfold mm_s1 at hw
    dsimp only at hw
    split at hw
    · rename_i w0 h0
      split at hw
      · rename_i hc
        rcases key _ (by simp) hw with h | ⟨h1, h2⟩
        · exact Or.inl h
        · by_cases hk : k = i
          · subst hk
            rw [List.getElem?_set_self (by omega)] at h2
            cases h2
          · rw [List.getElem?_set_ne (Ne.symm hk)] at h2
            exact Or.inr ⟨h1, h2, fun z => hk (by omega)⟩
      · rename_i hc
        rcases key L rfl hw with h | ⟨h1, h2⟩
        · exact Or.inl h
        · refine Or.inr ⟨h1, h2, fun z => ?_⟩
          have hk : k = i := by omega
          subst hk
          rw [h0] at h2
          cases h2
          exact hc z.2
    · rename_i h0
      rcases key L rfl hw with h | ⟨h1, h2⟩
      · exact Or.inl h
      · refine Or.inr ⟨h1, h2, fun z => ?_⟩
        have hk : k = i := by omega
        subst hk
        exact h0 w h2
theorem mm_st1 {X : mm_X} {ls' : Array Slot} {n i : Nat} {v : Value} (hi : i < L.length) (h : lv_has ls' n ((i, mx_cv X v) :: (mm_ll X 0 L).filter (fun q => !(q.1 == i) && !(q.1 + 1 == i && q.2.category == 2)))) : mm_LH X ls' n (mm_s1 L i v) := by
  refine ⟨h.1, h.2.1, fun k w hw => ?_⟩
  rcases mm_s1_in hi k w hw with ⟨rfl, rfl⟩ | ⟨h1, h2, h3⟩
  · exact h.2.2 _ List.mem_cons_self
  · refine h.2.2 (k, mx_cv X w) (List.mem_cons_of_mem _ (List.mem_filter.mpr ⟨(mm_ll_mem L 0 _).mpr ⟨k, w, h2, by rw [Nat.zero_add]⟩, ?_⟩))
    simp only [Bool.and_eq_true, Bool.not_eq_true', beq_eq_false_iff_ne, ne_eq, Bool.and_eq_false_iff]
    refine ⟨h1, ?_⟩
    by_cases hk : k + 1 = i
    · exact Or.inr (fun z => h3 ⟨hk, by rw [← mx_cv_cat X w]; exact z⟩)
    · exact Or.inl hk
theorem mm_st2 {X : mm_X} {ls' : Array Slot} {n i : Nat} {v : Value} (hi : i + 1 < L.length) (h : lv_has ls' n ((i, mx_cv X v) :: (mm_ll X 0 L).filter (fun q => !(q.1 == i) && (!(q.1 == i + 1) && !(q.1 + 1 == i && q.2.category == 2))))) : mm_LH X ls' n (mm_s2 L i v) := by
  refine ⟨h.1, h.2.1, fun k w hw => ?_⟩
  have hlen : (mm_s1 L i v).length = L.length := by
    unfold mm_s1
    split
    · simp
    · split
      · split <;> simp
      · simp
  have hk1 : k ≠ i + 1 := by
    intro z
    subst z
    rw [mm_s2, List.getElem?_set_self (by omega)] at hw
    cases hw
  rw [mm_s2, List.getElem?_set_ne (Ne.symm hk1)] at hw
  rcases mm_s1_in (by omega) k w hw with ⟨rfl, rfl⟩ | ⟨h1, h2, h3⟩
  · exact h.2.2 _ List.mem_cons_self
  · refine h.2.2 (k, mx_cv X w) (List.mem_cons_of_mem _ (List.mem_filter.mpr ⟨(mm_ll_mem L 0 _).mpr ⟨k, w, h2, by rw [Nat.zero_add]⟩, ?_⟩))
    simp only [Bool.and_eq_true, Bool.not_eq_true', beq_eq_false_iff_ne, ne_eq, Bool.and_eq_false_iff]
    refine ⟨h1, hk1, ?_⟩
    by_cases hk : k + 1 = i
    · exact Or.inr (fun z => h3 ⟨hk, by rw [← mx_cv_cat X w]; exact z⟩)
    · exact Or.inl hk
/-- a step that changes locals alone -/
theorem mm_liftL {L' : List (Option Value)} {st' : List Value}
    (stp : ∀ (X : mm_X) (p : Program) (l : Launch) (e : Env) (R : Room) (s : State) (m : MethodId) (args : Array Value) (below : List Frame) (meth : Method) (c : Code) (H : Heap) (locs : List Loc) (ls : Array Slot) (cells slots : Nat) (Q : State → Prop), mm_CX M X p l R s m args meth c → mm_LH X ls (my_L M) L →
      (∀ ls', mm_LH X ls' (my_L M) L' → W p l e R s m args below meth c H locs cells slots Q (F0 m pc' ls' (st'.map (mx_cv X)))) → W p l e R s m args below meth c H locs cells slots Q (F0 m pc ls (st.map (mx_cv X))))
    (k : mm_E2 F G M pc' L' st' h o lf) : mm_E2 F G M pc L st h o lf := by
  intro x hx hF
  obtain ⟨k1, k2, k3⟩ := k x hx hF
  refine ⟨k1, k2, fun X p l e R s m args below meth c hC k0 w0 h0 h1 h2 h3 h4 H locs ls hP hS hL => ?_⟩
  exact stp X p l e R s m args below meth c H locs ls _ _ _ hC hL fun ls' hL' => k3 X p l e R s m args below meth c hC k0 w0 h0 h1 h2 h3 h4 H locs ls' hP hS hL'
def mx_bi (b : Bool) : Int32 := if b then 1 else 0
theorem me_iconst {n : Int} {v : Int32} (d : decode (my_b M) pc = .ok (.iconst n, 1)) (hp : pc + 1 = pc') (hv : Int32.ofInt n = v) (k : mm_E2 F G M pc' L (.int v :: st) h o lf) : mm_E2 F G M pc L (st) h o lf := by
  subst hp
  exact mm_lift (fun X p l e R s m args below meth c H locs ls cells slots Q hC hP hS hL hF _ _ kk => lv_iconst hC.2.1 hC.2.2.1 d hv kk) k
theorem me_bipush {n : Int} {v : Int32} (d : decode (my_b M) pc = .ok (.bipush n, 2)) (hp : pc + 2 = pc') (hv : (Int8.ofInt n).toInt32 = v) (k : mm_E2 F G M pc' L (.int v :: st) h o lf) : mm_E2 F G M pc L (st) h o lf := by
  subst hp
  exact mm_lift (fun X p l e R s m args below meth c H locs ls cells slots Q hC hP hS hL hF _ _ kk => lv_bipush hC.2.1 hC.2.2.1 d hv kk) k
theorem me_sipush {n : Int} {v : Int32} (d : decode (my_b M) pc = .ok (.sipush n, 3)) (hp : pc + 3 = pc') (hv : (Int16.ofInt n).toInt32 = v) (k : mm_E2 F G M pc' L (.int v :: st) h o lf) : mm_E2 F G M pc L (st) h o lf := by
  subst hp
  exact mm_lift (fun X p l e R s m args below meth c H locs ls cells slots Q hC hP hS hL hF _ _ kk => lv_sipush hC.2.1 hC.2.2.1 d hv kk) k
theorem me_lconst {n : Fin 2} {v : Int64} (d : decode (my_b M) pc = .ok (.lconst n, 1)) (hp : pc + 1 = pc') (hv : Int64.ofNat (n : Nat) = v) (k : mm_E2 F G M pc' L (.long v :: st) h o lf) : mm_E2 F G M pc L (st) h o lf := by
  subst hp
  exact mm_lift (fun X p l e R s m args below meth c H locs ls cells slots Q hC hP hS hL hF _ _ kk => lv_lconst hC.2.1 hC.2.2.1 d hv kk) k
theorem me_fconst0 (d : decode (my_b M) pc = .ok (.fconst 0, 1)) (hp : pc + 1 = pc') (k : mm_E2 F G M pc' L (.float FP.fconst0 :: st) h o lf) : mm_E2 F G M pc L (st) h o lf := by
  subst hp
  exact mm_lift (fun X p l e R s m args below meth c H locs ls cells slots Q hC hP hS hL hF _ _ kk => lv_fconst0 hC.2.1 hC.2.2.1 d  kk) k
theorem me_dconst0 (d : decode (my_b M) pc = .ok (.dconst 0, 1)) (hp : pc + 1 = pc') (k : mm_E2 F G M pc' L (.double FP.dconst0 :: st) h o lf) : mm_E2 F G M pc L (st) h o lf := by
  subst hp
  exact mm_lift (fun X p l e R s m args below meth c H locs ls cells slots Q hC hP hS hL hF _ _ kk => lv_dconst0 hC.2.1 hC.2.2.1 d  kk) k
theorem me_iadd {x y : Int32} (d : decode (my_b M) pc = .ok (.iadd, 1)) (hp : pc + 1 = pc') (k : mm_E2 F G M pc' L (.int (x + y) :: st) h o lf) : mm_E2 F G M pc L (.int y :: .int x :: st) h o lf := by
  subst hp
  exact mm_lift (fun X p l e R s m args below meth c H locs ls cells slots Q hC hP hS hL hF _ _ kk => lv_iadd hC.2.1 hC.2.2.1 d  kk) k
theorem me_isub {x y : Int32} (d : decode (my_b M) pc = .ok (.isub, 1)) (hp : pc + 1 = pc') (k : mm_E2 F G M pc' L (.int (x - y) :: st) h o lf) : mm_E2 F G M pc L (.int y :: .int x :: st) h o lf := by
  subst hp
  exact mm_lift (fun X p l e R s m args below meth c H locs ls cells slots Q hC hP hS hL hF _ _ kk => lv_isub hC.2.1 hC.2.2.1 d  kk) k
theorem me_imul {x y : Int32} (d : decode (my_b M) pc = .ok (.imul, 1)) (hp : pc + 1 = pc') (k : mm_E2 F G M pc' L (.int (x * y) :: st) h o lf) : mm_E2 F G M pc L (.int y :: .int x :: st) h o lf := by
  subst hp
  exact mm_lift (fun X p l e R s m args below meth c H locs ls cells slots Q hC hP hS hL hF _ _ kk => lv_imul hC.2.1 hC.2.2.1 d  kk) k
theorem me_iand {x y : Int32} (d : decode (my_b M) pc = .ok (.iand, 1)) (hp : pc + 1 = pc') (k : mm_E2 F G M pc' L (.int (x &&& y) :: st) h o lf) : mm_E2 F G M pc L (.int y :: .int x :: st) h o lf := by
  subst hp
  exact mm_lift (fun X p l e R s m args below meth c H locs ls cells slots Q hC hP hS hL hF _ _ kk => lv_iand hC.2.1 hC.2.2.1 d  kk) k
theorem me_ineg {x : Int32} (d : decode (my_b M) pc = .ok (.ineg, 1)) (hp : pc + 1 = pc') (k : mm_E2 F G M pc' L (.int (-x) :: st) h o lf) : mm_E2 F G M pc L (.int x :: st) h o lf := by
  subst hp
  exact mm_lift (fun X p l e R s m args below meth c H locs ls cells slots Q hC hP hS hL hF _ _ kk => lv_ineg hC.2.1 hC.2.2.1 d  kk) k
theorem me_idiv {x y : Int32} (d : decode (my_b M) pc = .ok (.idiv, 1)) (hp : pc + 1 = pc') (hne : ¬ y = 0) (k : mm_E2 F G M pc' L (.int (x / y) :: st) h o lf) : mm_E2 F G M pc L (.int y :: .int x :: st) h o lf := by
  subst hp
  exact mm_lift (fun X p l e R s m args below meth c H locs ls cells slots Q hC hP hS hL hF _ _ kk => lv_idiv hC.2.1 hC.2.2.1 d hne kk) k
theorem me_irem {x y : Int32} (d : decode (my_b M) pc = .ok (.irem, 1)) (hp : pc + 1 = pc') (hne : ¬ y = 0) (k : mm_E2 F G M pc' L (.int (x - x / y * y) :: st) h o lf) : mm_E2 F G M pc L (.int y :: .int x :: st) h o lf := by
  subst hp
  exact mm_lift (fun X p l e R s m args below meth c H locs ls cells slots Q hC hP hS hL hF _ _ kk => lv_irem hC.2.1 hC.2.2.1 d hne kk) k
theorem me_iushr {x y v : Int32} (d : decode (my_b M) pc = .ok (.iushr, 1)) (hp : pc + 1 = pc') (hv : (x.toUInt32 >>> (y.toUInt32 &&& Int32.toUInt32 31)).toInt32 = v) (k : mm_E2 F G M pc' L (.int v :: st) h o lf) : mm_E2 F G M pc L (.int y :: .int x :: st) h o lf := by
  subst hp
  exact mm_lift (fun X p l e R s m args below meth c H locs ls cells slots Q hC hP hS hL hF _ _ kk => lv_iushr hC.2.1 hC.2.2.1 d hv kk) k
theorem me_i2l {x : Int32} (d : decode (my_b M) pc = .ok (.i2l, 1)) (hp : pc + 1 = pc') (k : mm_E2 F G M pc' L (.long (x.toInt64) :: st) h o lf) : mm_E2 F G M pc L (.int x :: st) h o lf := by
  subst hp
  exact mm_lift (fun X p l e R s m args below meth c H locs ls cells slots Q hC hP hS hL hF _ _ kk => lv_i2l hC.2.1 hC.2.2.1 d rfl kk) k
theorem me_i2b {x : Int32} (d : decode (my_b M) pc = .ok (.i2b, 1)) (hp : pc + 1 = pc') (k : mm_E2 F G M pc' L (.int (x.toInt8.toInt32) :: st) h o lf) : mm_E2 F G M pc L (.int x :: st) h o lf := by
  subst hp
  exact mm_lift (fun X p l e R s m args below meth c H locs ls cells slots Q hC hP hS hL hF _ _ kk => lv_i2b hC.2.1 hC.2.2.1 d rfl kk) k
theorem me_i2f {x : Int32} (d : decode (my_b M) pc = .ok (.i2f, 1)) (hp : pc + 1 = pc') (k : mm_E2 F G M pc' L (.float (FP.i2f x) :: st) h o lf) : mm_E2 F G M pc L (.int x :: st) h o lf := by
  subst hp
  exact mm_lift (fun X p l e R s m args below meth c H locs ls cells slots Q hC hP hS hL hF _ _ kk => lv_i2f hC.2.1 hC.2.2.1 d  kk) k
theorem me_i2d {x : Int32} (d : decode (my_b M) pc = .ok (.i2d, 1)) (hp : pc + 1 = pc') (k : mm_E2 F G M pc' L (.double (FP.i2d x) :: st) h o lf) : mm_E2 F G M pc L (.int x :: st) h o lf := by
  subst hp
  exact mm_lift (fun X p l e R s m args below meth c H locs ls cells slots Q hC hP hS hL hF _ _ kk => lv_i2d hC.2.1 hC.2.2.1 d  kk) k
theorem me_f2d {x : UInt32} (d : decode (my_b M) pc = .ok (.f2d, 1)) (hp : pc + 1 = pc') (hne : vf_n64 (FP.f2d x)) (k : mm_E2 F G M pc' L (.double (FP.f2d x) :: st) h o lf) : mm_E2 F G M pc L (.float x :: st) h o lf := by
  subst hp
  exact mm_lift (fun X p l e R s m args below meth c H locs ls cells slots Q hC hP hS hL hF _ _ kk => lv_f2d hC.2.1 hC.2.2.1 d hne kk) k
theorem me_fdiv {x y : UInt32} (d : decode (my_b M) pc = .ok (.fdiv, 1)) (hp : pc + 1 = pc') (hne : vf_n32 (FP.fdiv x y)) (k : mm_E2 F G M pc' L (.float (FP.fdiv x y) :: st) h o lf) : mm_E2 F G M pc L (.float y :: .float x :: st) h o lf := by
  subst hp
  exact mm_lift (fun X p l e R s m args below meth c H locs ls cells slots Q hC hP hS hL hF _ _ kk => lv_fdiv hC.2.1 hC.2.2.1 d hne kk) k
theorem me_ddiv {x y : UInt64} (d : decode (my_b M) pc = .ok (.ddiv, 1)) (hp : pc + 1 = pc') (hne : vf_n64 (FP.ddiv x y)) (k : mm_E2 F G M pc' L (.double (FP.ddiv x y) :: st) h o lf) : mm_E2 F G M pc L (.double y :: .double x :: st) h o lf := by
  subst hp
  exact mm_lift (fun X p l e R s m args below meth c H locs ls cells slots Q hC hP hS hL hF _ _ kk => lv_ddiv hC.2.1 hC.2.2.1 d hne kk) k
theorem me_fcmp {x y : UInt32} {op : CmpOp} (d : decode (my_b M) pc = .ok (.fcmp op, 1)) (hp : pc + 1 = pc') (k : mm_E2 F G M pc' L (.int (Op.cmpValue (FP.fcmp x y) op) :: st) h o lf) : mm_E2 F G M pc L (.float y :: .float x :: st) h o lf := by
  subst hp
  exact mm_lift (fun X p l e R s m args below meth c H locs ls cells slots Q hC hP hS hL hF _ _ kk => lv_fcmp hC.2.1 hC.2.2.1 d  kk) k
theorem me_dcmp {x y : UInt64} {op : CmpOp} (d : decode (my_b M) pc = .ok (.dcmp op, 1)) (hp : pc + 1 = pc') (k : mm_E2 F G M pc' L (.int (Op.cmpValue (FP.dcmp x y) op) :: st) h o lf) : mm_E2 F G M pc L (.double y :: .double x :: st) h o lf := by
  subst hp
  exact mm_lift (fun X p l e R s m args below meth c H locs ls cells slots Q hC hP hS hL hF _ _ kk => lv_dcmp hC.2.1 hC.2.2.1 d  kk) k
theorem me_lcmp {x y : Int64} (d : decode (my_b M) pc = .ok (.lcmp, 1)) (hp : pc + 1 = pc') (k : mm_E2 F G M pc' L (.int (lg_cmp x y) :: st) h o lf) : mm_E2 F G M pc L (.long y :: .long x :: st) h o lf := by
  subst hp
  exact mm_lift (fun X p l e R s m args below meth c H locs ls cells slots Q hC hP hS hL hF _ _ kk => W.lcmp hC.2.1 hC.2.2.1 d kk) k
theorem me_dup {v : Value} (d : decode (my_b M) pc = .ok (.dup, 1)) (hp : pc + 1 = pc') (hv : v.category = 1) (k : mm_E2 F G M pc' L (v :: v :: st) h o lf) : mm_E2 F G M pc L (v :: st) h o lf := by
  subst hp
  exact mm_lift (fun X p l e R s m args below meth c H locs ls cells slots Q hC hP hS hL hF _ _ kk => lv_dup hC.2.1 hC.2.2.1 d (by rw [mx_cv_cat]; exact hv) kk) k
theorem me_dup2 {v w : Value} (d : decode (my_b M) pc = .ok (.dup2, 1)) (hp : pc + 1 = pc') (hv : v.category = 1) (hw : w.category = 1) (k : mm_E2 F G M pc' L (v :: w :: v :: w :: st) h o lf) : mm_E2 F G M pc L (v :: w :: st) h o lf := by
  subst hp
  exact mm_lift (fun X p l e R s m args below meth c H locs ls cells slots Q hC hP hS hL hF _ _ kk => lv_dup2_11 hC.2.1 hC.2.2.1 d (by rw [mx_cv_cat]; exact hv) (by rw [mx_cv_cat]; exact hw) kk) k
theorem me_pop {v : Value} (d : decode (my_b M) pc = .ok (.pop, 1)) (hp : pc + 1 = pc') (hv : v.category = 1) (k : mm_E2 F G M pc' L st h o lf) : mm_E2 F G M pc L (v :: st) h o lf := by
  subst hp
  exact mm_lift (fun X p l e R s m args below meth c H locs ls cells slots Q hC hP hS hL hF _ _ kk => lv_pop hC.2.1 hC.2.2.1 d (by rw [mx_cv_cat]; exact hv) kk) k
theorem me_goto {off : Int} {tgt : Nat} (d : decode (my_b M) pc = .ok (.goto off, 3)) (ht : (pc : Int) + off = (tgt : Int)) (k : mm_E2 F G M tgt L st h o lf) : mm_E2 F G M pc L st h o lf :=
  mm_lift (fun X p l e R s m args below meth c H locs ls cells slots Q hC hP hS hL hF _ _ kk => lv_goto hC.2.1 hC.2.2.1 d ht kk) k
theorem me_iload {i : Nat} {x : Int32} (d : decode (my_b M) pc = .ok (.iload i, 2)) (hp : pc + 2 = pc') (hl : L[i]? = some (some (.int x))) (k : mm_E2 F G M pc' L (.int x :: st) h o lf) : mm_E2 F G M pc L st h o lf := by
  subst hp
  exact mm_lift (fun X p l e R s m args below meth c H locs ls cells slots Q hC hP hS hL hF _ _ kk => lv_iload hC.2.1 hC.2.2.1 d (hL.2.2 i _ hl) kk) k
theorem me_iload_n {j : Fin 4} {i : Nat} {x : Int32} (d : decode (my_b M) pc = .ok (.iload_n j, 1)) (hp : pc + 1 = pc') (hi : (j : Nat) = i) (hl : L[i]? = some (some (.int x))) (k : mm_E2 F G M pc' L (.int x :: st) h o lf) : mm_E2 F G M pc L st h o lf := by
  subst hp
  exact mm_lift (fun X p l e R s m args below meth c H locs ls cells slots Q hC hP hS hL hF _ _ kk => lv_iload_n hC.2.1 hC.2.2.1 d hi (hL.2.2 i _ hl) kk) k
theorem me_aload {i : Nat} {x : Nat} (d : decode (my_b M) pc = .ok (.aload i, 2)) (hp : pc + 2 = pc') (hl : L[i]? = some (some (.ref x))) (k : mm_E2 F G M pc' L (.ref x :: st) h o lf) : mm_E2 F G M pc L st h o lf := by
  subst hp
  exact mm_lift (fun X p l e R s m args below meth c H locs ls cells slots Q hC hP hS hL hF _ _ kk => lv_aload hC.2.1 hC.2.2.1 d (hL.2.2 i _ hl) kk) k
theorem me_aload_n {j : Fin 4} {i : Nat} {x : Nat} (d : decode (my_b M) pc = .ok (.aload_n j, 1)) (hp : pc + 1 = pc') (hi : (j : Nat) = i) (hl : L[i]? = some (some (.ref x))) (k : mm_E2 F G M pc' L (.ref x :: st) h o lf) : mm_E2 F G M pc L st h o lf := by
  subst hp
  exact mm_lift (fun X p l e R s m args below meth c H locs ls cells slots Q hC hP hS hL hF _ _ kk => lv_aload_n hC.2.1 hC.2.2.1 d hi (hL.2.2 i _ hl) kk) k
theorem me_fload {i : Nat} {x : UInt32} (d : decode (my_b M) pc = .ok (.fload i, 2)) (hp : pc + 2 = pc') (hl : L[i]? = some (some (.float x))) (k : mm_E2 F G M pc' L (.float x :: st) h o lf) : mm_E2 F G M pc L st h o lf := by
  subst hp
  exact mm_lift (fun X p l e R s m args below meth c H locs ls cells slots Q hC hP hS hL hF _ _ kk => lv_fload hC.2.1 hC.2.2.1 d (hL.2.2 i _ hl) kk) k
theorem me_dload {i : Nat} {x : UInt64} (d : decode (my_b M) pc = .ok (.dload i, 2)) (hp : pc + 2 = pc') (hl : L[i]? = some (some (.double x))) (k : mm_E2 F G M pc' L (.double x :: st) h o lf) : mm_E2 F G M pc L st h o lf := by
  subst hp
  exact mm_lift (fun X p l e R s m args below meth c H locs ls cells slots Q hC hP hS hL hF _ _ kk => lv_dload hC.2.1 hC.2.2.1 d (hL.2.2 i _ hl) kk) k
theorem me_istore {i : Nat} {x : Int32} {L' : List (Option Value)} (d : decode (my_b M) pc = .ok (.istore i, 2)) (hp : pc + 2 = pc') (hi : i < my_L M) (hj : i < L.length) (hl : mm_s1 L i (.int x) = L') (k : mm_E2 F G M pc' L' st h o lf) : mm_E2 F G M pc L (.int x :: st) h o lf := by
  subst hp
  subst hl
  exact mm_liftL (fun X p l e R s m args below meth c H locs ls cells slots Q hC hL kk => lv_istore hC.2.1 hC.2.2.1 d (mm_has hL) hi rfl (fun ls' h9 => kk ls' (mm_st1 (v := .int x) hj h9))) k
theorem me_istore_n {j : Fin 4} {i : Nat} {x : Int32} {L' : List (Option Value)} (d : decode (my_b M) pc = .ok (.istore_n j, 1)) (hp : pc + 1 = pc') (hij : (j : Nat) = i) (hi : i < my_L M) (hj : i < L.length) (hl : mm_s1 L i (.int x) = L') (k : mm_E2 F G M pc' L' st h o lf) : mm_E2 F G M pc L (.int x :: st) h o lf := by
  subst hp
  subst hl
  exact mm_liftL (fun X p l e R s m args below meth c H locs ls cells slots Q hC hL kk => lv_istore_n hC.2.1 hC.2.2.1 d hij (mm_has hL) hi rfl (fun ls' h9 => kk ls' (mm_st1 (v := .int x) hj h9))) k
theorem me_astore {i : Nat} {x : Nat} {L' : List (Option Value)} (d : decode (my_b M) pc = .ok (.astore i, 2)) (hp : pc + 2 = pc') (hi : i < my_L M) (hj : i < L.length) (hl : mm_s1 L i (.ref x) = L') (k : mm_E2 F G M pc' L' st h o lf) : mm_E2 F G M pc L (.ref x :: st) h o lf := by
  subst hp
  subst hl
  exact mm_liftL (fun X p l e R s m args below meth c H locs ls cells slots Q hC hL kk => lv_astore hC.2.1 hC.2.2.1 d (mm_has hL) hi rfl (fun ls' h9 => kk ls' (mm_st1 (v := .ref x) hj h9))) k
theorem me_astore_n {j : Fin 4} {i : Nat} {x : Nat} {L' : List (Option Value)} (d : decode (my_b M) pc = .ok (.astore_n j, 1)) (hp : pc + 1 = pc') (hij : (j : Nat) = i) (hi : i < my_L M) (hj : i < L.length) (hl : mm_s1 L i (.ref x) = L') (k : mm_E2 F G M pc' L' st h o lf) : mm_E2 F G M pc L (.ref x :: st) h o lf := by
  subst hp
  subst hl
  exact mm_liftL (fun X p l e R s m args below meth c H locs ls cells slots Q hC hL kk => lv_astore_n hC.2.1 hC.2.2.1 d hij (mm_has hL) hi rfl (fun ls' h9 => kk ls' (mm_st1 (v := .ref x) hj h9))) k
theorem me_fstore {i : Nat} {x : UInt32} {L' : List (Option Value)} (d : decode (my_b M) pc = .ok (.fstore i, 2)) (hp : pc + 2 = pc') (hi : i < my_L M) (hj : i < L.length) (hl : mm_s1 L i (.float x) = L') (k : mm_E2 F G M pc' L' st h o lf) : mm_E2 F G M pc L (.float x :: st) h o lf := by
  subst hp
  subst hl
  exact mm_liftL (fun X p l e R s m args below meth c H locs ls cells slots Q hC hL kk => lv_fstore hC.2.1 hC.2.2.1 d (mm_has hL) hi rfl (fun ls' h9 => kk ls' (mm_st1 (v := .float x) hj h9))) k
theorem me_dstore {i : Nat} {x : UInt64} {L' : List (Option Value)} (d : decode (my_b M) pc = .ok (.dstore i, 2)) (hp : pc + 2 = pc') (hi : i + 1 < my_L M) (hj : i + 1 < L.length) (hl : mm_s2 L i (.double x) = L') (k : mm_E2 F G M pc' L' st h o lf) : mm_E2 F G M pc L (.double x :: st) h o lf := by
  subst hp
  subst hl
  exact mm_liftL (fun X p l e R s m args below meth c H locs ls cells slots Q hC hL kk => lv_dstore hC.2.1 hC.2.2.1 d (mm_has hL) hi rfl (fun ls' h9 => kk ls' (mm_st2 (v := .double x) hj h9))) k
theorem me_iinc {i : Nat} {n : Int} {x y : Int32} {L' : List (Option Value)} (d : decode (my_b M) pc = .ok (.iinc i n, 3)) (hp : pc + 3 = pc') (hi : i < my_L M) (hj : i < L.length) (hx : L[i]? = some (some (.int x))) (hy : x + Int32.ofInt n = y) (hl : mm_s1 L i (.int y) = L') (k : mm_E2 F G M pc' L' st h o lf) : mm_E2 F G M pc L st h o lf := by
  subst hp
  subst hl
  refine mm_liftL (fun X p l e R s m args below meth c H locs ls cells slots Q hC hL kk => ?_) k
  obtain ⟨kq, hq⟩ := List.getElem?_of_mem ((mm_ll_mem (X := X) L 0 (i, .int x)).mpr ⟨i, .int x, hx, by rw [Nat.zero_add]; rfl⟩)
  exact lv_iinc hC.2.1 hC.2.2.1 d (mm_has hL) hq hy hi rfl (fun ls' h9 => kk ls' (mm_st1 (v := .int y) hj h9))
theorem me_if_eq {x : Int32} {off : Int} {tgt : Nat} {oT oF : Option τ} (d : decode (my_b M) pc = .ok (.ifCond .eq off, 3)) (ht : (pc : Int) + off = (tgt : Int)) (hp : pc + 3 = pc') (kt : x = 0 → mm_E2 F G M tgt L st h oT lf) (kf : ¬ x = 0 → mm_E2 F G M pc' L st h oF lf) : mm_E2 F G M pc L (.int x :: st) h (if x = 0 then oT else oF) lf := by
  subst hp
  by_cases hc : x = 0
  · rw [if_pos hc]
    exact mm_lift (fun X p l e R s m args below meth c H locs ls cells slots Q hC hP hS hL hF _ _ kk => lv_if_eq hC.2.1 hC.2.2.1 d ht (fun hz => kk) (fun hz => (absurd hc (hz)))) (kt hc)
  · rw [if_neg hc]
    exact mm_lift (fun X p l e R s m args below meth c H locs ls cells slots Q hC hP hS hL hF _ _ kk => lv_if_eq hC.2.1 hC.2.2.1 d ht (fun hz => (absurd (hz) hc)) (fun hz => kk)) (kf hc)
theorem me_if_ne {x : Int32} {off : Int} {tgt : Nat} {oT oF : Option τ} (d : decode (my_b M) pc = .ok (.ifCond .ne off, 3)) (ht : (pc : Int) + off = (tgt : Int)) (hp : pc + 3 = pc') (kt : ¬ x = 0 → mm_E2 F G M tgt L st h oT lf) (kf : x = 0 → mm_E2 F G M pc' L st h oF lf) : mm_E2 F G M pc L (.int x :: st) h (if x = 0 then oF else oT) lf := by
  subst hp
  by_cases hc : x = 0
  · rw [if_pos hc]
    exact mm_lift (fun X p l e R s m args below meth c H locs ls cells slots Q hC hP hS hL hF _ _ kk => lv_if_ne hC.2.1 hC.2.2.1 d ht (fun hz => (absurd hc (hz))) (fun hz => kk)) (kf hc)
  · rw [if_neg hc]
    exact mm_lift (fun X p l e R s m args below meth c H locs ls cells slots Q hC hP hS hL hF _ _ kk => lv_if_ne hC.2.1 hC.2.2.1 d ht (fun hz => kk) (fun hz => (absurd (by simpa using hz) hc))) (kt hc)
theorem me_if_lt {x : Int32} {off : Int} {tgt : Nat} {oT oF : Option τ} (d : decode (my_b M) pc = .ok (.ifCond .lt off, 3)) (ht : (pc : Int) + off = (tgt : Int)) (hp : pc + 3 = pc') (kt : x < 0 → mm_E2 F G M tgt L st h oT lf) (kf : ¬ x < 0 → mm_E2 F G M pc' L st h oF lf) : mm_E2 F G M pc L (.int x :: st) h (if x < 0 then oT else oF) lf := by
  subst hp
  by_cases hc : x < 0
  · rw [if_pos hc]
    exact mm_lift (fun X p l e R s m args below meth c H locs ls cells slots Q hC hP hS hL hF _ _ kk => lv_if_lt hC.2.1 hC.2.2.1 d ht (fun hz => kk) (fun hz => (absurd hc (hz)))) (kt hc)
  · rw [if_neg hc]
    exact mm_lift (fun X p l e R s m args below meth c H locs ls cells slots Q hC hP hS hL hF _ _ kk => lv_if_lt hC.2.1 hC.2.2.1 d ht (fun hz => (absurd (hz) hc)) (fun hz => kk)) (kf hc)
theorem me_if_ge {x : Int32} {off : Int} {tgt : Nat} {oT oF : Option τ} (d : decode (my_b M) pc = .ok (.ifCond .ge off, 3)) (ht : (pc : Int) + off = (tgt : Int)) (hp : pc + 3 = pc') (kt : ¬ x < 0 → mm_E2 F G M tgt L st h oT lf) (kf : x < 0 → mm_E2 F G M pc' L st h oF lf) : mm_E2 F G M pc L (.int x :: st) h (if x < 0 then oF else oT) lf := by
  subst hp
  by_cases hc : x < 0
  · rw [if_pos hc]
    exact mm_lift (fun X p l e R s m args below meth c H locs ls cells slots Q hC hP hS hL hF _ _ kk => lv_if_ge hC.2.1 hC.2.2.1 d ht (fun hz => (absurd hc (Int32.not_lt.mpr hz))) (fun hz => kk)) (kf hc)
  · rw [if_neg hc]
    exact mm_lift (fun X p l e R s m args below meth c H locs ls cells slots Q hC hP hS hL hF _ _ kk => lv_if_ge hC.2.1 hC.2.2.1 d ht (fun hz => kk) (fun hz => (absurd (Int32.not_le.mp hz) hc))) (kt hc)
theorem me_if_gt {x : Int32} {off : Int} {tgt : Nat} {oT oF : Option τ} (d : decode (my_b M) pc = .ok (.ifCond .gt off, 3)) (ht : (pc : Int) + off = (tgt : Int)) (hp : pc + 3 = pc') (kt : 0 < x → mm_E2 F G M tgt L st h oT lf) (kf : ¬ 0 < x → mm_E2 F G M pc' L st h oF lf) : mm_E2 F G M pc L (.int x :: st) h (if 0 < x then oT else oF) lf := by
  subst hp
  by_cases hc : 0 < x
  · rw [if_pos hc]
    exact mm_lift (fun X p l e R s m args below meth c H locs ls cells slots Q hC hP hS hL hF _ _ kk => lv_if_gt hC.2.1 hC.2.2.1 d ht (fun hz => kk) (fun hz => (absurd hc (hz)))) (kt hc)
  · rw [if_neg hc]
    exact mm_lift (fun X p l e R s m args below meth c H locs ls cells slots Q hC hP hS hL hF _ _ kk => lv_if_gt hC.2.1 hC.2.2.1 d ht (fun hz => (absurd (hz) hc)) (fun hz => kk)) (kf hc)
theorem me_if_le {x : Int32} {off : Int} {tgt : Nat} {oT oF : Option τ} (d : decode (my_b M) pc = .ok (.ifCond .le off, 3)) (ht : (pc : Int) + off = (tgt : Int)) (hp : pc + 3 = pc') (kt : ¬ 0 < x → mm_E2 F G M tgt L st h oT lf) (kf : 0 < x → mm_E2 F G M pc' L st h oF lf) : mm_E2 F G M pc L (.int x :: st) h (if 0 < x then oF else oT) lf := by
  subst hp
  by_cases hc : 0 < x
  · rw [if_pos hc]
    exact mm_lift (fun X p l e R s m args below meth c H locs ls cells slots Q hC hP hS hL hF _ _ kk => lv_if_le hC.2.1 hC.2.2.1 d ht (fun hz => (absurd hc (Int32.not_lt.mpr hz))) (fun hz => kk)) (kf hc)
  · rw [if_neg hc]
    exact mm_lift (fun X p l e R s m args below meth c H locs ls cells slots Q hC hP hS hL hF _ _ kk => lv_if_le hC.2.1 hC.2.2.1 d ht (fun hz => kk) (fun hz => (absurd (Int32.not_le.mp hz) hc))) (kt hc)
theorem me_icmp_eq {x y : Int32} {off : Int} {tgt : Nat} {oT oF : Option τ} (d : decode (my_b M) pc = .ok (.if_icmp .eq off, 3)) (ht : (pc : Int) + off = (tgt : Int)) (hp : pc + 3 = pc') (kt : x = y → mm_E2 F G M tgt L st h oT lf) (kf : ¬ x = y → mm_E2 F G M pc' L st h oF lf) : mm_E2 F G M pc L (.int y :: .int x :: st) h (if x = y then oT else oF) lf := by
  subst hp
  by_cases hc : x = y
  · rw [if_pos hc]
    exact mm_lift (fun X p l e R s m args below meth c H locs ls cells slots Q hC hP hS hL hF _ _ kk => lv_icmp_eq hC.2.1 hC.2.2.1 d ht (fun hz => kk) (fun hz => (absurd hc (hz)))) (kt hc)
  · rw [if_neg hc]
    exact mm_lift (fun X p l e R s m args below meth c H locs ls cells slots Q hC hP hS hL hF _ _ kk => lv_icmp_eq hC.2.1 hC.2.2.1 d ht (fun hz => (absurd (hz) hc)) (fun hz => kk)) (kf hc)
theorem me_icmp_ne {x y : Int32} {off : Int} {tgt : Nat} {oT oF : Option τ} (d : decode (my_b M) pc = .ok (.if_icmp .ne off, 3)) (ht : (pc : Int) + off = (tgt : Int)) (hp : pc + 3 = pc') (kt : ¬ x = y → mm_E2 F G M tgt L st h oT lf) (kf : x = y → mm_E2 F G M pc' L st h oF lf) : mm_E2 F G M pc L (.int y :: .int x :: st) h (if x = y then oF else oT) lf := by
  subst hp
  by_cases hc : x = y
  · rw [if_pos hc]
    exact mm_lift (fun X p l e R s m args below meth c H locs ls cells slots Q hC hP hS hL hF _ _ kk => lv_icmp_ne hC.2.1 hC.2.2.1 d ht (fun hz => (absurd hc (hz))) (fun hz => kk)) (kf hc)
  · rw [if_neg hc]
    exact mm_lift (fun X p l e R s m args below meth c H locs ls cells slots Q hC hP hS hL hF _ _ kk => lv_icmp_ne hC.2.1 hC.2.2.1 d ht (fun hz => kk) (fun hz => (absurd (by simpa using hz) hc))) (kt hc)
theorem me_icmp_lt {x y : Int32} {off : Int} {tgt : Nat} {oT oF : Option τ} (d : decode (my_b M) pc = .ok (.if_icmp .lt off, 3)) (ht : (pc : Int) + off = (tgt : Int)) (hp : pc + 3 = pc') (kt : x < y → mm_E2 F G M tgt L st h oT lf) (kf : ¬ x < y → mm_E2 F G M pc' L st h oF lf) : mm_E2 F G M pc L (.int y :: .int x :: st) h (if x < y then oT else oF) lf := by
  subst hp
  by_cases hc : x < y
  · rw [if_pos hc]
    exact mm_lift (fun X p l e R s m args below meth c H locs ls cells slots Q hC hP hS hL hF _ _ kk => lv_icmp_lt hC.2.1 hC.2.2.1 d ht (fun hz => kk) (fun hz => (absurd hc (hz)))) (kt hc)
  · rw [if_neg hc]
    exact mm_lift (fun X p l e R s m args below meth c H locs ls cells slots Q hC hP hS hL hF _ _ kk => lv_icmp_lt hC.2.1 hC.2.2.1 d ht (fun hz => (absurd (hz) hc)) (fun hz => kk)) (kf hc)
theorem me_icmp_ge {x y : Int32} {off : Int} {tgt : Nat} {oT oF : Option τ} (d : decode (my_b M) pc = .ok (.if_icmp .ge off, 3)) (ht : (pc : Int) + off = (tgt : Int)) (hp : pc + 3 = pc') (kt : ¬ x < y → mm_E2 F G M tgt L st h oT lf) (kf : x < y → mm_E2 F G M pc' L st h oF lf) : mm_E2 F G M pc L (.int y :: .int x :: st) h (if x < y then oF else oT) lf := by
  subst hp
  by_cases hc : x < y
  · rw [if_pos hc]
    exact mm_lift (fun X p l e R s m args below meth c H locs ls cells slots Q hC hP hS hL hF _ _ kk => lv_icmp_ge hC.2.1 hC.2.2.1 d ht (fun hz => (absurd hc (Int32.not_lt.mpr hz))) (fun hz => kk)) (kf hc)
  · rw [if_neg hc]
    exact mm_lift (fun X p l e R s m args below meth c H locs ls cells slots Q hC hP hS hL hF _ _ kk => lv_icmp_ge hC.2.1 hC.2.2.1 d ht (fun hz => kk) (fun hz => (absurd (Int32.not_le.mp hz) hc))) (kt hc)
theorem me_icmp_gt {x y : Int32} {off : Int} {tgt : Nat} {oT oF : Option τ} (d : decode (my_b M) pc = .ok (.if_icmp .gt off, 3)) (ht : (pc : Int) + off = (tgt : Int)) (hp : pc + 3 = pc') (kt : y < x → mm_E2 F G M tgt L st h oT lf) (kf : ¬ y < x → mm_E2 F G M pc' L st h oF lf) : mm_E2 F G M pc L (.int y :: .int x :: st) h (if y < x then oT else oF) lf := by
  subst hp
  by_cases hc : y < x
  · rw [if_pos hc]
    exact mm_lift (fun X p l e R s m args below meth c H locs ls cells slots Q hC hP hS hL hF _ _ kk => lv_icmp_gt hC.2.1 hC.2.2.1 d ht (fun hz => kk) (fun hz => (absurd hc (hz)))) (kt hc)
  · rw [if_neg hc]
    exact mm_lift (fun X p l e R s m args below meth c H locs ls cells slots Q hC hP hS hL hF _ _ kk => lv_icmp_gt hC.2.1 hC.2.2.1 d ht (fun hz => (absurd (hz) hc)) (fun hz => kk)) (kf hc)
theorem me_icmp_le {x y : Int32} {off : Int} {tgt : Nat} {oT oF : Option τ} (d : decode (my_b M) pc = .ok (.if_icmp .le off, 3)) (ht : (pc : Int) + off = (tgt : Int)) (hp : pc + 3 = pc') (kt : ¬ y < x → mm_E2 F G M tgt L st h oT lf) (kf : y < x → mm_E2 F G M pc' L st h oF lf) : mm_E2 F G M pc L (.int y :: .int x :: st) h (if y < x then oF else oT) lf := by
  subst hp
  by_cases hc : y < x
  · rw [if_pos hc]
    exact mm_lift (fun X p l e R s m args below meth c H locs ls cells slots Q hC hP hS hL hF _ _ kk => lv_icmp_le hC.2.1 hC.2.2.1 d ht (fun hz => (absurd hc (Int32.not_lt.mpr hz))) (fun hz => kk)) (kf hc)
  · rw [if_neg hc]
    exact mm_lift (fun X p l e R s m args below meth c H locs ls cells slots Q hC hP hS hL hF _ _ kk => lv_icmp_le hC.2.1 hC.2.2.1 d ht (fun hz => kk) (fun hz => (absurd (Int32.not_le.mp hz) hc))) (kt hc)
theorem me_ifB_eq {b : Bool} {off : Int} {tgt : Nat} {oT oF : Option τ} (d : decode (my_b M) pc = .ok (.ifCond .eq off, 3)) (ht : (pc : Int) + off = (tgt : Int)) (hp : pc + 3 = pc') (kt : ¬ b = true → mm_E2 F G M tgt L st h oT lf) (kf : b = true → mm_E2 F G M pc' L st h oF lf) : mm_E2 F G M pc L (.int (mx_bi b) :: st) h (if b = true then oF else oT) lf := by
  subst hp
  cases b with
  | true => exact mm_lift (fun X p l e R s m args below meth c H locs ls cells slots Q hC hP hS hL hF _ _ kk => lv_if_eq hC.2.1 hC.2.2.1 d ht (fun hz => absurd hz (by decide)) (fun hz => kk)) (kf rfl)
  | false => exact mm_lift (fun X p l e R s m args below meth c H locs ls cells slots Q hC hP hS hL hF _ _ kk => lv_if_eq hC.2.1 hC.2.2.1 d ht (fun hz => kk) (fun hz => absurd rfl hz)) (kt (by decide))
theorem me_ifB_ne {b : Bool} {off : Int} {tgt : Nat} {oT oF : Option τ} (d : decode (my_b M) pc = .ok (.ifCond .ne off, 3)) (ht : (pc : Int) + off = (tgt : Int)) (hp : pc + 3 = pc') (kt : b = true → mm_E2 F G M tgt L st h oT lf) (kf : ¬ b = true → mm_E2 F G M pc' L st h oF lf) : mm_E2 F G M pc L (.int (mx_bi b) :: st) h (if b = true then oT else oF) lf := by
  subst hp
  cases b with
  | true => exact mm_lift (fun X p l e R s m args below meth c H locs ls cells slots Q hC hP hS hL hF _ _ kk => lv_if_ne hC.2.1 hC.2.2.1 d ht (fun hz => kk) (fun hz => absurd hz (by decide))) (kt rfl)
  | false => exact mm_lift (fun X p l e R s m args below meth c H locs ls cells slots Q hC hP hS hL hF _ _ kk => lv_if_ne hC.2.1 hC.2.2.1 d ht (fun hz => absurd rfl hz) (fun hz => kk)) (kf (by decide))
theorem me_tableIn {dflt lo hi : Int} {offs : Array Int} {len : Nat} {x : Int32} {off : Int} {tgt : Nat} (d : decode (my_b M) pc = .ok (.tableswitch dflt lo hi offs, len)) (h1 : ¬ x.toInt < lo) (h2 : ¬ hi < x.toInt) (ho : offs[(x.toInt - lo).toNat]? = some off) (ht : (pc : Int) + off = (tgt : Int)) (k : mm_E2 F G M tgt L st h o lf) : mm_E2 F G M pc L (.int x :: st) h o lf :=
  mm_lift (fun X p l e R s m args below meth c H locs ls cells slots Q hC hP hS hL hF _ _ kk => lv_tableIn hC.2.1 hC.2.2.1 d h1 h2 ho ht kk) k
theorem me_tableOut {dflt lo hi : Int} {offs : Array Int} {len : Nat} {x : Int32} {tgt : Nat} (d : decode (my_b M) pc = .ok (.tableswitch dflt lo hi offs, len)) (h1 : x.toInt < lo ∨ hi < x.toInt) (ht : (pc : Int) + dflt = (tgt : Int)) (k : mm_E2 F G M tgt L st h o lf) : mm_E2 F G M pc L (.int x :: st) h o lf :=
  mm_lift (fun X p l e R s m args below meth c H locs ls cells slots Q hC hP hS hL hF _ _ kk => lv_tableOut hC.2.1 hC.2.2.1 d h1 ht kk) k
theorem me_ifnull {x : Nat} {off : Int} (d : decode (my_b M) pc = .ok (.ifnull off, 3)) (hp : pc + 3 = pc') (k : mm_E2 F G M pc' L st h o lf) : mm_E2 F G M pc L (.ref x :: st) h o lf := by
  subst hp
  exact mm_lift (fun X p l e R s m args below meth c H locs ls cells slots Q hC hP hS hL hF _ _ kk => lv_ifnull hC.2.1 hC.2.2.1 d kk) k
end MMI

section MMWC
/-! printed walks (gen16.py, dec.py) -/
def gX10_reorderQuantity (p0 : Int32) (h : mm_H) : Option ((Int32 ⊕ String) × mm_H) :=
(gX10_checkProduct p0 h).bind (fun (x1 : ((Unit ⊕ String) × mm_H)) => match x1 with
| (.inl _, h4) =>
(gX10_unitsToOrder p0 h4).bind (fun (x6 : Int32) =>
some (.inl x6, h4))
| (.inr E5, h4) => some (.inr E5, h4))
theorem rX10_reorderQuantity {q : Nat × Nat} (p0 : Int32) (h : mm_H) : mm_R2 (mm_Sq q) (mm_Sq q) mX10_reorderQuantity [.ref 0, .int p0] h (gX10_reorderQuantity p0 h) lf_it := by
  refine mm_body (L := [some (.ref 0), some (.int p0)]) rfl (by decide +kernel) (Nat.le_of_ble_eq_true rfl) rfl ?_
  unfold gX10_reorderQuantity
  refine me_aload_n (pc' := 1) (i := 0) dX10_reorderQuantity_0 rfl rfl rfl ?_
  refine me_iload_n (pc' := 2) (i := 1) dX10_reorderQuantity_1 rfl rfl rfl ?_
  refine me_callV (As := [.int p0]) (st := []) (F' := (mm_Sq q)) (G' := (mm_Sq q)) (F'' := (mm_Sq q)) (pc' := 5) dX10_reorderQuantity_2 rfl mfX10_checkProduct rfl lkX10_145 kd_0 rfl (mm_ltq kd_0) ⟨Nat.le_of_ble_eq_true rfl, Nat.le_of_ble_eq_true rfl⟩ (Nat.le_of_ble_eq_true rfl) (fun z => z) (rX10_checkProduct (q := q) p0 h ) (fun x1 e2 => ?_)
  rcases x1 with ⟨v3 | E5, h4⟩
  · refine Or.inl ⟨_, _, rfl, fun z => z, ?_⟩
    show mm_E2 _ _ _ _ _ [] h4 _ _
    try dsimp only
    refine me_aload_n (pc' := 6) (i := 0) dX10_reorderQuantity_5 rfl rfl rfl ?_
    refine me_iload_n (pc' := 7) (i := 1) dX10_reorderQuantity_6 rfl rfl rfl ?_
    refine me_callV (As := [.int p0]) (st := []) (F' := (mm_Sq q)) (G' := (mm_Sq q)) (F'' := (mm_Sq q)) (pc' := 10) dX10_reorderQuantity_7 rfl mfX10_unitsToOrder rfl lkX10_199 kd_0 rfl (mm_ltq kd_0) ⟨Nat.le_of_ble_eq_true rfl, Nat.le_of_ble_eq_true rfl⟩ (Nat.le_of_ble_eq_true rfl) (fun z => z) (rX10_unitsToOrder (q := q) p0 h4 ) (fun x6 e7 => Or.inl ⟨_, _, rfl, fun z => z, ?_⟩)
    show mm_E2 _ _ _ _ _ [.int x6] h4 _ _
    exact me_iret dX10_reorderQuantity_10 rfl (fun z => z) rfl
  · exact Or.inr ⟨_, _, rfl, rfl, fun z => z, fun y9 hy9 => by rw [← Option.some.inj hy9]; rfl⟩
def gX10_reorderCount_L4 (h : mm_H) : Nat → Int32 → Int32 → Option Int32
  | 0, _, _ => none
  | n + 1, w1, w2 =>
    if w2 < (mh_I h 14 0) then
    (gX10_unitsToOrder w2 h).bind (fun (x4 : Int32) =>
    mm_jn (fun (y6 : Int32) =>
    (some (w2 + 1)).bind (fun (x8 : Int32) =>
    gX10_reorderCount_L4 h n y6 x8)) (fun (j7 : Int32 → Option Int32) =>
    if 0 < x4 then
    (some (w1 + 1)).bind (fun (x10 : Int32) =>
    j7 x10)
    else
    j7 w1))
    else
    some w1
def gX10_reorderCount (h : mm_H) : Option Int32 :=
gX10_reorderCount_L4 h mm_F 0 0
theorem rX10_reorderCount_L4 {q : Nat × Nat}    (h : mm_H) : ∀ (n : Nat) (w1 : Int32) (w2 : Int32), mm_E2 (mm_Sq q) (mm_Sq q) mX10_reorderCount 4 [some (.ref 0), some (.int w1), some (.int w2)] [] h (gX10_reorderCount_L4 h n w1 w2) (lf_i h) := by
  intro n
  induction n with
  | zero =>
    intro w1 w2
    exact mm_none
  | succ n ih =>
    intro w1 w2
    rw [gX10_reorderCount_L4]
    refine me_iload_n (pc' := 5) (i := 2) dX10_reorderCount_4 rfl rfl rfl ?_
    refine me_aload_n (pc' := 6) (i := 0) dX10_reorderCount_5 rfl rfl rfl ?_
    refine me_getR (pc' := 9) (q' := 14) dX10_reorderCount_6 rfl fkX10_38 kd_0 (mm_ltq kd_0) rfl (mrX10_4 kd_0) ?_
    refine me_getI (pc' := 12) dX10_reorderCount_9 rfl fkX10_133 kd_14 (mm_ltq kd_14) rfl ?_
    refine me_icmp_ge (pc' := 15) (tgt := 32) dX10_reorderCount_12 (by decide) rfl (fun c3 => ?_) (fun c3 => ?_)
    · refine me_iload_n (pc' := 33) (i := 1) dX10_reorderCount_32 rfl rfl rfl ?_
      exact me_iret dX10_reorderCount_33 rfl (fun z => z) rfl
    · refine me_aload_n (pc' := 16) (i := 0) dX10_reorderCount_15 rfl rfl rfl ?_
      refine me_iload_n (pc' := 17) (i := 2) dX10_reorderCount_16 rfl rfl rfl ?_
      refine me_callV (As := [.int w2]) (st := []) (F' := (mm_Sq q)) (G' := (mm_Sq q)) (F'' := (mm_Sq q)) (pc' := 20) dX10_reorderCount_17 rfl mfX10_unitsToOrder rfl lkX10_199 kd_0 rfl (mm_ltq kd_0) ⟨Nat.le_of_ble_eq_true rfl, Nat.le_of_ble_eq_true rfl⟩ (Nat.le_of_ble_eq_true rfl) (fun z => z) (rX10_unitsToOrder (q := q) w2 h ) (fun x4 e5 => Or.inl ⟨_, _, rfl, fun z => z, ?_⟩)
      show mm_E2 _ _ _ _ _ [.int x4] h _ _
      refine mm_jnI (fun (j79 : Int32 → Option Int32) => ∀ (y6 : Int32), mm_E2 (mm_Sq q) (mm_Sq q) mX10_reorderCount 26 [some (.ref 0), some (.int y6), some (.int w2)] [] h (j79 y6) (lf_i h)) ?_ (fun j7 j7p => ?_)
      · intro y6
        refine me_iinc (pc' := 29) (i := 2) (x := w2) (y := w2 + 1) (L' := [some (.ref 0), some (.int y6), some (.int (w2 + 1))]) dX10_reorderCount_26 rfl (Nat.le_of_ble_eq_true rfl) (Nat.le_of_ble_eq_true rfl) rfl (kc_plus kc_i1) rfl ?_
        refine mm_bnd (w2 + 1) (fun x8 => [some (.ref 0), some (.int y6), some (.int x8)]) (fun _ => []) (fun _ => h) (fun x8 => ?_)
        refine me_goto (tgt := 4) dX10_reorderCount_29 (by decide) ?_
        exact ih y6 x8
      refine me_if_le (pc' := 23) (tgt := 26) dX10_reorderCount_20 (by decide) rfl (fun c9 => ?_) (fun c9 => ?_)
      · exact j7p w1
      · refine me_iinc (pc' := 26) (i := 1) (x := w1) (y := w1 + 1) (L' := [some (.ref 0), some (.int (w1 + 1)), some (.int w2)]) dX10_reorderCount_23 rfl (Nat.le_of_ble_eq_true rfl) (Nat.le_of_ble_eq_true rfl) rfl (kc_plus kc_i1) rfl ?_
        refine mm_bnd (w1 + 1) (fun x10 => [some (.ref 0), some (.int x10), some (.int w2)]) (fun _ => []) (fun _ => h) (fun x10 => ?_)
        exact j7p x10
theorem rX10_reorderCount {q : Nat × Nat} (h : mm_H) : mm_R2 (mm_Sq q) (mm_Sq q) mX10_reorderCount [.ref 0] h (gX10_reorderCount h) (lf_i h) := by
  refine mm_body (L := [some (.ref 0), none, none]) rfl (by decide +kernel) (Nat.le_of_ble_eq_true rfl) rfl ?_
  unfold gX10_reorderCount
  refine me_iconst (pc' := 1) (v := 0) dX10_reorderCount_0 rfl kc_i0 ?_
  refine me_istore_n (pc' := 2) (i := 1) (L' := [some (.ref 0), some (.int 0), none]) dX10_reorderCount_1 rfl rfl (Nat.le_of_ble_eq_true rfl) (Nat.le_of_ble_eq_true rfl) rfl ?_
  refine me_iconst (pc' := 3) (v := 0) dX10_reorderCount_2 rfl kc_i0 ?_
  refine me_istore_n (pc' := 4) (i := 2) (L' := [some (.ref 0), some (.int 0), some (.int 0)]) dX10_reorderCount_3 rfl rfl (Nat.le_of_ble_eq_true rfl) (Nat.le_of_ble_eq_true rfl) rfl ?_
  exact rX10_reorderCount_L4 (q := q) h mm_F 0 0
def gX10_batchCount (h : mm_H) : Option Int32 :=
some ((mh_I h 21 1))
theorem rX10_batchCount {q : Nat × Nat} (h : mm_H) : mm_R2 (mm_Sq q) (mm_Sq q) mX10_batchCount [.ref 0] h (gX10_batchCount h) (lf_i h) := by
  refine mm_body (L := [some (.ref 0)]) rfl (by decide +kernel) (Nat.le_of_ble_eq_true rfl) rfl ?_
  unfold gX10_batchCount
  refine me_aload_n (pc' := 1) (i := 0) dX10_batchCount_0 rfl rfl rfl ?_
  refine me_getR (pc' := 4) (q' := 21) dX10_batchCount_1 rfl fkX10_45 kd_0 (mm_ltq kd_0) rfl (mrX10_5 kd_0) ?_
  refine me_getI (pc' := 7) dX10_batchCount_4 rfl fkX10_202 kd_21 (mm_ltq kd_21) rfl ?_
  exact me_iret dX10_batchCount_7 rfl (fun z => z) rfl
def gX10_checkBatch (p0 : Int32) (h : mm_H) : Option ((Unit ⊕ String) × mm_H) :=
(gX7_hasBatch 21 p0 h).bind (fun (x1 : Bool) =>
if x1 = true then
some (.inl (), h)
else
some (.inr "java/lang/IndexOutOfBoundsException", ms_X h))
theorem rX10_checkBatch {q : Nat × Nat} (p0 : Int32) (h : mm_H) : mm_R2 (mm_Sq q) (mm_Sq q) mX10_checkBatch [.ref 0, .int p0] h (gX10_checkBatch p0 h) lf_vt := by
  refine mm_body (L := [some (.ref 0), some (.int p0)]) rfl (by decide +kernel) (Nat.le_of_ble_eq_true rfl) rfl ?_
  unfold gX10_checkBatch
  refine me_aload_n (pc' := 1) (i := 0) dX10_checkBatch_0 rfl rfl rfl ?_
  refine me_getR (pc' := 4) (q' := 21) dX10_checkBatch_1 rfl fkX10_45 kd_0 (mm_ltq kd_0) rfl (mrX10_5 kd_0) ?_
  refine me_iload_n (pc' := 5) (i := 1) dX10_checkBatch_4 rfl rfl rfl ?_
  refine me_callV (As := [.int p0]) (st := []) (F' := (mm_Sq q)) (G' := (mm_Sq q)) (F'' := (mm_Sq q)) (pc' := 8) dX10_checkBatch_5 rfl mfX7_hasBatch rfl lkX10_407 kd_21 rfl (mm_ltq kd_21) ⟨Nat.le_of_ble_eq_true rfl, Nat.le_of_ble_eq_true rfl⟩ (Nat.le_of_ble_eq_true rfl) (fun z => z) (rX7_hasBatch (q := q) 21 p0 h kd_21) (fun x1 e2 => Or.inl ⟨_, _, rfl, fun z => z, ?_⟩)
  show mm_E2 _ _ _ _ _ [.int (mx_bi x1)] h _ _
  refine me_ifB_ne (pc' := 11) (tgt := 22) dX10_checkBatch_8 (by decide) rfl (fun c3 => ?_) (fun c3 => ?_)
  · exact me_vret dX10_checkBatch_22 rfl (fun z => z) rfl
  · exact me_throwW dX10_checkBatch_11 dX10_checkBatch_14 dX10_checkBatch_15 dX10_checkBatch_18 dX10_checkBatch_21 rfl rfl (fun z => z) twX10_166 sr_12 (Nat.le_of_ble_eq_true rfl) (Nat.le_of_ble_eq_true rfl)
def gX10_productOf (p0 : Int32) (h : mm_H) : Option ((Int32 ⊕ String) × mm_H) :=
(gX10_checkBatch p0 h).bind (fun (x1 : ((Unit ⊕ String) × mm_H)) => match x1 with
| (.inl _, h4) =>
(gX4_get 22 p0 h4).bind (fun (x6 : Int32) =>
some (.inl x6, h4))
| (.inr E5, h4) => some (.inr E5, h4))
theorem rX10_productOf {q : Nat × Nat} (p0 : Int32) (h : mm_H) : mm_R2 (mm_Sq q) (mm_Sq q) mX10_productOf [.ref 0, .int p0] h (gX10_productOf p0 h) lf_it := by
  refine mm_body (L := [some (.ref 0), some (.int p0)]) rfl (by decide +kernel) (Nat.le_of_ble_eq_true rfl) rfl ?_
  unfold gX10_productOf
  refine me_aload_n (pc' := 1) (i := 0) dX10_productOf_0 rfl rfl rfl ?_
  refine me_iload_n (pc' := 2) (i := 1) dX10_productOf_1 rfl rfl rfl ?_
  refine me_callV (As := [.int p0]) (st := []) (F' := (mm_Sq q)) (G' := (mm_Sq q)) (F'' := (mm_Sq q)) (pc' := 5) dX10_productOf_2 rfl mfX10_checkBatch rfl lkX10_205 kd_0 rfl (mm_ltq kd_0) ⟨Nat.le_of_ble_eq_true rfl, Nat.le_of_ble_eq_true rfl⟩ (Nat.le_of_ble_eq_true rfl) (fun z => z) (rX10_checkBatch (q := q) p0 h ) (fun x1 e2 => ?_)
  rcases x1 with ⟨v3 | E5, h4⟩
  · refine Or.inl ⟨_, _, rfl, fun z => z, ?_⟩
    show mm_E2 _ _ _ _ _ [] h4 _ _
    try dsimp only
    refine me_aload_n (pc' := 6) (i := 0) dX10_productOf_5 rfl rfl rfl ?_
    refine me_getR (pc' := 9) (q' := 21) dX10_productOf_6 rfl fkX10_45 kd_0 (mm_ltq kd_0) rfl (mrX10_5 kd_0) ?_
    refine me_getR (pc' := 12) (q' := 22) dX10_productOf_9 rfl fkX10_208 kd_21 (mm_ltq kd_21) rfl (mrX7_2 kd_21) ?_
    refine me_iload_n (pc' := 13) (i := 1) dX10_productOf_12 rfl rfl rfl ?_
    refine me_callV (As := [.int p0]) (st := []) (F' := (mm_Sq q)) (G' := (mm_Sq q)) (F'' := (mm_Sq q)) (pc' := 16) dX10_productOf_13 rfl mfX4_get rfl lkX10_152 kd_22 rfl (mm_ltq kd_22) ⟨Nat.le_of_ble_eq_true rfl, Nat.le_of_ble_eq_true rfl⟩ (Nat.le_of_ble_eq_true rfl) (fun z => z) (rX4_get (q := q) 22 p0 h4 kd_22) (fun x6 e7 => Or.inl ⟨_, _, rfl, fun z => z, ?_⟩)
    show mm_E2 _ _ _ _ _ [.int x6] h4 _ _
    exact me_iret dX10_productOf_16 rfl (fun z => z) rfl
  · exact Or.inr ⟨_, _, rfl, rfl, fun z => z, fun y9 hy9 => by rw [← Option.some.inj hy9]; rfl⟩
def gX10_quantity (p0 : Int32) (h : mm_H) : Option ((Int32 ⊕ String) × mm_H) :=
(gX10_checkBatch p0 h).bind (fun (x1 : ((Unit ⊕ String) × mm_H)) => match x1 with
| (.inl _, h4) =>
(gX4_get 24 p0 h4).bind (fun (x6 : Int32) =>
some (.inl x6, h4))
| (.inr E5, h4) => some (.inr E5, h4))
theorem rX10_quantity {q : Nat × Nat} (p0 : Int32) (h : mm_H) : mm_R2 (mm_Sq q) (mm_Sq q) mX10_quantity [.ref 0, .int p0] h (gX10_quantity p0 h) lf_it := by
  refine mm_body (L := [some (.ref 0), some (.int p0)]) rfl (by decide +kernel) (Nat.le_of_ble_eq_true rfl) rfl ?_
  unfold gX10_quantity
  refine me_aload_n (pc' := 1) (i := 0) dX10_quantity_0 rfl rfl rfl ?_
  refine me_iload_n (pc' := 2) (i := 1) dX10_quantity_1 rfl rfl rfl ?_
  refine me_callV (As := [.int p0]) (st := []) (F' := (mm_Sq q)) (G' := (mm_Sq q)) (F'' := (mm_Sq q)) (pc' := 5) dX10_quantity_2 rfl mfX10_checkBatch rfl lkX10_205 kd_0 rfl (mm_ltq kd_0) ⟨Nat.le_of_ble_eq_true rfl, Nat.le_of_ble_eq_true rfl⟩ (Nat.le_of_ble_eq_true rfl) (fun z => z) (rX10_checkBatch (q := q) p0 h ) (fun x1 e2 => ?_)
  rcases x1 with ⟨v3 | E5, h4⟩
  · refine Or.inl ⟨_, _, rfl, fun z => z, ?_⟩
    show mm_E2 _ _ _ _ _ [] h4 _ _
    try dsimp only
    refine me_aload_n (pc' := 6) (i := 0) dX10_quantity_5 rfl rfl rfl ?_
    refine me_getR (pc' := 9) (q' := 21) dX10_quantity_6 rfl fkX10_45 kd_0 (mm_ltq kd_0) rfl (mrX10_5 kd_0) ?_
    refine me_getR (pc' := 12) (q' := 24) dX10_quantity_9 rfl fkX10_211 kd_21 (mm_ltq kd_21) rfl (mrX7_3 kd_21) ?_
    refine me_iload_n (pc' := 13) (i := 1) dX10_quantity_12 rfl rfl rfl ?_
    refine me_callV (As := [.int p0]) (st := []) (F' := (mm_Sq q)) (G' := (mm_Sq q)) (F'' := (mm_Sq q)) (pc' := 16) dX10_quantity_13 rfl mfX4_get rfl lkX10_152 kd_24 rfl (mm_ltq kd_24) ⟨Nat.le_of_ble_eq_true rfl, Nat.le_of_ble_eq_true rfl⟩ (Nat.le_of_ble_eq_true rfl) (fun z => z) (rX4_get (q := q) 24 p0 h4 kd_24) (fun x6 e7 => Or.inl ⟨_, _, rfl, fun z => z, ?_⟩)
    show mm_E2 _ _ _ _ _ [.int x6] h4 _ _
    exact me_iret dX10_quantity_16 rfl (fun z => z) rfl
  · exact Or.inr ⟨_, _, rfl, rfl, fun z => z, fun y9 hy9 => by rw [← Option.some.inj hy9]; rfl⟩
def gX10_reservedOf (p0 : Int32) (h : mm_H) : Option ((Int32 ⊕ String) × mm_H) :=
(gX10_checkBatch p0 h).bind (fun (x1 : ((Unit ⊕ String) × mm_H)) => match x1 with
| (.inl _, h4) =>
(gX4_get 26 p0 h4).bind (fun (x6 : Int32) =>
some (.inl x6, h4))
| (.inr E5, h4) => some (.inr E5, h4))
theorem rX10_reservedOf {q : Nat × Nat} (p0 : Int32) (h : mm_H) : mm_R2 (mm_Sq q) (mm_Sq q) mX10_reservedOf [.ref 0, .int p0] h (gX10_reservedOf p0 h) lf_it := by
  refine mm_body (L := [some (.ref 0), some (.int p0)]) rfl (by decide +kernel) (Nat.le_of_ble_eq_true rfl) rfl ?_
  unfold gX10_reservedOf
  refine me_aload_n (pc' := 1) (i := 0) dX10_reservedOf_0 rfl rfl rfl ?_
  refine me_iload_n (pc' := 2) (i := 1) dX10_reservedOf_1 rfl rfl rfl ?_
  refine me_callV (As := [.int p0]) (st := []) (F' := (mm_Sq q)) (G' := (mm_Sq q)) (F'' := (mm_Sq q)) (pc' := 5) dX10_reservedOf_2 rfl mfX10_checkBatch rfl lkX10_205 kd_0 rfl (mm_ltq kd_0) ⟨Nat.le_of_ble_eq_true rfl, Nat.le_of_ble_eq_true rfl⟩ (Nat.le_of_ble_eq_true rfl) (fun z => z) (rX10_checkBatch (q := q) p0 h ) (fun x1 e2 => ?_)
  rcases x1 with ⟨v3 | E5, h4⟩
  · refine Or.inl ⟨_, _, rfl, fun z => z, ?_⟩
    show mm_E2 _ _ _ _ _ [] h4 _ _
    try dsimp only
    refine me_aload_n (pc' := 6) (i := 0) dX10_reservedOf_5 rfl rfl rfl ?_
    refine me_getR (pc' := 9) (q' := 21) dX10_reservedOf_6 rfl fkX10_45 kd_0 (mm_ltq kd_0) rfl (mrX10_5 kd_0) ?_
    refine me_getR (pc' := 12) (q' := 26) dX10_reservedOf_9 rfl fkX10_214 kd_21 (mm_ltq kd_21) rfl (mrX7_4 kd_21) ?_
    refine me_iload_n (pc' := 13) (i := 1) dX10_reservedOf_12 rfl rfl rfl ?_
    refine me_callV (As := [.int p0]) (st := []) (F' := (mm_Sq q)) (G' := (mm_Sq q)) (F'' := (mm_Sq q)) (pc' := 16) dX10_reservedOf_13 rfl mfX4_get rfl lkX10_152 kd_26 rfl (mm_ltq kd_26) ⟨Nat.le_of_ble_eq_true rfl, Nat.le_of_ble_eq_true rfl⟩ (Nat.le_of_ble_eq_true rfl) (fun z => z) (rX4_get (q := q) 26 p0 h4 kd_26) (fun x6 e7 => Or.inl ⟨_, _, rfl, fun z => z, ?_⟩)
    show mm_E2 _ _ _ _ _ [.int x6] h4 _ _
    exact me_iret dX10_reservedOf_16 rfl (fun z => z) rfl
  · exact Or.inr ⟨_, _, rfl, rfl, fun z => z, fun y9 hy9 => by rw [← Option.some.inj hy9]; rfl⟩
def gX10_expiryDay (p0 : Int32) (h : mm_H) : Option ((Int32 ⊕ String) × mm_H) :=
(gX10_checkBatch p0 h).bind (fun (x1 : ((Unit ⊕ String) × mm_H)) => match x1 with
| (.inl _, h4) =>
(gX4_get 28 p0 h4).bind (fun (x6 : Int32) =>
some (.inl x6, h4))
| (.inr E5, h4) => some (.inr E5, h4))
theorem rX10_expiryDay {q : Nat × Nat} (p0 : Int32) (h : mm_H) : mm_R2 (mm_Sq q) (mm_Sq q) mX10_expiryDay [.ref 0, .int p0] h (gX10_expiryDay p0 h) lf_it := by
  refine mm_body (L := [some (.ref 0), some (.int p0)]) rfl (by decide +kernel) (Nat.le_of_ble_eq_true rfl) rfl ?_
  unfold gX10_expiryDay
  refine me_aload_n (pc' := 1) (i := 0) dX10_expiryDay_0 rfl rfl rfl ?_
  refine me_iload_n (pc' := 2) (i := 1) dX10_expiryDay_1 rfl rfl rfl ?_
  refine me_callV (As := [.int p0]) (st := []) (F' := (mm_Sq q)) (G' := (mm_Sq q)) (F'' := (mm_Sq q)) (pc' := 5) dX10_expiryDay_2 rfl mfX10_checkBatch rfl lkX10_205 kd_0 rfl (mm_ltq kd_0) ⟨Nat.le_of_ble_eq_true rfl, Nat.le_of_ble_eq_true rfl⟩ (Nat.le_of_ble_eq_true rfl) (fun z => z) (rX10_checkBatch (q := q) p0 h ) (fun x1 e2 => ?_)
  rcases x1 with ⟨v3 | E5, h4⟩
  · refine Or.inl ⟨_, _, rfl, fun z => z, ?_⟩
    show mm_E2 _ _ _ _ _ [] h4 _ _
    try dsimp only
    refine me_aload_n (pc' := 6) (i := 0) dX10_expiryDay_5 rfl rfl rfl ?_
    refine me_getR (pc' := 9) (q' := 21) dX10_expiryDay_6 rfl fkX10_45 kd_0 (mm_ltq kd_0) rfl (mrX10_5 kd_0) ?_
    refine me_getR (pc' := 12) (q' := 28) dX10_expiryDay_9 rfl fkX10_217 kd_21 (mm_ltq kd_21) rfl (mrX7_5 kd_21) ?_
    refine me_iload_n (pc' := 13) (i := 1) dX10_expiryDay_12 rfl rfl rfl ?_
    refine me_callV (As := [.int p0]) (st := []) (F' := (mm_Sq q)) (G' := (mm_Sq q)) (F'' := (mm_Sq q)) (pc' := 16) dX10_expiryDay_13 rfl mfX4_get rfl lkX10_152 kd_28 rfl (mm_ltq kd_28) ⟨Nat.le_of_ble_eq_true rfl, Nat.le_of_ble_eq_true rfl⟩ (Nat.le_of_ble_eq_true rfl) (fun z => z) (rX4_get (q := q) 28 p0 h4 kd_28) (fun x6 e7 => Or.inl ⟨_, _, rfl, fun z => z, ?_⟩)
    show mm_E2 _ _ _ _ _ [.int x6] h4 _ _
    exact me_iret dX10_expiryDay_16 rfl (fun z => z) rfl
  · exact Or.inr ⟨_, _, rfl, rfl, fun z => z, fun y9 hy9 => by rw [← Option.some.inj hy9]; rfl⟩
def gX10_unitCost (p0 : Int32) (h : mm_H) : Option ((Int32 ⊕ String) × mm_H) :=
(gX10_checkBatch p0 h).bind (fun (x1 : ((Unit ⊕ String) × mm_H)) => match x1 with
| (.inl _, h4) =>
(gX4_get 30 p0 h4).bind (fun (x6 : Int32) =>
some (.inl x6, h4))
| (.inr E5, h4) => some (.inr E5, h4))
theorem rX10_unitCost {q : Nat × Nat} (p0 : Int32) (h : mm_H) : mm_R2 (mm_Sq q) (mm_Sq q) mX10_unitCost [.ref 0, .int p0] h (gX10_unitCost p0 h) lf_it := by
  refine mm_body (L := [some (.ref 0), some (.int p0)]) rfl (by decide +kernel) (Nat.le_of_ble_eq_true rfl) rfl ?_
  unfold gX10_unitCost
  refine me_aload_n (pc' := 1) (i := 0) dX10_unitCost_0 rfl rfl rfl ?_
  refine me_iload_n (pc' := 2) (i := 1) dX10_unitCost_1 rfl rfl rfl ?_
  refine me_callV (As := [.int p0]) (st := []) (F' := (mm_Sq q)) (G' := (mm_Sq q)) (F'' := (mm_Sq q)) (pc' := 5) dX10_unitCost_2 rfl mfX10_checkBatch rfl lkX10_205 kd_0 rfl (mm_ltq kd_0) ⟨Nat.le_of_ble_eq_true rfl, Nat.le_of_ble_eq_true rfl⟩ (Nat.le_of_ble_eq_true rfl) (fun z => z) (rX10_checkBatch (q := q) p0 h ) (fun x1 e2 => ?_)
  rcases x1 with ⟨v3 | E5, h4⟩
  · refine Or.inl ⟨_, _, rfl, fun z => z, ?_⟩
    show mm_E2 _ _ _ _ _ [] h4 _ _
    try dsimp only
    refine me_aload_n (pc' := 6) (i := 0) dX10_unitCost_5 rfl rfl rfl ?_
    refine me_getR (pc' := 9) (q' := 21) dX10_unitCost_6 rfl fkX10_45 kd_0 (mm_ltq kd_0) rfl (mrX10_5 kd_0) ?_
    refine me_getR (pc' := 12) (q' := 30) dX10_unitCost_9 rfl fkX10_220 kd_21 (mm_ltq kd_21) rfl (mrX7_6 kd_21) ?_
    refine me_iload_n (pc' := 13) (i := 1) dX10_unitCost_12 rfl rfl rfl ?_
    refine me_callV (As := [.int p0]) (st := []) (F' := (mm_Sq q)) (G' := (mm_Sq q)) (F'' := (mm_Sq q)) (pc' := 16) dX10_unitCost_13 rfl mfX4_get rfl lkX10_152 kd_30 rfl (mm_ltq kd_30) ⟨Nat.le_of_ble_eq_true rfl, Nat.le_of_ble_eq_true rfl⟩ (Nat.le_of_ble_eq_true rfl) (fun z => z) (rX4_get (q := q) 30 p0 h4 kd_30) (fun x6 e7 => Or.inl ⟨_, _, rfl, fun z => z, ?_⟩)
    show mm_E2 _ _ _ _ _ [.int x6] h4 _ _
    exact me_iret dX10_unitCost_16 rfl (fun z => z) rfl
  · exact Or.inr ⟨_, _, rfl, rfl, fun z => z, fun y9 hy9 => by rw [← Option.some.inj hy9]; rfl⟩
def gX10_isExpired (p0 : Int32) (h : mm_H) : Option ((Bool ⊕ String) × mm_H) :=
(gX10_checkBatch p0 h).bind (fun (x1 : ((Unit ⊕ String) × mm_H)) => match x1 with
| (.inl _, h4) =>
(gX7_hasExpired 21 p0 h4).bind (fun (x6 : Bool) =>
some (.inl x6, h4))
| (.inr E5, h4) => some (.inr E5, h4))
theorem rX10_isExpired {q : Nat × Nat} (p0 : Int32) (h : mm_H) : mm_R2 (mm_Sq q) (mm_Sq q) mX10_isExpired [.ref 0, .int p0] h (gX10_isExpired p0 h) lf_zt := by
  refine mm_body (L := [some (.ref 0), some (.int p0)]) rfl (by decide +kernel) (Nat.le_of_ble_eq_true rfl) rfl ?_
  unfold gX10_isExpired
  refine me_aload_n (pc' := 1) (i := 0) dX10_isExpired_0 rfl rfl rfl ?_
  refine me_iload_n (pc' := 2) (i := 1) dX10_isExpired_1 rfl rfl rfl ?_
  refine me_callV (As := [.int p0]) (st := []) (F' := (mm_Sq q)) (G' := (mm_Sq q)) (F'' := (mm_Sq q)) (pc' := 5) dX10_isExpired_2 rfl mfX10_checkBatch rfl lkX10_205 kd_0 rfl (mm_ltq kd_0) ⟨Nat.le_of_ble_eq_true rfl, Nat.le_of_ble_eq_true rfl⟩ (Nat.le_of_ble_eq_true rfl) (fun z => z) (rX10_checkBatch (q := q) p0 h ) (fun x1 e2 => ?_)
  rcases x1 with ⟨v3 | E5, h4⟩
  · refine Or.inl ⟨_, _, rfl, fun z => z, ?_⟩
    show mm_E2 _ _ _ _ _ [] h4 _ _
    try dsimp only
    refine me_aload_n (pc' := 6) (i := 0) dX10_isExpired_5 rfl rfl rfl ?_
    refine me_getR (pc' := 9) (q' := 21) dX10_isExpired_6 rfl fkX10_45 kd_0 (mm_ltq kd_0) rfl (mrX10_5 kd_0) ?_
    refine me_iload_n (pc' := 10) (i := 1) dX10_isExpired_9 rfl rfl rfl ?_
    refine me_callV (As := [.int p0]) (st := []) (F' := (mm_Sq q)) (G' := (mm_Sq q)) (F'' := (mm_Sq q)) (pc' := 13) dX10_isExpired_10 rfl mfX7_hasExpired rfl lkX10_223 kd_21 rfl (mm_ltq kd_21) ⟨Nat.le_of_ble_eq_true rfl, Nat.le_of_ble_eq_true rfl⟩ (Nat.le_of_ble_eq_true rfl) (fun z => z) (rX7_hasExpired (q := q) 21 p0 h4 kd_21) (fun x6 e7 => Or.inl ⟨_, _, rfl, fun z => z, ?_⟩)
    show mm_E2 _ _ _ _ _ [.int (mx_bi x6)] h4 _ _
    exact me_zret (b := x6) dX10_isExpired_13 rfl (fun z => z) rfl
  · exact Or.inr ⟨_, _, rfl, rfl, fun z => z, fun y9 hy9 => by rw [← Option.some.inj hy9]; rfl⟩
def gX10_issueOrder (p0 : Int32) (p1 : Int32) (h : mm_H) : Option ((Int32 ⊕ String) × mm_H) :=
(gX10_checkProduct p0 h).bind (fun (x1 : ((Unit ⊕ String) × mm_H)) => match x1 with
| (.inl _, h4) =>
(gX7_collectIssueOrder 21 p0 ((mh_I h4 21 0)) h4).bind (fun (h6 : mm_H) =>
(gX10_isOutside p1 0 (((mh_I h6 347 0) - 1)) h6).bind (fun (x8 : Bool) =>
if x8 = true then
some (.inl (-1), h6)
else
(gX4_get 348 p1 h6).bind (fun (x11 : Int32) =>
some (.inl x11, h6))))
| (.inr E5, h4) => some (.inr E5, h4))
theorem rX10_issueOrder {q : Nat × Nat} (p0 : Int32) (p1 : Int32) (h : mm_H) : mm_R2 (mm_Sq q) (mm_Sq q) mX10_issueOrder [.ref 0, .int p0, .int p1] h (gX10_issueOrder p0 p1 h) lf_it := by
  refine mm_body (L := [some (.ref 0), some (.int p0), some (.int p1)]) rfl (by decide +kernel) (Nat.le_of_ble_eq_true rfl) rfl ?_
  unfold gX10_issueOrder
  refine me_aload_n (pc' := 1) (i := 0) dX10_issueOrder_0 rfl rfl rfl ?_
  refine me_iload_n (pc' := 2) (i := 1) dX10_issueOrder_1 rfl rfl rfl ?_
  refine me_callV (As := [.int p0]) (st := []) (F' := (mm_Sq q)) (G' := (mm_Sq q)) (F'' := (mm_Sq q)) (pc' := 5) dX10_issueOrder_2 rfl mfX10_checkProduct rfl lkX10_145 kd_0 rfl (mm_ltq kd_0) ⟨Nat.le_of_ble_eq_true rfl, Nat.le_of_ble_eq_true rfl⟩ (Nat.le_of_ble_eq_true rfl) (fun z => z) (rX10_checkProduct (q := q) p0 h ) (fun x1 e2 => ?_)
  rcases x1 with ⟨v3 | E5, h4⟩
  · refine Or.inl ⟨_, _, rfl, fun z => z, ?_⟩
    show mm_E2 _ _ _ _ _ [] h4 _ _
    try dsimp only
    refine me_aload_n (pc' := 6) (i := 0) dX10_issueOrder_5 rfl rfl rfl ?_
    refine me_getR (pc' := 9) (q' := 21) dX10_issueOrder_6 rfl fkX10_45 kd_0 (mm_ltq kd_0) rfl (mrX10_5 kd_0) ?_
    refine me_aload_n (pc' := 10) (i := 0) dX10_issueOrder_9 rfl rfl rfl ?_
    refine me_getR (pc' := 13) (q' := 347) dX10_issueOrder_10 rfl fkX10_72 kd_0 (mm_ltq kd_0) rfl (mrX10_10 kd_0) ?_
    refine me_iload_n (pc' := 14) (i := 1) dX10_issueOrder_13 rfl rfl rfl ?_
    refine me_aload_n (pc' := 15) (i := 0) dX10_issueOrder_14 rfl rfl rfl ?_
    refine me_getR (pc' := 18) (q' := 21) dX10_issueOrder_15 rfl fkX10_45 kd_0 (mm_ltq kd_0) rfl (mrX10_5 kd_0) ?_
    refine me_getI (pc' := 21) dX10_issueOrder_18 rfl fkX10_142 kd_21 (mm_ltq kd_21) rfl ?_
    refine me_callV (As := [.ref 347, .int p0, .int (mh_I h4 21 0)]) (st := []) (F' := (mm_Sq q)) (G' := (mm_Sq q)) (F'' := (mm_Sq q)) (pc' := 24) dX10_issueOrder_21 rfl mfX7_collectIssueOrder rfl lkX10_227 kd_21 rfl (mm_ltq kd_21) ⟨Nat.le_of_ble_eq_true rfl, Nat.le_of_ble_eq_true rfl⟩ (Nat.le_of_ble_eq_true rfl) (fun z => z) (rX7_collectIssueOrder (q := q) 21 p0 ((mh_I h4 21 0)) h4 kd_21) (fun h6 e7 => Or.inl ⟨_, _, rfl, fun z => z, ?_⟩)
    show mm_E2 _ _ _ _ _ [] h6 _ _
    refine me_iload_n (pc' := 25) (i := 2) dX10_issueOrder_24 rfl rfl rfl ?_
    refine me_iconst (pc' := 26) (v := 0) dX10_issueOrder_25 rfl kc_i0 ?_
    refine me_aload_n (pc' := 27) (i := 0) dX10_issueOrder_26 rfl rfl rfl ?_
    refine me_getR (pc' := 30) (q' := 347) dX10_issueOrder_27 rfl fkX10_72 kd_0 (mm_ltq kd_0) rfl (mrX10_10 kd_0) ?_
    refine me_getI (pc' := 33) dX10_issueOrder_30 rfl fkX10_231 kd_347 (mm_ltq kd_347) rfl ?_
    refine me_iconst (pc' := 34) (v := 1) dX10_issueOrder_33 rfl kc_i1 ?_
    refine me_isub (pc' := 35) dX10_issueOrder_34 rfl ?_
    refine me_callS (As := [.int p1, .int 0, .int ((mh_I h6 347 0) - 1)]) (st := []) (F' := (mm_Sq q)) (G' := (mm_Sq q)) (F'' := (mm_Sq q)) (pc' := 38) dX10_issueOrder_35 rfl mfX10_isOutside rfl lkX10_158 ⟨Nat.le_of_ble_eq_true rfl, Nat.le_of_ble_eq_true rfl⟩ (Nat.le_of_ble_eq_true rfl) (fun z => z) (rX10_isOutside (q := q) p1 0 (((mh_I h6 347 0) - 1)) h6 ) (fun x8 e9 => Or.inl ⟨_, _, rfl, fun z => z, ?_⟩)
    show mm_E2 _ _ _ _ _ [.int (mx_bi x8)] h6 _ _
    refine me_ifB_eq (pc' := 41) (tgt := 45) dX10_issueOrder_38 (by decide) rfl (fun c10 => ?_) (fun c10 => ?_)
    · refine me_aload_n (pc' := 46) (i := 0) dX10_issueOrder_45 rfl rfl rfl ?_
      refine me_getR (pc' := 49) (q' := 347) dX10_issueOrder_46 rfl fkX10_72 kd_0 (mm_ltq kd_0) rfl (mrX10_10 kd_0) ?_
      refine me_getR (pc' := 52) (q' := 348) dX10_issueOrder_49 rfl fkX10_234 kd_347 (mm_ltq kd_347) rfl (mrX0_1 kd_347) ?_
      refine me_iload_n (pc' := 53) (i := 2) dX10_issueOrder_52 rfl rfl rfl ?_
      refine me_callV (As := [.int p1]) (st := []) (F' := (mm_Sq q)) (G' := (mm_Sq q)) (F'' := (mm_Sq q)) (pc' := 56) dX10_issueOrder_53 rfl mfX4_get rfl lkX10_152 kd_348 rfl (mm_ltq kd_348) ⟨Nat.le_of_ble_eq_true rfl, Nat.le_of_ble_eq_true rfl⟩ (Nat.le_of_ble_eq_true rfl) (fun z => z) (rX4_get (q := q) 348 p1 h6 kd_348) (fun x11 e12 => Or.inl ⟨_, _, rfl, fun z => z, ?_⟩)
      show mm_E2 _ _ _ _ _ [.int x11] h6 _ _
      exact me_iret dX10_issueOrder_56 rfl (fun z => z) rfl
    · refine me_iconst (pc' := 42) (v := (-1)) dX10_issueOrder_41 rfl kc_im1 ?_
      refine me_goto (tgt := 56) dX10_issueOrder_42 (by decide) ?_
      exact me_iret dX10_issueOrder_56 rfl (fun z => z) rfl
  · exact Or.inr ⟨_, _, rfl, rfl, fun z => z, fun y9 hy9 => by rw [← Option.some.inj hy9]; rfl⟩
def gX10_costOfIssue (p0 : Int32) (p1 : Int32) (h : mm_H) : Option ((Int32 ⊕ String) × mm_H) :=
(gX10_checkProduct p0 h).bind (fun (x1 : ((Unit ⊕ String) × mm_H)) => match x1 with
| (.inl _, h4) =>
(gX10_checkRange p1 1 9999 h4).bind (fun (x6 : ((Unit ⊕ String) × mm_H)) => match x6 with
| (.inl _, h9) =>
(gX7_availableUnits 21 p0 ((mh_I h9 21 0)) h9).bind (fun (x11 : Int32) =>
if x11 < p1 then
some (.inl (-1), h9)
else
(gX7_collectIssueOrder 21 p0 ((mh_I h9 21 0)) h9).bind (fun (h14 : mm_H) =>
(gX7_costOfTaking 21 p1 h14).bind (fun (x16 : Int32) =>
some (.inl x16, h14))))
| (.inr E10, h9) => some (.inr E10, h9))
| (.inr E5, h4) => some (.inr E5, h4))
theorem rX10_costOfIssue {q : Nat × Nat} (p0 : Int32) (p1 : Int32) (h : mm_H) : mm_R2 (mm_Sq q) (mm_Sq q) mX10_costOfIssue [.ref 0, .int p0, .int p1] h (gX10_costOfIssue p0 p1 h) lf_it := by
  refine mm_body (L := [some (.ref 0), some (.int p0), some (.int p1)]) rfl (by decide +kernel) (Nat.le_of_ble_eq_true rfl) rfl ?_
  unfold gX10_costOfIssue
  refine me_aload_n (pc' := 1) (i := 0) dX10_costOfIssue_0 rfl rfl rfl ?_
  refine me_iload_n (pc' := 2) (i := 1) dX10_costOfIssue_1 rfl rfl rfl ?_
  refine me_callV (As := [.int p0]) (st := []) (F' := (mm_Sq q)) (G' := (mm_Sq q)) (F'' := (mm_Sq q)) (pc' := 5) dX10_costOfIssue_2 rfl mfX10_checkProduct rfl lkX10_145 kd_0 rfl (mm_ltq kd_0) ⟨Nat.le_of_ble_eq_true rfl, Nat.le_of_ble_eq_true rfl⟩ (Nat.le_of_ble_eq_true rfl) (fun z => z) (rX10_checkProduct (q := q) p0 h ) (fun x1 e2 => ?_)
  rcases x1 with ⟨v3 | E5, h4⟩
  · refine Or.inl ⟨_, _, rfl, fun z => z, ?_⟩
    show mm_E2 _ _ _ _ _ [] h4 _ _
    try dsimp only
    refine me_iload_n (pc' := 6) (i := 2) dX10_costOfIssue_5 rfl rfl rfl ?_
    refine me_iconst (pc' := 7) (v := 1) dX10_costOfIssue_6 rfl kc_i1 ?_
    refine me_sipush (pc' := 10) (v := 9999) dX10_costOfIssue_7 rfl kc_s9999 ?_
    refine me_callS (As := [.int p1, .int 1, .int 9999]) (st := []) (F' := (mm_Sq q)) (G' := (mm_Sq q)) (F'' := (mm_Sq q)) (pc' := 13) dX10_costOfIssue_10 rfl mfX10_checkRange rfl lkX10_104 ⟨Nat.le_of_ble_eq_true rfl, Nat.le_of_ble_eq_true rfl⟩ (Nat.le_of_ble_eq_true rfl) (fun z => z) (rX10_checkRange (q := q) p1 1 9999 h4 ) (fun x6 e7 => ?_)
    rcases x6 with ⟨v8 | E10, h9⟩
    · refine Or.inl ⟨_, _, rfl, fun z => z, ?_⟩
      show mm_E2 _ _ _ _ _ [] h9 _ _
      try dsimp only
      refine me_aload_n (pc' := 14) (i := 0) dX10_costOfIssue_13 rfl rfl rfl ?_
      refine me_getR (pc' := 17) (q' := 21) dX10_costOfIssue_14 rfl fkX10_45 kd_0 (mm_ltq kd_0) rfl (mrX10_5 kd_0) ?_
      refine me_iload_n (pc' := 18) (i := 1) dX10_costOfIssue_17 rfl rfl rfl ?_
      refine me_aload_n (pc' := 19) (i := 0) dX10_costOfIssue_18 rfl rfl rfl ?_
      refine me_getR (pc' := 22) (q' := 21) dX10_costOfIssue_19 rfl fkX10_45 kd_0 (mm_ltq kd_0) rfl (mrX10_5 kd_0) ?_
      refine me_getI (pc' := 25) dX10_costOfIssue_22 rfl fkX10_142 kd_21 (mm_ltq kd_21) rfl ?_
      refine me_callV (As := [.int p0, .int (mh_I h9 21 0)]) (st := []) (F' := (mm_Sq q)) (G' := (mm_Sq q)) (F'' := (mm_Sq q)) (pc' := 28) dX10_costOfIssue_25 rfl mfX7_availableUnits rfl lkX10_189 kd_21 rfl (mm_ltq kd_21) ⟨Nat.le_of_ble_eq_true rfl, Nat.le_of_ble_eq_true rfl⟩ (Nat.le_of_ble_eq_true rfl) (fun z => z) (rX7_availableUnits (q := q) 21 p0 ((mh_I h9 21 0)) h9 kd_21) (fun x11 e12 => Or.inl ⟨_, _, rfl, fun z => z, ?_⟩)
      show mm_E2 _ _ _ _ _ [.int x11] h9 _ _
      refine me_iload_n (pc' := 29) (i := 2) dX10_costOfIssue_28 rfl rfl rfl ?_
      refine me_icmp_ge (pc' := 32) (tgt := 34) dX10_costOfIssue_29 (by decide) rfl (fun c13 => ?_) (fun c13 => ?_)
      · refine me_aload_n (pc' := 35) (i := 0) dX10_costOfIssue_34 rfl rfl rfl ?_
        refine me_getR (pc' := 38) (q' := 21) dX10_costOfIssue_35 rfl fkX10_45 kd_0 (mm_ltq kd_0) rfl (mrX10_5 kd_0) ?_
        refine me_aload_n (pc' := 39) (i := 0) dX10_costOfIssue_38 rfl rfl rfl ?_
        refine me_getR (pc' := 42) (q' := 347) dX10_costOfIssue_39 rfl fkX10_72 kd_0 (mm_ltq kd_0) rfl (mrX10_10 kd_0) ?_
        refine me_iload_n (pc' := 43) (i := 1) dX10_costOfIssue_42 rfl rfl rfl ?_
        refine me_aload_n (pc' := 44) (i := 0) dX10_costOfIssue_43 rfl rfl rfl ?_
        refine me_getR (pc' := 47) (q' := 21) dX10_costOfIssue_44 rfl fkX10_45 kd_0 (mm_ltq kd_0) rfl (mrX10_5 kd_0) ?_
        refine me_getI (pc' := 50) dX10_costOfIssue_47 rfl fkX10_142 kd_21 (mm_ltq kd_21) rfl ?_
        refine me_callV (As := [.ref 347, .int p0, .int (mh_I h9 21 0)]) (st := []) (F' := (mm_Sq q)) (G' := (mm_Sq q)) (F'' := (mm_Sq q)) (pc' := 53) dX10_costOfIssue_50 rfl mfX7_collectIssueOrder rfl lkX10_227 kd_21 rfl (mm_ltq kd_21) ⟨Nat.le_of_ble_eq_true rfl, Nat.le_of_ble_eq_true rfl⟩ (Nat.le_of_ble_eq_true rfl) (fun z => z) (rX7_collectIssueOrder (q := q) 21 p0 ((mh_I h9 21 0)) h9 kd_21) (fun h14 e15 => Or.inl ⟨_, _, rfl, fun z => z, ?_⟩)
        show mm_E2 _ _ _ _ _ [] h14 _ _
        refine me_aload_n (pc' := 54) (i := 0) dX10_costOfIssue_53 rfl rfl rfl ?_
        refine me_getR (pc' := 57) (q' := 21) dX10_costOfIssue_54 rfl fkX10_45 kd_0 (mm_ltq kd_0) rfl (mrX10_5 kd_0) ?_
        refine me_aload_n (pc' := 58) (i := 0) dX10_costOfIssue_57 rfl rfl rfl ?_
        refine me_getR (pc' := 61) (q' := 347) dX10_costOfIssue_58 rfl fkX10_72 kd_0 (mm_ltq kd_0) rfl (mrX10_10 kd_0) ?_
        refine me_iload_n (pc' := 62) (i := 2) dX10_costOfIssue_61 rfl rfl rfl ?_
        refine me_callV (As := [.ref 347, .int p1]) (st := []) (F' := (mm_Sq q)) (G' := (mm_Sq q)) (F'' := (mm_Sq q)) (pc' := 65) dX10_costOfIssue_62 rfl mfX7_costOfTaking rfl lkX10_236 kd_21 rfl (mm_ltq kd_21) ⟨Nat.le_of_ble_eq_true rfl, Nat.le_of_ble_eq_true rfl⟩ (Nat.le_of_ble_eq_true rfl) (fun z => z) (rX7_costOfTaking (q := q) 21 p1 h14 kd_21) (fun x16 e17 => Or.inl ⟨_, _, rfl, fun z => z, ?_⟩)
        show mm_E2 _ _ _ _ _ [.int x16] h14 _ _
        exact me_iret dX10_costOfIssue_65 rfl (fun z => z) rfl
      · refine me_iconst (pc' := 33) (v := (-1)) dX10_costOfIssue_32 rfl kc_im1 ?_
        exact me_iret dX10_costOfIssue_33 rfl (fun z => z) rfl
    · exact Or.inr ⟨_, _, rfl, rfl, fun z => z, fun y9 hy9 => by rw [← Option.some.inj hy9]; rfl⟩
  · exact Or.inr ⟨_, _, rfl, rfl, fun z => z, fun y9 hy9 => by rw [← Option.some.inj hy9]; rfl⟩
def gX10_reservationCount (h : mm_H) : Option Int32 :=
some ((mh_I h 21 7))
theorem rX10_reservationCount {q : Nat × Nat} (h : mm_H) : mm_R2 (mm_Sq q) (mm_Sq q) mX10_reservationCount [.ref 0] h (gX10_reservationCount h) (lf_i h) := by
  refine mm_body (L := [some (.ref 0)]) rfl (by decide +kernel) (Nat.le_of_ble_eq_true rfl) rfl ?_
  unfold gX10_reservationCount
  refine me_aload_n (pc' := 1) (i := 0) dX10_reservationCount_0 rfl rfl rfl ?_
  refine me_getR (pc' := 4) (q' := 21) dX10_reservationCount_1 rfl fkX10_45 kd_0 (mm_ltq kd_0) rfl (mrX10_5 kd_0) ?_
  refine me_getI (pc' := 7) dX10_reservationCount_4 rfl fkX10_240 kd_21 (mm_ltq kd_21) rfl ?_
  exact me_iret dX10_reservationCount_7 rfl (fun z => z) rfl
def gX10_checkReservation (p0 : Int32) (h : mm_H) : Option ((Unit ⊕ String) × mm_H) :=
(gX7_hasReservation 21 p0 h).bind (fun (x1 : Bool) =>
if x1 = true then
some (.inl (), h)
else
some (.inr "java/lang/IndexOutOfBoundsException", ms_X h))
theorem rX10_checkReservation {q : Nat × Nat} (p0 : Int32) (h : mm_H) : mm_R2 (mm_Sq q) (mm_Sq q) mX10_checkReservation [.ref 0, .int p0] h (gX10_checkReservation p0 h) lf_vt := by
  refine mm_body (L := [some (.ref 0), some (.int p0)]) rfl (by decide +kernel) (Nat.le_of_ble_eq_true rfl) rfl ?_
  unfold gX10_checkReservation
  refine me_aload_n (pc' := 1) (i := 0) dX10_checkReservation_0 rfl rfl rfl ?_
  refine me_getR (pc' := 4) (q' := 21) dX10_checkReservation_1 rfl fkX10_45 kd_0 (mm_ltq kd_0) rfl (mrX10_5 kd_0) ?_
  refine me_iload_n (pc' := 5) (i := 1) dX10_checkReservation_4 rfl rfl rfl ?_
  refine me_callV (As := [.int p0]) (st := []) (F' := (mm_Sq q)) (G' := (mm_Sq q)) (F'' := (mm_Sq q)) (pc' := 8) dX10_checkReservation_5 rfl mfX7_hasReservation rfl lkX10_412 kd_21 rfl (mm_ltq kd_21) ⟨Nat.le_of_ble_eq_true rfl, Nat.le_of_ble_eq_true rfl⟩ (Nat.le_of_ble_eq_true rfl) (fun z => z) (rX7_hasReservation (q := q) 21 p0 h kd_21) (fun x1 e2 => Or.inl ⟨_, _, rfl, fun z => z, ?_⟩)
  show mm_E2 _ _ _ _ _ [.int (mx_bi x1)] h _ _
  refine me_ifB_ne (pc' := 11) (tgt := 22) dX10_checkReservation_8 (by decide) rfl (fun c3 => ?_) (fun c3 => ?_)
  · exact me_vret dX10_checkReservation_22 rfl (fun z => z) rfl
  · exact me_throwW dX10_checkReservation_11 dX10_checkReservation_14 dX10_checkReservation_15 dX10_checkReservation_18 dX10_checkReservation_21 rfl rfl (fun z => z) twX10_166 sr_13 (Nat.le_of_ble_eq_true rfl) (Nat.le_of_ble_eq_true rfl)
def gX10_reservedProduct (p0 : Int32) (h : mm_H) : Option ((Int32 ⊕ String) × mm_H) :=
(gX10_checkReservation p0 h).bind (fun (x1 : ((Unit ⊕ String) × mm_H)) => match x1 with
| (.inl _, h4) =>
(gX4_get 32 p0 h4).bind (fun (x6 : Int32) =>
some (.inl x6, h4))
| (.inr E5, h4) => some (.inr E5, h4))
theorem rX10_reservedProduct {q : Nat × Nat} (p0 : Int32) (h : mm_H) : mm_R2 (mm_Sq q) (mm_Sq q) mX10_reservedProduct [.ref 0, .int p0] h (gX10_reservedProduct p0 h) lf_it := by
  refine mm_body (L := [some (.ref 0), some (.int p0)]) rfl (by decide +kernel) (Nat.le_of_ble_eq_true rfl) rfl ?_
  unfold gX10_reservedProduct
  refine me_aload_n (pc' := 1) (i := 0) dX10_reservedProduct_0 rfl rfl rfl ?_
  refine me_iload_n (pc' := 2) (i := 1) dX10_reservedProduct_1 rfl rfl rfl ?_
  refine me_callV (As := [.int p0]) (st := []) (F' := (mm_Sq q)) (G' := (mm_Sq q)) (F'' := (mm_Sq q)) (pc' := 5) dX10_reservedProduct_2 rfl mfX10_checkReservation rfl lkX10_243 kd_0 rfl (mm_ltq kd_0) ⟨Nat.le_of_ble_eq_true rfl, Nat.le_of_ble_eq_true rfl⟩ (Nat.le_of_ble_eq_true rfl) (fun z => z) (rX10_checkReservation (q := q) p0 h ) (fun x1 e2 => ?_)
  rcases x1 with ⟨v3 | E5, h4⟩
  · refine Or.inl ⟨_, _, rfl, fun z => z, ?_⟩
    show mm_E2 _ _ _ _ _ [] h4 _ _
    try dsimp only
    refine me_aload_n (pc' := 6) (i := 0) dX10_reservedProduct_5 rfl rfl rfl ?_
    refine me_getR (pc' := 9) (q' := 21) dX10_reservedProduct_6 rfl fkX10_45 kd_0 (mm_ltq kd_0) rfl (mrX10_5 kd_0) ?_
    refine me_getR (pc' := 12) (q' := 32) dX10_reservedProduct_9 rfl fkX10_246 kd_21 (mm_ltq kd_21) rfl (mrX7_8 kd_21) ?_
    refine me_iload_n (pc' := 13) (i := 1) dX10_reservedProduct_12 rfl rfl rfl ?_
    refine me_callV (As := [.int p0]) (st := []) (F' := (mm_Sq q)) (G' := (mm_Sq q)) (F'' := (mm_Sq q)) (pc' := 16) dX10_reservedProduct_13 rfl mfX4_get rfl lkX10_152 kd_32 rfl (mm_ltq kd_32) ⟨Nat.le_of_ble_eq_true rfl, Nat.le_of_ble_eq_true rfl⟩ (Nat.le_of_ble_eq_true rfl) (fun z => z) (rX4_get (q := q) 32 p0 h4 kd_32) (fun x6 e7 => Or.inl ⟨_, _, rfl, fun z => z, ?_⟩)
    show mm_E2 _ _ _ _ _ [.int x6] h4 _ _
    exact me_iret dX10_reservedProduct_16 rfl (fun z => z) rfl
  · exact Or.inr ⟨_, _, rfl, rfl, fun z => z, fun y9 hy9 => by rw [← Option.some.inj hy9]; rfl⟩
def gX10_reservedQuantity (p0 : Int32) (h : mm_H) : Option ((Int32 ⊕ String) × mm_H) :=
(gX10_checkReservation p0 h).bind (fun (x1 : ((Unit ⊕ String) × mm_H)) => match x1 with
| (.inl _, h4) =>
(gX4_get 34 p0 h4).bind (fun (x6 : Int32) =>
some (.inl x6, h4))
| (.inr E5, h4) => some (.inr E5, h4))
theorem rX10_reservedQuantity {q : Nat × Nat} (p0 : Int32) (h : mm_H) : mm_R2 (mm_Sq q) (mm_Sq q) mX10_reservedQuantity [.ref 0, .int p0] h (gX10_reservedQuantity p0 h) lf_it := by
  refine mm_body (L := [some (.ref 0), some (.int p0)]) rfl (by decide +kernel) (Nat.le_of_ble_eq_true rfl) rfl ?_
  unfold gX10_reservedQuantity
  refine me_aload_n (pc' := 1) (i := 0) dX10_reservedQuantity_0 rfl rfl rfl ?_
  refine me_iload_n (pc' := 2) (i := 1) dX10_reservedQuantity_1 rfl rfl rfl ?_
  refine me_callV (As := [.int p0]) (st := []) (F' := (mm_Sq q)) (G' := (mm_Sq q)) (F'' := (mm_Sq q)) (pc' := 5) dX10_reservedQuantity_2 rfl mfX10_checkReservation rfl lkX10_243 kd_0 rfl (mm_ltq kd_0) ⟨Nat.le_of_ble_eq_true rfl, Nat.le_of_ble_eq_true rfl⟩ (Nat.le_of_ble_eq_true rfl) (fun z => z) (rX10_checkReservation (q := q) p0 h ) (fun x1 e2 => ?_)
  rcases x1 with ⟨v3 | E5, h4⟩
  · refine Or.inl ⟨_, _, rfl, fun z => z, ?_⟩
    show mm_E2 _ _ _ _ _ [] h4 _ _
    try dsimp only
    refine me_aload_n (pc' := 6) (i := 0) dX10_reservedQuantity_5 rfl rfl rfl ?_
    refine me_getR (pc' := 9) (q' := 21) dX10_reservedQuantity_6 rfl fkX10_45 kd_0 (mm_ltq kd_0) rfl (mrX10_5 kd_0) ?_
    refine me_getR (pc' := 12) (q' := 34) dX10_reservedQuantity_9 rfl fkX10_249 kd_21 (mm_ltq kd_21) rfl (mrX7_9 kd_21) ?_
    refine me_iload_n (pc' := 13) (i := 1) dX10_reservedQuantity_12 rfl rfl rfl ?_
    refine me_callV (As := [.int p0]) (st := []) (F' := (mm_Sq q)) (G' := (mm_Sq q)) (F'' := (mm_Sq q)) (pc' := 16) dX10_reservedQuantity_13 rfl mfX4_get rfl lkX10_152 kd_34 rfl (mm_ltq kd_34) ⟨Nat.le_of_ble_eq_true rfl, Nat.le_of_ble_eq_true rfl⟩ (Nat.le_of_ble_eq_true rfl) (fun z => z) (rX4_get (q := q) 34 p0 h4 kd_34) (fun x6 e7 => Or.inl ⟨_, _, rfl, fun z => z, ?_⟩)
    show mm_E2 _ _ _ _ _ [.int x6] h4 _ _
    exact me_iret dX10_reservedQuantity_16 rfl (fun z => z) rfl
  · exact Or.inr ⟨_, _, rfl, rfl, fun z => z, fun y9 hy9 => by rw [← Option.some.inj hy9]; rfl⟩
def gX10_isOpen (p0 : Int32) (h : mm_H) : Option ((Bool ⊕ String) × mm_H) :=
(gX10_checkReservation p0 h).bind (fun (x1 : ((Unit ⊕ String) × mm_H)) => match x1 with
| (.inl _, h4) =>
(gX7_isPending 21 p0 h4).bind (fun (x6 : Bool) =>
some (.inl x6, h4))
| (.inr E5, h4) => some (.inr E5, h4))
theorem rX10_isOpen {q : Nat × Nat} (p0 : Int32) (h : mm_H) : mm_R2 (mm_Sq q) (mm_Sq q) mX10_isOpen [.ref 0, .int p0] h (gX10_isOpen p0 h) lf_zt := by
  refine mm_body (L := [some (.ref 0), some (.int p0)]) rfl (by decide +kernel) (Nat.le_of_ble_eq_true rfl) rfl ?_
  unfold gX10_isOpen
  refine me_aload_n (pc' := 1) (i := 0) dX10_isOpen_0 rfl rfl rfl ?_
  refine me_iload_n (pc' := 2) (i := 1) dX10_isOpen_1 rfl rfl rfl ?_
  refine me_callV (As := [.int p0]) (st := []) (F' := (mm_Sq q)) (G' := (mm_Sq q)) (F'' := (mm_Sq q)) (pc' := 5) dX10_isOpen_2 rfl mfX10_checkReservation rfl lkX10_243 kd_0 rfl (mm_ltq kd_0) ⟨Nat.le_of_ble_eq_true rfl, Nat.le_of_ble_eq_true rfl⟩ (Nat.le_of_ble_eq_true rfl) (fun z => z) (rX10_checkReservation (q := q) p0 h ) (fun x1 e2 => ?_)
  rcases x1 with ⟨v3 | E5, h4⟩
  · refine Or.inl ⟨_, _, rfl, fun z => z, ?_⟩
    show mm_E2 _ _ _ _ _ [] h4 _ _
    try dsimp only
    refine me_aload_n (pc' := 6) (i := 0) dX10_isOpen_5 rfl rfl rfl ?_
    refine me_getR (pc' := 9) (q' := 21) dX10_isOpen_6 rfl fkX10_45 kd_0 (mm_ltq kd_0) rfl (mrX10_5 kd_0) ?_
    refine me_iload_n (pc' := 10) (i := 1) dX10_isOpen_9 rfl rfl rfl ?_
    refine me_callV (As := [.int p0]) (st := []) (F' := (mm_Sq q)) (G' := (mm_Sq q)) (F'' := (mm_Sq q)) (pc' := 13) dX10_isOpen_10 rfl mfX7_isPending rfl lkX10_252 kd_21 rfl (mm_ltq kd_21) ⟨Nat.le_of_ble_eq_true rfl, Nat.le_of_ble_eq_true rfl⟩ (Nat.le_of_ble_eq_true rfl) (fun z => z) (rX7_isPending (q := q) 21 p0 h4 kd_21) (fun x6 e7 => Or.inl ⟨_, _, rfl, fun z => z, ?_⟩)
    show mm_E2 _ _ _ _ _ [.int (mx_bi x6)] h4 _ _
    exact me_zret (b := x6) dX10_isOpen_13 rfl (fun z => z) rfl
  · exact Or.inr ⟨_, _, rfl, rfl, fun z => z, fun y9 hy9 => by rw [← Option.some.inj hy9]; rfl⟩
def gX10_missing (p0 : Int32) (h : mm_H) : Option ((Int32 ⊕ String) × mm_H) :=
(gX10_checkReservation p0 h).bind (fun (x1 : ((Unit ⊕ String) × mm_H)) => match x1 with
| (.inl _, h4) =>
(gX7_missingUnits 21 p0 h4).bind (fun (x6 : Int32) =>
some (.inl x6, h4))
| (.inr E5, h4) => some (.inr E5, h4))
theorem rX10_missing {q : Nat × Nat} (p0 : Int32) (h : mm_H) : mm_R2 (mm_Sq q) (mm_Sq q) mX10_missing [.ref 0, .int p0] h (gX10_missing p0 h) lf_it := by
  refine mm_body (L := [some (.ref 0), some (.int p0)]) rfl (by decide +kernel) (Nat.le_of_ble_eq_true rfl) rfl ?_
  unfold gX10_missing
  refine me_aload_n (pc' := 1) (i := 0) dX10_missing_0 rfl rfl rfl ?_
  refine me_iload_n (pc' := 2) (i := 1) dX10_missing_1 rfl rfl rfl ?_
  refine me_callV (As := [.int p0]) (st := []) (F' := (mm_Sq q)) (G' := (mm_Sq q)) (F'' := (mm_Sq q)) (pc' := 5) dX10_missing_2 rfl mfX10_checkReservation rfl lkX10_243 kd_0 rfl (mm_ltq kd_0) ⟨Nat.le_of_ble_eq_true rfl, Nat.le_of_ble_eq_true rfl⟩ (Nat.le_of_ble_eq_true rfl) (fun z => z) (rX10_checkReservation (q := q) p0 h ) (fun x1 e2 => ?_)
  rcases x1 with ⟨v3 | E5, h4⟩
  · refine Or.inl ⟨_, _, rfl, fun z => z, ?_⟩
    show mm_E2 _ _ _ _ _ [] h4 _ _
    try dsimp only
    refine me_aload_n (pc' := 6) (i := 0) dX10_missing_5 rfl rfl rfl ?_
    refine me_getR (pc' := 9) (q' := 21) dX10_missing_6 rfl fkX10_45 kd_0 (mm_ltq kd_0) rfl (mrX10_5 kd_0) ?_
    refine me_iload_n (pc' := 10) (i := 1) dX10_missing_9 rfl rfl rfl ?_
    refine me_callV (As := [.int p0]) (st := []) (F' := (mm_Sq q)) (G' := (mm_Sq q)) (F'' := (mm_Sq q)) (pc' := 13) dX10_missing_10 rfl mfX7_missingUnits rfl lkX10_255 kd_21 rfl (mm_ltq kd_21) ⟨Nat.le_of_ble_eq_true rfl, Nat.le_of_ble_eq_true rfl⟩ (Nat.le_of_ble_eq_true rfl) (fun z => z) (rX7_missingUnits (q := q) 21 p0 h4 kd_21) (fun x6 e7 => Or.inl ⟨_, _, rfl, fun z => z, ?_⟩)
    show mm_E2 _ _ _ _ _ [.int x6] h4 _ _
    exact me_iret dX10_missing_13 rfl (fun z => z) rfl
  · exact Or.inr ⟨_, _, rfl, rfl, fun z => z, fun y9 hy9 => by rw [← Option.some.inj hy9]; rfl⟩
def gX10_allocation (p0 : Int32) (p1 : Int32) (h : mm_H) : Option ((Int32 ⊕ String) × mm_H) :=
(gX10_checkReservation p0 h).bind (fun (x1 : ((Unit ⊕ String) × mm_H)) => match x1 with
| (.inl _, h4) =>
(gX10_checkBatch p1 h4).bind (fun (x6 : ((Unit ⊕ String) × mm_H)) => match x6 with
| (.inl _, h9) =>
(gX7_allocatedUnits 21 p0 p1 h9).bind (fun (x11 : Int32) =>
some (.inl x11, h9))
| (.inr E10, h9) => some (.inr E10, h9))
| (.inr E5, h4) => some (.inr E5, h4))
theorem rX10_allocation {q : Nat × Nat} (p0 : Int32) (p1 : Int32) (h : mm_H) : mm_R2 (mm_Sq q) (mm_Sq q) mX10_allocation [.ref 0, .int p0, .int p1] h (gX10_allocation p0 p1 h) lf_it := by
  refine mm_body (L := [some (.ref 0), some (.int p0), some (.int p1)]) rfl (by decide +kernel) (Nat.le_of_ble_eq_true rfl) rfl ?_
  unfold gX10_allocation
  refine me_aload_n (pc' := 1) (i := 0) dX10_allocation_0 rfl rfl rfl ?_
  refine me_iload_n (pc' := 2) (i := 1) dX10_allocation_1 rfl rfl rfl ?_
  refine me_callV (As := [.int p0]) (st := []) (F' := (mm_Sq q)) (G' := (mm_Sq q)) (F'' := (mm_Sq q)) (pc' := 5) dX10_allocation_2 rfl mfX10_checkReservation rfl lkX10_243 kd_0 rfl (mm_ltq kd_0) ⟨Nat.le_of_ble_eq_true rfl, Nat.le_of_ble_eq_true rfl⟩ (Nat.le_of_ble_eq_true rfl) (fun z => z) (rX10_checkReservation (q := q) p0 h ) (fun x1 e2 => ?_)
  rcases x1 with ⟨v3 | E5, h4⟩
  · refine Or.inl ⟨_, _, rfl, fun z => z, ?_⟩
    show mm_E2 _ _ _ _ _ [] h4 _ _
    try dsimp only
    refine me_aload_n (pc' := 6) (i := 0) dX10_allocation_5 rfl rfl rfl ?_
    refine me_iload_n (pc' := 7) (i := 2) dX10_allocation_6 rfl rfl rfl ?_
    refine me_callV (As := [.int p1]) (st := []) (F' := (mm_Sq q)) (G' := (mm_Sq q)) (F'' := (mm_Sq q)) (pc' := 10) dX10_allocation_7 rfl mfX10_checkBatch rfl lkX10_205 kd_0 rfl (mm_ltq kd_0) ⟨Nat.le_of_ble_eq_true rfl, Nat.le_of_ble_eq_true rfl⟩ (Nat.le_of_ble_eq_true rfl) (fun z => z) (rX10_checkBatch (q := q) p1 h4 ) (fun x6 e7 => ?_)
    rcases x6 with ⟨v8 | E10, h9⟩
    · refine Or.inl ⟨_, _, rfl, fun z => z, ?_⟩
      show mm_E2 _ _ _ _ _ [] h9 _ _
      try dsimp only
      refine me_aload_n (pc' := 11) (i := 0) dX10_allocation_10 rfl rfl rfl ?_
      refine me_getR (pc' := 14) (q' := 21) dX10_allocation_11 rfl fkX10_45 kd_0 (mm_ltq kd_0) rfl (mrX10_5 kd_0) ?_
      refine me_iload_n (pc' := 15) (i := 1) dX10_allocation_14 rfl rfl rfl ?_
      refine me_iload_n (pc' := 16) (i := 2) dX10_allocation_15 rfl rfl rfl ?_
      refine me_callV (As := [.int p0, .int p1]) (st := []) (F' := (mm_Sq q)) (G' := (mm_Sq q)) (F'' := (mm_Sq q)) (pc' := 19) dX10_allocation_16 rfl mfX7_allocatedUnits rfl lkX10_258 kd_21 rfl (mm_ltq kd_21) ⟨Nat.le_of_ble_eq_true rfl, Nat.le_of_ble_eq_true rfl⟩ (Nat.le_of_ble_eq_true rfl) (fun z => z) (rX7_allocatedUnits (q := q) 21 p0 p1 h9 kd_21) (fun x11 e12 => Or.inl ⟨_, _, rfl, fun z => z, ?_⟩)
      show mm_E2 _ _ _ _ _ [.int x11] h9 _ _
      exact me_iret dX10_allocation_19 rfl (fun z => z) rfl
    · exact Or.inr ⟨_, _, rfl, rfl, fun z => z, fun y9 hy9 => by rw [← Option.some.inj hy9]; rfl⟩
  · exact Or.inr ⟨_, _, rfl, rfl, fun z => z, fun y9 hy9 => by rw [← Option.some.inj hy9]; rfl⟩
def gX10_whyNotShipped (p0 : Int32) (h : mm_H) : Option ((Int32 ⊕ String) × mm_H) :=
(gX10_checkReservation p0 h).bind (fun (x1 : ((Unit ⊕ String) × mm_H)) => match x1 with
| (.inl _, h4) =>
(gX7_shippingObstacle 21 p0 h4).bind (fun (x6 : Int32) =>
some (.inl x6, h4))
| (.inr E5, h4) => some (.inr E5, h4))
theorem rX10_whyNotShipped {q : Nat × Nat} (p0 : Int32) (h : mm_H) : mm_R2 (mm_Sq q) (mm_Sq q) mX10_whyNotShipped [.ref 0, .int p0] h (gX10_whyNotShipped p0 h) lf_it := by
  refine mm_body (L := [some (.ref 0), some (.int p0)]) rfl (by decide +kernel) (Nat.le_of_ble_eq_true rfl) rfl ?_
  unfold gX10_whyNotShipped
  refine me_aload_n (pc' := 1) (i := 0) dX10_whyNotShipped_0 rfl rfl rfl ?_
  refine me_iload_n (pc' := 2) (i := 1) dX10_whyNotShipped_1 rfl rfl rfl ?_
  refine me_callV (As := [.int p0]) (st := []) (F' := (mm_Sq q)) (G' := (mm_Sq q)) (F'' := (mm_Sq q)) (pc' := 5) dX10_whyNotShipped_2 rfl mfX10_checkReservation rfl lkX10_243 kd_0 rfl (mm_ltq kd_0) ⟨Nat.le_of_ble_eq_true rfl, Nat.le_of_ble_eq_true rfl⟩ (Nat.le_of_ble_eq_true rfl) (fun z => z) (rX10_checkReservation (q := q) p0 h ) (fun x1 e2 => ?_)
  rcases x1 with ⟨v3 | E5, h4⟩
  · refine Or.inl ⟨_, _, rfl, fun z => z, ?_⟩
    show mm_E2 _ _ _ _ _ [] h4 _ _
    try dsimp only
    refine me_aload_n (pc' := 6) (i := 0) dX10_whyNotShipped_5 rfl rfl rfl ?_
    refine me_getR (pc' := 9) (q' := 21) dX10_whyNotShipped_6 rfl fkX10_45 kd_0 (mm_ltq kd_0) rfl (mrX10_5 kd_0) ?_
    refine me_iload_n (pc' := 10) (i := 1) dX10_whyNotShipped_9 rfl rfl rfl ?_
    refine me_callV (As := [.int p0]) (st := []) (F' := (mm_Sq q)) (G' := (mm_Sq q)) (F'' := (mm_Sq q)) (pc' := 13) dX10_whyNotShipped_10 rfl mfX7_shippingObstacle rfl lkX10_261 kd_21 rfl (mm_ltq kd_21) ⟨Nat.le_of_ble_eq_true rfl, Nat.le_of_ble_eq_true rfl⟩ (Nat.le_of_ble_eq_true rfl) (fun z => z) (rX7_shippingObstacle (q := q) 21 p0 h4 kd_21) (fun x6 e7 => Or.inl ⟨_, _, rfl, fun z => z, ?_⟩)
    show mm_E2 _ _ _ _ _ [.int x6] h4 _ _
    exact me_iret dX10_whyNotShipped_13 rfl (fun z => z) rfl
  · exact Or.inr ⟨_, _, rfl, rfl, fun z => z, fun y9 hy9 => by rw [← Option.some.inj hy9]; rfl⟩
def gX10_endangeredReservations_L4 (h : mm_H) : Nat → Int32 → Int32 → Option Int32
  | 0, _, _ => none
  | n + 1, w1, w2 =>
    if w2 < (mh_I h 21 7) then
    (gX7_isEndangered 21 w2 h).bind (fun (x4 : Bool) =>
    mm_jn (fun (y6 : Int32) =>
    (some (w2 + 1)).bind (fun (x8 : Int32) =>
    gX10_endangeredReservations_L4 h n y6 x8)) (fun (j7 : Int32 → Option Int32) =>
    if x4 = true then
    (some (w1 + 1)).bind (fun (x10 : Int32) =>
    j7 x10)
    else
    j7 w1))
    else
    some w1
def gX10_endangeredReservations (h : mm_H) : Option Int32 :=
gX10_endangeredReservations_L4 h mm_F 0 0
theorem rX10_endangeredReservations_L4 {q : Nat × Nat}    (h : mm_H) : ∀ (n : Nat) (w1 : Int32) (w2 : Int32), mm_E2 (mm_Sq q) (mm_Sq q) mX10_endangeredReservations 4 [some (.ref 0), some (.int w1), some (.int w2)] [] h (gX10_endangeredReservations_L4 h n w1 w2) (lf_i h) := by
  intro n
  induction n with
  | zero =>
    intro w1 w2
    exact mm_none
  | succ n ih =>
    intro w1 w2
    rw [gX10_endangeredReservations_L4]
    refine me_iload_n (pc' := 5) (i := 2) dX10_endangeredReservations_4 rfl rfl rfl ?_
    refine me_aload_n (pc' := 6) (i := 0) dX10_endangeredReservations_5 rfl rfl rfl ?_
    refine me_getR (pc' := 9) (q' := 21) dX10_endangeredReservations_6 rfl fkX10_45 kd_0 (mm_ltq kd_0) rfl (mrX10_5 kd_0) ?_
    refine me_getI (pc' := 12) dX10_endangeredReservations_9 rfl fkX10_240 kd_21 (mm_ltq kd_21) rfl ?_
    refine me_icmp_ge (pc' := 15) (tgt := 35) dX10_endangeredReservations_12 (by decide) rfl (fun c3 => ?_) (fun c3 => ?_)
    · refine me_iload_n (pc' := 36) (i := 1) dX10_endangeredReservations_35 rfl rfl rfl ?_
      exact me_iret dX10_endangeredReservations_36 rfl (fun z => z) rfl
    · refine me_aload_n (pc' := 16) (i := 0) dX10_endangeredReservations_15 rfl rfl rfl ?_
      refine me_getR (pc' := 19) (q' := 21) dX10_endangeredReservations_16 rfl fkX10_45 kd_0 (mm_ltq kd_0) rfl (mrX10_5 kd_0) ?_
      refine me_iload_n (pc' := 20) (i := 2) dX10_endangeredReservations_19 rfl rfl rfl ?_
      refine me_callV (As := [.int w2]) (st := []) (F' := (mm_Sq q)) (G' := (mm_Sq q)) (F'' := (mm_Sq q)) (pc' := 23) dX10_endangeredReservations_20 rfl mfX7_isEndangered rfl lkX10_264 kd_21 rfl (mm_ltq kd_21) ⟨Nat.le_of_ble_eq_true rfl, Nat.le_of_ble_eq_true rfl⟩ (Nat.le_of_ble_eq_true rfl) (fun z => z) (rX7_isEndangered (q := q) 21 w2 h kd_21) (fun x4 e5 => Or.inl ⟨_, _, rfl, fun z => z, ?_⟩)
      show mm_E2 _ _ _ _ _ [.int (mx_bi x4)] h _ _
      refine mm_jnI (fun (j79 : Int32 → Option Int32) => ∀ (y6 : Int32), mm_E2 (mm_Sq q) (mm_Sq q) mX10_endangeredReservations 29 [some (.ref 0), some (.int y6), some (.int w2)] [] h (j79 y6) (lf_i h)) ?_ (fun j7 j7p => ?_)
      · intro y6
        refine me_iinc (pc' := 32) (i := 2) (x := w2) (y := w2 + 1) (L' := [some (.ref 0), some (.int y6), some (.int (w2 + 1))]) dX10_endangeredReservations_29 rfl (Nat.le_of_ble_eq_true rfl) (Nat.le_of_ble_eq_true rfl) rfl (kc_plus kc_i1) rfl ?_
        refine mm_bnd (w2 + 1) (fun x8 => [some (.ref 0), some (.int y6), some (.int x8)]) (fun _ => []) (fun _ => h) (fun x8 => ?_)
        refine me_goto (tgt := 4) dX10_endangeredReservations_32 (by decide) ?_
        exact ih y6 x8
      refine me_ifB_eq (pc' := 26) (tgt := 29) dX10_endangeredReservations_23 (by decide) rfl (fun c9 => ?_) (fun c9 => ?_)
      · exact j7p w1
      · refine me_iinc (pc' := 29) (i := 1) (x := w1) (y := w1 + 1) (L' := [some (.ref 0), some (.int (w1 + 1)), some (.int w2)]) dX10_endangeredReservations_26 rfl (Nat.le_of_ble_eq_true rfl) (Nat.le_of_ble_eq_true rfl) rfl (kc_plus kc_i1) rfl ?_
        refine mm_bnd (w1 + 1) (fun x10 => [some (.ref 0), some (.int x10), some (.int w2)]) (fun _ => []) (fun _ => h) (fun x10 => ?_)
        exact j7p x10
theorem rX10_endangeredReservations {q : Nat × Nat} (h : mm_H) : mm_R2 (mm_Sq q) (mm_Sq q) mX10_endangeredReservations [.ref 0] h (gX10_endangeredReservations h) (lf_i h) := by
  refine mm_body (L := [some (.ref 0), none, none]) rfl (by decide +kernel) (Nat.le_of_ble_eq_true rfl) rfl ?_
  unfold gX10_endangeredReservations
  refine me_iconst (pc' := 1) (v := 0) dX10_endangeredReservations_0 rfl kc_i0 ?_
  refine me_istore_n (pc' := 2) (i := 1) (L' := [some (.ref 0), some (.int 0), none]) dX10_endangeredReservations_1 rfl rfl (Nat.le_of_ble_eq_true rfl) (Nat.le_of_ble_eq_true rfl) rfl ?_
  refine me_iconst (pc' := 3) (v := 0) dX10_endangeredReservations_2 rfl kc_i0 ?_
  refine me_istore_n (pc' := 4) (i := 2) (L' := [some (.ref 0), some (.int 0), some (.int 0)]) dX10_endangeredReservations_3 rfl rfl (Nat.le_of_ble_eq_true rfl) (Nat.le_of_ble_eq_true rfl) rfl ?_
  exact rX10_endangeredReservations_L4 (q := q) h mm_F 0 0
def gX10_receivedUnits (p0 : Int32) (h : mm_H) : Option ((Int32 ⊕ String) × mm_H) :=
(gX10_checkProduct p0 h).bind (fun (x1 : ((Unit ⊕ String) × mm_H)) => match x1 with
| (.inl _, h4) =>
(gX4_get 42 p0 h4).bind (fun (x6 : Int32) =>
some (.inl x6, h4))
| (.inr E5, h4) => some (.inr E5, h4))
theorem rX10_receivedUnits {q : Nat × Nat} (p0 : Int32) (h : mm_H) : mm_R2 (mm_Sq q) (mm_Sq q) mX10_receivedUnits [.ref 0, .int p0] h (gX10_receivedUnits p0 h) lf_it := by
  refine mm_body (L := [some (.ref 0), some (.int p0)]) rfl (by decide +kernel) (Nat.le_of_ble_eq_true rfl) rfl ?_
  unfold gX10_receivedUnits
  refine me_aload_n (pc' := 1) (i := 0) dX10_receivedUnits_0 rfl rfl rfl ?_
  refine me_iload_n (pc' := 2) (i := 1) dX10_receivedUnits_1 rfl rfl rfl ?_
  refine me_callV (As := [.int p0]) (st := []) (F' := (mm_Sq q)) (G' := (mm_Sq q)) (F'' := (mm_Sq q)) (pc' := 5) dX10_receivedUnits_2 rfl mfX10_checkProduct rfl lkX10_145 kd_0 rfl (mm_ltq kd_0) ⟨Nat.le_of_ble_eq_true rfl, Nat.le_of_ble_eq_true rfl⟩ (Nat.le_of_ble_eq_true rfl) (fun z => z) (rX10_checkProduct (q := q) p0 h ) (fun x1 e2 => ?_)
  rcases x1 with ⟨v3 | E5, h4⟩
  · refine Or.inl ⟨_, _, rfl, fun z => z, ?_⟩
    show mm_E2 _ _ _ _ _ [] h4 _ _
    try dsimp only
    refine me_aload_n (pc' := 6) (i := 0) dX10_receivedUnits_5 rfl rfl rfl ?_
    refine me_getR (pc' := 9) (q' := 21) dX10_receivedUnits_6 rfl fkX10_45 kd_0 (mm_ltq kd_0) rfl (mrX10_5 kd_0) ?_
    refine me_getR (pc' := 12) (q' := 42) dX10_receivedUnits_9 rfl fkX10_267 kd_21 (mm_ltq kd_21) rfl (mrX7_13 kd_21) ?_
    refine me_iload_n (pc' := 13) (i := 1) dX10_receivedUnits_12 rfl rfl rfl ?_
    refine me_callV (As := [.int p0]) (st := []) (F' := (mm_Sq q)) (G' := (mm_Sq q)) (F'' := (mm_Sq q)) (pc' := 16) dX10_receivedUnits_13 rfl mfX4_get rfl lkX10_152 kd_42 rfl (mm_ltq kd_42) ⟨Nat.le_of_ble_eq_true rfl, Nat.le_of_ble_eq_true rfl⟩ (Nat.le_of_ble_eq_true rfl) (fun z => z) (rX4_get (q := q) 42 p0 h4 kd_42) (fun x6 e7 => Or.inl ⟨_, _, rfl, fun z => z, ?_⟩)
    show mm_E2 _ _ _ _ _ [.int x6] h4 _ _
    exact me_iret dX10_receivedUnits_16 rfl (fun z => z) rfl
  · exact Or.inr ⟨_, _, rfl, rfl, fun z => z, fun y9 hy9 => by rw [← Option.some.inj hy9]; rfl⟩
def gX10_deliveredUnits (p0 : Int32) (h : mm_H) : Option ((Int32 ⊕ String) × mm_H) :=
(gX10_checkProduct p0 h).bind (fun (x1 : ((Unit ⊕ String) × mm_H)) => match x1 with
| (.inl _, h4) =>
(gX4_get 44 p0 h4).bind (fun (x6 : Int32) =>
(gX4_get 46 p0 h4).bind (fun (x8 : Int32) =>
some (.inl ((x6 + x8)), h4)))
| (.inr E5, h4) => some (.inr E5, h4))
theorem rX10_deliveredUnits {q : Nat × Nat} (p0 : Int32) (h : mm_H) : mm_R2 (mm_Sq q) (mm_Sq q) mX10_deliveredUnits [.ref 0, .int p0] h (gX10_deliveredUnits p0 h) lf_it := by
  refine mm_body (L := [some (.ref 0), some (.int p0)]) rfl (by decide +kernel) (Nat.le_of_ble_eq_true rfl) rfl ?_
  unfold gX10_deliveredUnits
  refine me_aload_n (pc' := 1) (i := 0) dX10_deliveredUnits_0 rfl rfl rfl ?_
  refine me_iload_n (pc' := 2) (i := 1) dX10_deliveredUnits_1 rfl rfl rfl ?_
  refine me_callV (As := [.int p0]) (st := []) (F' := (mm_Sq q)) (G' := (mm_Sq q)) (F'' := (mm_Sq q)) (pc' := 5) dX10_deliveredUnits_2 rfl mfX10_checkProduct rfl lkX10_145 kd_0 rfl (mm_ltq kd_0) ⟨Nat.le_of_ble_eq_true rfl, Nat.le_of_ble_eq_true rfl⟩ (Nat.le_of_ble_eq_true rfl) (fun z => z) (rX10_checkProduct (q := q) p0 h ) (fun x1 e2 => ?_)
  rcases x1 with ⟨v3 | E5, h4⟩
  · refine Or.inl ⟨_, _, rfl, fun z => z, ?_⟩
    show mm_E2 _ _ _ _ _ [] h4 _ _
    try dsimp only
    refine me_aload_n (pc' := 6) (i := 0) dX10_deliveredUnits_5 rfl rfl rfl ?_
    refine me_getR (pc' := 9) (q' := 21) dX10_deliveredUnits_6 rfl fkX10_45 kd_0 (mm_ltq kd_0) rfl (mrX10_5 kd_0) ?_
    refine me_getR (pc' := 12) (q' := 44) dX10_deliveredUnits_9 rfl fkX10_270 kd_21 (mm_ltq kd_21) rfl (mrX7_14 kd_21) ?_
    refine me_iload_n (pc' := 13) (i := 1) dX10_deliveredUnits_12 rfl rfl rfl ?_
    refine me_callV (As := [.int p0]) (st := []) (F' := (mm_Sq q)) (G' := (mm_Sq q)) (F'' := (mm_Sq q)) (pc' := 16) dX10_deliveredUnits_13 rfl mfX4_get rfl lkX10_152 kd_44 rfl (mm_ltq kd_44) ⟨Nat.le_of_ble_eq_true rfl, Nat.le_of_ble_eq_true rfl⟩ (Nat.le_of_ble_eq_true rfl) (fun z => z) (rX4_get (q := q) 44 p0 h4 kd_44) (fun x6 e7 => Or.inl ⟨_, _, rfl, fun z => z, ?_⟩)
    show mm_E2 _ _ _ _ _ [.int x6] h4 _ _
    refine me_aload_n (pc' := 17) (i := 0) dX10_deliveredUnits_16 rfl rfl rfl ?_
    refine me_getR (pc' := 20) (q' := 21) dX10_deliveredUnits_17 rfl fkX10_45 kd_0 (mm_ltq kd_0) rfl (mrX10_5 kd_0) ?_
    refine me_getR (pc' := 23) (q' := 46) dX10_deliveredUnits_20 rfl fkX10_273 kd_21 (mm_ltq kd_21) rfl (mrX7_15 kd_21) ?_
    refine me_iload_n (pc' := 24) (i := 1) dX10_deliveredUnits_23 rfl rfl rfl ?_
    refine me_callV (As := [.int p0]) (st := [.int x6]) (F' := (mm_Sq q)) (G' := (mm_Sq q)) (F'' := (mm_Sq q)) (pc' := 27) dX10_deliveredUnits_24 rfl mfX4_get rfl lkX10_152 kd_46 rfl (mm_ltq kd_46) ⟨Nat.le_of_ble_eq_true rfl, Nat.le_of_ble_eq_true rfl⟩ (Nat.le_of_ble_eq_true rfl) (fun z => z) (rX4_get (q := q) 46 p0 h4 kd_46) (fun x8 e9 => Or.inl ⟨_, _, rfl, fun z => z, ?_⟩)
    show mm_E2 _ _ _ _ _ [.int x8, .int x6] h4 _ _
    refine me_iadd (pc' := 28) dX10_deliveredUnits_27 rfl ?_
    exact me_iret dX10_deliveredUnits_28 rfl (fun z => z) rfl
  · exact Or.inr ⟨_, _, rfl, rfl, fun z => z, fun y9 hy9 => by rw [← Option.some.inj hy9]; rfl⟩
def gX10_writtenOffUnits (p0 : Int32) (h : mm_H) : Option ((Int32 ⊕ String) × mm_H) :=
(gX10_checkProduct p0 h).bind (fun (x1 : ((Unit ⊕ String) × mm_H)) => match x1 with
| (.inl _, h4) =>
(gX4_get 48 p0 h4).bind (fun (x6 : Int32) =>
some (.inl x6, h4))
| (.inr E5, h4) => some (.inr E5, h4))
theorem rX10_writtenOffUnits {q : Nat × Nat} (p0 : Int32) (h : mm_H) : mm_R2 (mm_Sq q) (mm_Sq q) mX10_writtenOffUnits [.ref 0, .int p0] h (gX10_writtenOffUnits p0 h) lf_it := by
  refine mm_body (L := [some (.ref 0), some (.int p0)]) rfl (by decide +kernel) (Nat.le_of_ble_eq_true rfl) rfl ?_
  unfold gX10_writtenOffUnits
  refine me_aload_n (pc' := 1) (i := 0) dX10_writtenOffUnits_0 rfl rfl rfl ?_
  refine me_iload_n (pc' := 2) (i := 1) dX10_writtenOffUnits_1 rfl rfl rfl ?_
  refine me_callV (As := [.int p0]) (st := []) (F' := (mm_Sq q)) (G' := (mm_Sq q)) (F'' := (mm_Sq q)) (pc' := 5) dX10_writtenOffUnits_2 rfl mfX10_checkProduct rfl lkX10_145 kd_0 rfl (mm_ltq kd_0) ⟨Nat.le_of_ble_eq_true rfl, Nat.le_of_ble_eq_true rfl⟩ (Nat.le_of_ble_eq_true rfl) (fun z => z) (rX10_checkProduct (q := q) p0 h ) (fun x1 e2 => ?_)
  rcases x1 with ⟨v3 | E5, h4⟩
  · refine Or.inl ⟨_, _, rfl, fun z => z, ?_⟩
    show mm_E2 _ _ _ _ _ [] h4 _ _
    try dsimp only
    refine me_aload_n (pc' := 6) (i := 0) dX10_writtenOffUnits_5 rfl rfl rfl ?_
    refine me_getR (pc' := 9) (q' := 21) dX10_writtenOffUnits_6 rfl fkX10_45 kd_0 (mm_ltq kd_0) rfl (mrX10_5 kd_0) ?_
    refine me_getR (pc' := 12) (q' := 48) dX10_writtenOffUnits_9 rfl fkX10_276 kd_21 (mm_ltq kd_21) rfl (mrX7_16 kd_21) ?_
    refine me_iload_n (pc' := 13) (i := 1) dX10_writtenOffUnits_12 rfl rfl rfl ?_
    refine me_callV (As := [.int p0]) (st := []) (F' := (mm_Sq q)) (G' := (mm_Sq q)) (F'' := (mm_Sq q)) (pc' := 16) dX10_writtenOffUnits_13 rfl mfX4_get rfl lkX10_152 kd_48 rfl (mm_ltq kd_48) ⟨Nat.le_of_ble_eq_true rfl, Nat.le_of_ble_eq_true rfl⟩ (Nat.le_of_ble_eq_true rfl) (fun z => z) (rX4_get (q := q) 48 p0 h4 kd_48) (fun x6 e7 => Or.inl ⟨_, _, rfl, fun z => z, ?_⟩)
    show mm_E2 _ _ _ _ _ [.int x6] h4 _ _
    exact me_iret dX10_writtenOffUnits_16 rfl (fun z => z) rfl
  · exact Or.inr ⟨_, _, rfl, rfl, fun z => z, fun y9 hy9 => by rw [← Option.some.inj hy9]; rfl⟩
def gX10_adjustment (p0 : Int32) (h : mm_H) : Option ((Int32 ⊕ String) × mm_H) :=
(gX10_checkProduct p0 h).bind (fun (x1 : ((Unit ⊕ String) × mm_H)) => match x1 with
| (.inl _, h4) =>
(gX4_get 50 p0 h4).bind (fun (x6 : Int32) =>
some (.inl x6, h4))
| (.inr E5, h4) => some (.inr E5, h4))
theorem rX10_adjustment {q : Nat × Nat} (p0 : Int32) (h : mm_H) : mm_R2 (mm_Sq q) (mm_Sq q) mX10_adjustment [.ref 0, .int p0] h (gX10_adjustment p0 h) lf_it := by
  refine mm_body (L := [some (.ref 0), some (.int p0)]) rfl (by decide +kernel) (Nat.le_of_ble_eq_true rfl) rfl ?_
  unfold gX10_adjustment
  refine me_aload_n (pc' := 1) (i := 0) dX10_adjustment_0 rfl rfl rfl ?_
  refine me_iload_n (pc' := 2) (i := 1) dX10_adjustment_1 rfl rfl rfl ?_
  refine me_callV (As := [.int p0]) (st := []) (F' := (mm_Sq q)) (G' := (mm_Sq q)) (F'' := (mm_Sq q)) (pc' := 5) dX10_adjustment_2 rfl mfX10_checkProduct rfl lkX10_145 kd_0 rfl (mm_ltq kd_0) ⟨Nat.le_of_ble_eq_true rfl, Nat.le_of_ble_eq_true rfl⟩ (Nat.le_of_ble_eq_true rfl) (fun z => z) (rX10_checkProduct (q := q) p0 h ) (fun x1 e2 => ?_)
  rcases x1 with ⟨v3 | E5, h4⟩
  · refine Or.inl ⟨_, _, rfl, fun z => z, ?_⟩
    show mm_E2 _ _ _ _ _ [] h4 _ _
    try dsimp only
    refine me_aload_n (pc' := 6) (i := 0) dX10_adjustment_5 rfl rfl rfl ?_
    refine me_getR (pc' := 9) (q' := 21) dX10_adjustment_6 rfl fkX10_45 kd_0 (mm_ltq kd_0) rfl (mrX10_5 kd_0) ?_
    refine me_getR (pc' := 12) (q' := 50) dX10_adjustment_9 rfl fkX10_279 kd_21 (mm_ltq kd_21) rfl (mrX7_17 kd_21) ?_
    refine me_iload_n (pc' := 13) (i := 1) dX10_adjustment_12 rfl rfl rfl ?_
    refine me_callV (As := [.int p0]) (st := []) (F' := (mm_Sq q)) (G' := (mm_Sq q)) (F'' := (mm_Sq q)) (pc' := 16) dX10_adjustment_13 rfl mfX4_get rfl lkX10_152 kd_50 rfl (mm_ltq kd_50) ⟨Nat.le_of_ble_eq_true rfl, Nat.le_of_ble_eq_true rfl⟩ (Nat.le_of_ble_eq_true rfl) (fun z => z) (rX4_get (q := q) 50 p0 h4 kd_50) (fun x6 e7 => Or.inl ⟨_, _, rfl, fun z => z, ?_⟩)
    show mm_E2 _ _ _ _ _ [.int x6] h4 _ _
    exact me_iret dX10_adjustment_16 rfl (fun z => z) rfl
  · exact Or.inr ⟨_, _, rfl, rfl, fun z => z, fun y9 hy9 => by rw [← Option.some.inj hy9]; rfl⟩
def gX10_meanCost (p0 : Int32) (h : mm_H) : Option ((UInt64 ⊕ String) × mm_H) :=
(gX10_checkProduct p0 h).bind (fun (x1 : ((Unit ⊕ String) × mm_H)) => match x1 with
| (.inl _, h4) =>
(gX7_unitsOf 21 p0 h4).bind (fun (x6 : Int32) =>
if x6 = 0 then
some (.inl FP.dconst0, h4)
else
(gX7_valueOf 21 p0 h4).bind (fun (x9 : Int32) =>
if mm_n64 (FP.ddiv ((FP.i2d x9)) ((FP.i2d x6))) = true then
some (.inl ((FP.ddiv ((FP.i2d x9)) ((FP.i2d x6)))), h4) else none))
| (.inr E5, h4) => some (.inr E5, h4))
theorem rX10_meanCost {q : Nat × Nat} (p0 : Int32) (h : mm_H) : mm_R2 (mm_Sq q) (mm_Sq q) mX10_meanCost [.ref 0, .int p0] h (gX10_meanCost p0 h) lf_dt := by
  refine mm_body (L := [some (.ref 0), some (.int p0), none]) rfl (by decide +kernel) (Nat.le_of_ble_eq_true rfl) rfl ?_
  unfold gX10_meanCost
  refine me_aload_n (pc' := 1) (i := 0) dX10_meanCost_0 rfl rfl rfl ?_
  refine me_iload_n (pc' := 2) (i := 1) dX10_meanCost_1 rfl rfl rfl ?_
  refine me_callV (As := [.int p0]) (st := []) (F' := (mm_Sq q)) (G' := (mm_Sq q)) (F'' := (mm_Sq q)) (pc' := 5) dX10_meanCost_2 rfl mfX10_checkProduct rfl lkX10_145 kd_0 rfl (mm_ltq kd_0) ⟨Nat.le_of_ble_eq_true rfl, Nat.le_of_ble_eq_true rfl⟩ (Nat.le_of_ble_eq_true rfl) (fun z => z) (rX10_checkProduct (q := q) p0 h ) (fun x1 e2 => ?_)
  rcases x1 with ⟨v3 | E5, h4⟩
  · refine Or.inl ⟨_, _, rfl, fun z => z, ?_⟩
    show mm_E2 _ _ _ _ _ [] h4 _ _
    try dsimp only
    refine me_aload_n (pc' := 6) (i := 0) dX10_meanCost_5 rfl rfl rfl ?_
    refine me_getR (pc' := 9) (q' := 21) dX10_meanCost_6 rfl fkX10_45 kd_0 (mm_ltq kd_0) rfl (mrX10_5 kd_0) ?_
    refine me_iload_n (pc' := 10) (i := 1) dX10_meanCost_9 rfl rfl rfl ?_
    refine me_callV (As := [.int p0]) (st := []) (F' := (mm_Sq q)) (G' := (mm_Sq q)) (F'' := (mm_Sq q)) (pc' := 13) dX10_meanCost_10 rfl mfX7_unitsOf rfl lkX10_183 kd_21 rfl (mm_ltq kd_21) ⟨Nat.le_of_ble_eq_true rfl, Nat.le_of_ble_eq_true rfl⟩ (Nat.le_of_ble_eq_true rfl) (fun z => z) (rX7_unitsOf (q := q) 21 p0 h4 kd_21) (fun x6 e7 => Or.inl ⟨_, _, rfl, fun z => z, ?_⟩)
    show mm_E2 _ _ _ _ _ [.int x6] h4 _ _
    refine me_istore_n (pc' := 14) (i := 2) (L' := [some (.ref 0), some (.int p0), some (.int x6)]) dX10_meanCost_13 rfl rfl (Nat.le_of_ble_eq_true rfl) (Nat.le_of_ble_eq_true rfl) rfl ?_
    refine me_iload_n (pc' := 15) (i := 2) dX10_meanCost_14 rfl rfl rfl ?_
    refine me_if_ne (pc' := 18) (tgt := 22) dX10_meanCost_15 (by decide) rfl (fun c8 => ?_) (fun c8 => ?_)
    · refine me_aload_n (pc' := 23) (i := 0) dX10_meanCost_22 rfl rfl rfl ?_
      refine me_getR (pc' := 26) (q' := 21) dX10_meanCost_23 rfl fkX10_45 kd_0 (mm_ltq kd_0) rfl (mrX10_5 kd_0) ?_
      refine me_iload_n (pc' := 27) (i := 1) dX10_meanCost_26 rfl rfl rfl ?_
      refine me_callV (As := [.int p0]) (st := []) (F' := (mm_Sq q)) (G' := (mm_Sq q)) (F'' := (mm_Sq q)) (pc' := 30) dX10_meanCost_27 rfl mfX7_valueOf rfl lkX10_196 kd_21 rfl (mm_ltq kd_21) ⟨Nat.le_of_ble_eq_true rfl, Nat.le_of_ble_eq_true rfl⟩ (Nat.le_of_ble_eq_true rfl) (fun z => z) (rX7_valueOf (q := q) 21 p0 h4 kd_21) (fun x9 e10 => Or.inl ⟨_, _, rfl, fun z => z, ?_⟩)
      show mm_E2 _ _ _ _ _ [.int x9] h4 _ _
      refine me_i2d (pc' := 31) dX10_meanCost_30 rfl ?_
      refine me_iload_n (pc' := 32) (i := 2) dX10_meanCost_31 rfl rfl rfl ?_
      refine me_i2d (pc' := 33) dX10_meanCost_32 rfl ?_
      refine mm_guard (fun c11 => ?_)
      refine me_ddiv (pc' := 34) dX10_meanCost_33 rfl (mm_n64_of c11) ?_
      exact me_dret dX10_meanCost_34 rfl (fun z => z) rfl
    · refine me_dconst0 (pc' := 19) dX10_meanCost_18 rfl ?_
      refine me_goto (tgt := 34) dX10_meanCost_19 (by decide) ?_
      exact me_dret dX10_meanCost_34 rfl (fun z => z) rfl
  · exact Or.inr ⟨_, _, rfl, rfl, fun z => z, fun y9 hy9 => by rw [← Option.some.inj hy9]; rfl⟩
def gX10_wasteShare (p0 : Int32) (h : mm_H) : Option ((UInt32 ⊕ String) × mm_H) :=
(gX10_checkProduct p0 h).bind (fun (x1 : ((Unit ⊕ String) × mm_H)) => match x1 with
| (.inl _, h4) =>
(gX4_get 42 p0 h4).bind (fun (x6 : Int32) =>
if x6 = 0 then
some (.inl FP.fconst0, h4)
else
(gX4_get 48 p0 h4).bind (fun (x9 : Int32) =>
if mm_n32 (FP.fdiv ((FP.i2f x9)) ((FP.i2f x6))) = true then
some (.inl ((FP.fdiv ((FP.i2f x9)) ((FP.i2f x6)))), h4) else none))
| (.inr E5, h4) => some (.inr E5, h4))
theorem rX10_wasteShare {q : Nat × Nat} (p0 : Int32) (h : mm_H) : mm_R2 (mm_Sq q) (mm_Sq q) mX10_wasteShare [.ref 0, .int p0] h (gX10_wasteShare p0 h) lf_ft := by
  refine mm_body (L := [some (.ref 0), some (.int p0), none]) rfl (by decide +kernel) (Nat.le_of_ble_eq_true rfl) rfl ?_
  unfold gX10_wasteShare
  refine me_aload_n (pc' := 1) (i := 0) dX10_wasteShare_0 rfl rfl rfl ?_
  refine me_iload_n (pc' := 2) (i := 1) dX10_wasteShare_1 rfl rfl rfl ?_
  refine me_callV (As := [.int p0]) (st := []) (F' := (mm_Sq q)) (G' := (mm_Sq q)) (F'' := (mm_Sq q)) (pc' := 5) dX10_wasteShare_2 rfl mfX10_checkProduct rfl lkX10_145 kd_0 rfl (mm_ltq kd_0) ⟨Nat.le_of_ble_eq_true rfl, Nat.le_of_ble_eq_true rfl⟩ (Nat.le_of_ble_eq_true rfl) (fun z => z) (rX10_checkProduct (q := q) p0 h ) (fun x1 e2 => ?_)
  rcases x1 with ⟨v3 | E5, h4⟩
  · refine Or.inl ⟨_, _, rfl, fun z => z, ?_⟩
    show mm_E2 _ _ _ _ _ [] h4 _ _
    try dsimp only
    refine me_aload_n (pc' := 6) (i := 0) dX10_wasteShare_5 rfl rfl rfl ?_
    refine me_getR (pc' := 9) (q' := 21) dX10_wasteShare_6 rfl fkX10_45 kd_0 (mm_ltq kd_0) rfl (mrX10_5 kd_0) ?_
    refine me_getR (pc' := 12) (q' := 42) dX10_wasteShare_9 rfl fkX10_267 kd_21 (mm_ltq kd_21) rfl (mrX7_13 kd_21) ?_
    refine me_iload_n (pc' := 13) (i := 1) dX10_wasteShare_12 rfl rfl rfl ?_
    refine me_callV (As := [.int p0]) (st := []) (F' := (mm_Sq q)) (G' := (mm_Sq q)) (F'' := (mm_Sq q)) (pc' := 16) dX10_wasteShare_13 rfl mfX4_get rfl lkX10_152 kd_42 rfl (mm_ltq kd_42) ⟨Nat.le_of_ble_eq_true rfl, Nat.le_of_ble_eq_true rfl⟩ (Nat.le_of_ble_eq_true rfl) (fun z => z) (rX4_get (q := q) 42 p0 h4 kd_42) (fun x6 e7 => Or.inl ⟨_, _, rfl, fun z => z, ?_⟩)
    show mm_E2 _ _ _ _ _ [.int x6] h4 _ _
    refine me_istore_n (pc' := 17) (i := 2) (L' := [some (.ref 0), some (.int p0), some (.int x6)]) dX10_wasteShare_16 rfl rfl (Nat.le_of_ble_eq_true rfl) (Nat.le_of_ble_eq_true rfl) rfl ?_
    refine me_iload_n (pc' := 18) (i := 2) dX10_wasteShare_17 rfl rfl rfl ?_
    refine me_if_ne (pc' := 21) (tgt := 25) dX10_wasteShare_18 (by decide) rfl (fun c8 => ?_) (fun c8 => ?_)
    · refine me_aload_n (pc' := 26) (i := 0) dX10_wasteShare_25 rfl rfl rfl ?_
      refine me_getR (pc' := 29) (q' := 21) dX10_wasteShare_26 rfl fkX10_45 kd_0 (mm_ltq kd_0) rfl (mrX10_5 kd_0) ?_
      refine me_getR (pc' := 32) (q' := 48) dX10_wasteShare_29 rfl fkX10_276 kd_21 (mm_ltq kd_21) rfl (mrX7_16 kd_21) ?_
      refine me_iload_n (pc' := 33) (i := 1) dX10_wasteShare_32 rfl rfl rfl ?_
      refine me_callV (As := [.int p0]) (st := []) (F' := (mm_Sq q)) (G' := (mm_Sq q)) (F'' := (mm_Sq q)) (pc' := 36) dX10_wasteShare_33 rfl mfX4_get rfl lkX10_152 kd_48 rfl (mm_ltq kd_48) ⟨Nat.le_of_ble_eq_true rfl, Nat.le_of_ble_eq_true rfl⟩ (Nat.le_of_ble_eq_true rfl) (fun z => z) (rX4_get (q := q) 48 p0 h4 kd_48) (fun x9 e10 => Or.inl ⟨_, _, rfl, fun z => z, ?_⟩)
      show mm_E2 _ _ _ _ _ [.int x9] h4 _ _
      refine me_i2f (pc' := 37) dX10_wasteShare_36 rfl ?_
      refine me_iload_n (pc' := 38) (i := 2) dX10_wasteShare_37 rfl rfl rfl ?_
      refine me_i2f (pc' := 39) dX10_wasteShare_38 rfl ?_
      refine mm_guard (fun c11 => ?_)
      refine me_fdiv (pc' := 40) dX10_wasteShare_39 rfl (mm_n32_of c11) ?_
      exact me_fret dX10_wasteShare_40 rfl (fun z => z) rfl
    · refine me_fconst0 (pc' := 22) dX10_wasteShare_21 rfl ?_
      refine me_goto (tgt := 40) dX10_wasteShare_22 (by decide) ?_
      exact me_fret dX10_wasteShare_40 rfl (fun z => z) rfl
  · exact Or.inr ⟨_, _, rfl, rfl, fun z => z, fun y9 hy9 => by rw [← Option.some.inj hy9]; rfl⟩
def gX10_inconsistencies_L45 (h : mm_H) : Nat → Int32 → Int32 → Option Int32
  | 0, _, _ => none
  | n + 1, w4, w5 =>
    if w5 < (mh_I h 21 1) then
    (gX7_freeUnitsIn 21 w5 h).bind (fun (x7 : Int32) =>
    mm_jn (fun (y9 : Int32) =>
    (some (w5 + 1)).bind (fun (x11 : Int32) =>
    gX10_inconsistencies_L45 h n y9 x11)) (fun (j10 : Int32 → Option Int32) =>
    if x7 < 0 then
    (some (w4 + 1)).bind (fun (x13 : Int32) =>
    j10 x13)
    else
    j10 w4))
    else
    some w4
def gX10_inconsistencies_L4 (h : mm_H) : Nat → Int32 → Int32 → Option Int32
  | 0, _, _ => none
  | n + 1, w1, w2 =>
    if w2 < (mh_I h 14 0) then
    (gX7_unitsOf 21 w2 h).bind (fun (x14 : Int32) =>
    (gX7_unitsByAccounts 21 w2 h).bind (fun (x16 : Int32) =>
    mm_jn (fun (y18 : Int32) =>
    (some (w2 + 1)).bind (fun (x20 : Int32) =>
    gX10_inconsistencies_L4 h n y18 x20)) (fun (j19 : Int32 → Option Int32) =>
    if x14 = x16 then
    j19 w1
    else
    (some (w1 + 1)).bind (fun (x22 : Int32) =>
    j19 x22))))
    else
    gX10_inconsistencies_L45 h mm_F w1 0
def gX10_inconsistencies (h : mm_H) : Option Int32 :=
gX10_inconsistencies_L4 h mm_F 0 0
theorem rX10_inconsistencies_L45 {q : Nat × Nat}    (h : mm_H) : ∀ (n : Nat) (w4 : Int32) (w5 : Int32), mm_E2 (mm_Sq q) (mm_Sq q) mX10_inconsistencies 45 [some (.ref 0), some (.int w4), some (.int w5)] [] h (gX10_inconsistencies_L45 h n w4 w5) (lf_i h) := by
  intro n
  induction n with
  | zero =>
    intro w4 w5
    exact mm_none
  | succ n ih =>
    intro w4 w5
    rw [gX10_inconsistencies_L45]
    refine me_iload_n (pc' := 46) (i := 2) dX10_inconsistencies_45 rfl rfl rfl ?_
    refine me_aload_n (pc' := 47) (i := 0) dX10_inconsistencies_46 rfl rfl rfl ?_
    refine me_getR (pc' := 50) (q' := 21) dX10_inconsistencies_47 rfl fkX10_45 kd_0 (mm_ltq kd_0) rfl (mrX10_5 kd_0) ?_
    refine me_getI (pc' := 53) dX10_inconsistencies_50 rfl fkX10_202 kd_21 (mm_ltq kd_21) rfl ?_
    refine me_icmp_ge (pc' := 56) (tgt := 76) dX10_inconsistencies_53 (by decide) rfl (fun c6 => ?_) (fun c6 => ?_)
    · refine me_iload_n (pc' := 77) (i := 1) dX10_inconsistencies_76 rfl rfl rfl ?_
      exact me_iret dX10_inconsistencies_77 rfl (fun z => z) rfl
    · refine me_aload_n (pc' := 57) (i := 0) dX10_inconsistencies_56 rfl rfl rfl ?_
      refine me_getR (pc' := 60) (q' := 21) dX10_inconsistencies_57 rfl fkX10_45 kd_0 (mm_ltq kd_0) rfl (mrX10_5 kd_0) ?_
      refine me_iload_n (pc' := 61) (i := 2) dX10_inconsistencies_60 rfl rfl rfl ?_
      refine me_callV (As := [.int w5]) (st := []) (F' := (mm_Sq q)) (G' := (mm_Sq q)) (F'' := (mm_Sq q)) (pc' := 64) dX10_inconsistencies_61 rfl mfX7_freeUnitsIn rfl lkX10_285 kd_21 rfl (mm_ltq kd_21) ⟨Nat.le_of_ble_eq_true rfl, Nat.le_of_ble_eq_true rfl⟩ (Nat.le_of_ble_eq_true rfl) (fun z => z) (rX7_freeUnitsIn (q := q) 21 w5 h kd_21) (fun x7 e8 => Or.inl ⟨_, _, rfl, fun z => z, ?_⟩)
      show mm_E2 _ _ _ _ _ [.int x7] h _ _
      refine mm_jnI (fun (j109 : Int32 → Option Int32) => ∀ (y9 : Int32), mm_E2 (mm_Sq q) (mm_Sq q) mX10_inconsistencies 70 [some (.ref 0), some (.int y9), some (.int w5)] [] h (j109 y9) (lf_i h)) ?_ (fun j10 j10p => ?_)
      · intro y9
        refine me_iinc (pc' := 73) (i := 2) (x := w5) (y := w5 + 1) (L' := [some (.ref 0), some (.int y9), some (.int (w5 + 1))]) dX10_inconsistencies_70 rfl (Nat.le_of_ble_eq_true rfl) (Nat.le_of_ble_eq_true rfl) rfl (kc_plus kc_i1) rfl ?_
        refine mm_bnd (w5 + 1) (fun x11 => [some (.ref 0), some (.int y9), some (.int x11)]) (fun _ => []) (fun _ => h) (fun x11 => ?_)
        refine me_goto (tgt := 45) dX10_inconsistencies_73 (by decide) ?_
        exact ih y9 x11
      refine me_if_ge (pc' := 67) (tgt := 70) dX10_inconsistencies_64 (by decide) rfl (fun c12 => ?_) (fun c12 => ?_)
      · exact j10p w4
      · refine me_iinc (pc' := 70) (i := 1) (x := w4) (y := w4 + 1) (L' := [some (.ref 0), some (.int (w4 + 1)), some (.int w5)]) dX10_inconsistencies_67 rfl (Nat.le_of_ble_eq_true rfl) (Nat.le_of_ble_eq_true rfl) rfl (kc_plus kc_i1) rfl ?_
        refine mm_bnd (w4 + 1) (fun x13 => [some (.ref 0), some (.int x13), some (.int w5)]) (fun _ => []) (fun _ => h) (fun x13 => ?_)
        exact j10p x13
theorem rX10_inconsistencies_L4 {q : Nat × Nat}    (h : mm_H) : ∀ (n : Nat) (w1 : Int32) (w2 : Int32), mm_E2 (mm_Sq q) (mm_Sq q) mX10_inconsistencies 4 [some (.ref 0), some (.int w1), some (.int w2)] [] h (gX10_inconsistencies_L4 h n w1 w2) (lf_i h) := by
  intro n
  induction n with
  | zero =>
    intro w1 w2
    exact mm_none
  | succ n ih =>
    intro w1 w2
    rw [gX10_inconsistencies_L4]
    refine me_iload_n (pc' := 5) (i := 2) dX10_inconsistencies_4 rfl rfl rfl ?_
    refine me_aload_n (pc' := 6) (i := 0) dX10_inconsistencies_5 rfl rfl rfl ?_
    refine me_getR (pc' := 9) (q' := 14) dX10_inconsistencies_6 rfl fkX10_38 kd_0 (mm_ltq kd_0) rfl (mrX10_4 kd_0) ?_
    refine me_getI (pc' := 12) dX10_inconsistencies_9 rfl fkX10_133 kd_14 (mm_ltq kd_14) rfl ?_
    refine me_icmp_ge (pc' := 15) (tgt := 43) dX10_inconsistencies_12 (by decide) rfl (fun c3 => ?_) (fun c3 => ?_)
    · refine me_iconst (pc' := 44) (v := 0) dX10_inconsistencies_43 rfl kc_i0 ?_
      refine me_istore_n (pc' := 45) (i := 2) (L' := [some (.ref 0), some (.int w1), some (.int 0)]) dX10_inconsistencies_44 rfl rfl (Nat.le_of_ble_eq_true rfl) (Nat.le_of_ble_eq_true rfl) rfl ?_
      exact rX10_inconsistencies_L45 (q := q) h mm_F w1 0
    · refine me_aload_n (pc' := 16) (i := 0) dX10_inconsistencies_15 rfl rfl rfl ?_
      refine me_getR (pc' := 19) (q' := 21) dX10_inconsistencies_16 rfl fkX10_45 kd_0 (mm_ltq kd_0) rfl (mrX10_5 kd_0) ?_
      refine me_iload_n (pc' := 20) (i := 2) dX10_inconsistencies_19 rfl rfl rfl ?_
      refine me_callV (As := [.int w2]) (st := []) (F' := (mm_Sq q)) (G' := (mm_Sq q)) (F'' := (mm_Sq q)) (pc' := 23) dX10_inconsistencies_20 rfl mfX7_unitsOf rfl lkX10_183 kd_21 rfl (mm_ltq kd_21) ⟨Nat.le_of_ble_eq_true rfl, Nat.le_of_ble_eq_true rfl⟩ (Nat.le_of_ble_eq_true rfl) (fun z => z) (rX7_unitsOf (q := q) 21 w2 h kd_21) (fun x14 e15 => Or.inl ⟨_, _, rfl, fun z => z, ?_⟩)
      show mm_E2 _ _ _ _ _ [.int x14] h _ _
      refine me_aload_n (pc' := 24) (i := 0) dX10_inconsistencies_23 rfl rfl rfl ?_
      refine me_getR (pc' := 27) (q' := 21) dX10_inconsistencies_24 rfl fkX10_45 kd_0 (mm_ltq kd_0) rfl (mrX10_5 kd_0) ?_
      refine me_iload_n (pc' := 28) (i := 2) dX10_inconsistencies_27 rfl rfl rfl ?_
      refine me_callV (As := [.int w2]) (st := [.int x14]) (F' := (mm_Sq q)) (G' := (mm_Sq q)) (F'' := (mm_Sq q)) (pc' := 31) dX10_inconsistencies_28 rfl mfX7_unitsByAccounts rfl lkX10_282 kd_21 rfl (mm_ltq kd_21) ⟨Nat.le_of_ble_eq_true rfl, Nat.le_of_ble_eq_true rfl⟩ (Nat.le_of_ble_eq_true rfl) (fun z => z) (rX7_unitsByAccounts (q := q) 21 w2 h kd_21) (fun x16 e17 => Or.inl ⟨_, _, rfl, fun z => z, ?_⟩)
      show mm_E2 _ _ _ _ _ [.int x16, .int x14] h _ _
      refine mm_jnI (fun (j199 : Int32 → Option Int32) => ∀ (y18 : Int32), mm_E2 (mm_Sq q) (mm_Sq q) mX10_inconsistencies 37 [some (.ref 0), some (.int y18), some (.int w2)] [] h (j199 y18) (lf_i h)) ?_ (fun j19 j19p => ?_)
      · intro y18
        refine me_iinc (pc' := 40) (i := 2) (x := w2) (y := w2 + 1) (L' := [some (.ref 0), some (.int y18), some (.int (w2 + 1))]) dX10_inconsistencies_37 rfl (Nat.le_of_ble_eq_true rfl) (Nat.le_of_ble_eq_true rfl) rfl (kc_plus kc_i1) rfl ?_
        refine mm_bnd (w2 + 1) (fun x20 => [some (.ref 0), some (.int y18), some (.int x20)]) (fun _ => []) (fun _ => h) (fun x20 => ?_)
        refine me_goto (tgt := 4) dX10_inconsistencies_40 (by decide) ?_
        exact ih y18 x20
      refine me_icmp_eq (pc' := 34) (tgt := 37) dX10_inconsistencies_31 (by decide) rfl (fun c21 => ?_) (fun c21 => ?_)
      · exact j19p w1
      · refine me_iinc (pc' := 37) (i := 1) (x := w1) (y := w1 + 1) (L' := [some (.ref 0), some (.int (w1 + 1)), some (.int w2)]) dX10_inconsistencies_34 rfl (Nat.le_of_ble_eq_true rfl) (Nat.le_of_ble_eq_true rfl) rfl (kc_plus kc_i1) rfl ?_
        refine mm_bnd (w1 + 1) (fun x22 => [some (.ref 0), some (.int x22), some (.int w2)]) (fun _ => []) (fun _ => h) (fun x22 => ?_)
        exact j19p x22
theorem rX10_inconsistencies {q : Nat × Nat} (h : mm_H) : mm_R2 (mm_Sq q) (mm_Sq q) mX10_inconsistencies [.ref 0] h (gX10_inconsistencies h) (lf_i h) := by
  refine mm_body (L := [some (.ref 0), none, none]) rfl (by decide +kernel) (Nat.le_of_ble_eq_true rfl) rfl ?_
  unfold gX10_inconsistencies
  refine me_iconst (pc' := 1) (v := 0) dX10_inconsistencies_0 rfl kc_i0 ?_
  refine me_istore_n (pc' := 2) (i := 1) (L' := [some (.ref 0), some (.int 0), none]) dX10_inconsistencies_1 rfl rfl (Nat.le_of_ble_eq_true rfl) (Nat.le_of_ble_eq_true rfl) rfl ?_
  refine me_iconst (pc' := 3) (v := 0) dX10_inconsistencies_2 rfl kc_i0 ?_
  refine me_istore_n (pc' := 4) (i := 2) (L' := [some (.ref 0), some (.int 0), some (.int 0)]) dX10_inconsistencies_3 rfl rfl (Nat.le_of_ble_eq_true rfl) (Nat.le_of_ble_eq_true rfl) rfl ?_
  exact rX10_inconsistencies_L4 (q := q) h mm_F 0 0
def gX10_daysUntilShortage (p0 : Int32) (p1 : Int32) (h : mm_H) : Option ((Int32 ⊕ String) × mm_H) :=
(gX10_checkProduct p0 h).bind (fun (x1 : ((Unit ⊕ String) × mm_H)) => match x1 with
| (.inl _, h4) =>
(gX10_checkRange p1 1 999 h4).bind (fun (x6 : ((Unit ⊕ String) × mm_H)) => match x6 with
| (.inl _, h9) =>
(gX7_daysMet 21 p0 p1 h9).bind (fun (x11 : (Int32 × mm_H)) =>
some (.inl x11.1, x11.2))
| (.inr E10, h9) => some (.inr E10, h9))
| (.inr E5, h4) => some (.inr E5, h4))
theorem rX10_daysUntilShortage {q : Nat × Nat} (p0 : Int32) (p1 : Int32) (h : mm_H) : mm_R2 (mm_Sq q) (mm_Sq q) mX10_daysUntilShortage [.ref 0, .int p0, .int p1] h (gX10_daysUntilShortage p0 p1 h) lf_it := by
  refine mm_body (L := [some (.ref 0), some (.int p0), some (.int p1)]) rfl (by decide +kernel) (Nat.le_of_ble_eq_true rfl) rfl ?_
  unfold gX10_daysUntilShortage
  refine me_aload_n (pc' := 1) (i := 0) dX10_daysUntilShortage_0 rfl rfl rfl ?_
  refine me_iload_n (pc' := 2) (i := 1) dX10_daysUntilShortage_1 rfl rfl rfl ?_
  refine me_callV (As := [.int p0]) (st := []) (F' := (mm_Sq q)) (G' := (mm_Sq q)) (F'' := (mm_Sq q)) (pc' := 5) dX10_daysUntilShortage_2 rfl mfX10_checkProduct rfl lkX10_145 kd_0 rfl (mm_ltq kd_0) ⟨Nat.le_of_ble_eq_true rfl, Nat.le_of_ble_eq_true rfl⟩ (Nat.le_of_ble_eq_true rfl) (fun z => z) (rX10_checkProduct (q := q) p0 h ) (fun x1 e2 => ?_)
  rcases x1 with ⟨v3 | E5, h4⟩
  · refine Or.inl ⟨_, _, rfl, fun z => z, ?_⟩
    show mm_E2 _ _ _ _ _ [] h4 _ _
    try dsimp only
    refine me_iload_n (pc' := 6) (i := 2) dX10_daysUntilShortage_5 rfl rfl rfl ?_
    refine me_iconst (pc' := 7) (v := 1) dX10_daysUntilShortage_6 rfl kc_i1 ?_
    refine me_sipush (pc' := 10) (v := 999) dX10_daysUntilShortage_7 rfl kc_s999 ?_
    refine me_callS (As := [.int p1, .int 1, .int 999]) (st := []) (F' := (mm_Sq q)) (G' := (mm_Sq q)) (F'' := (mm_Sq q)) (pc' := 13) dX10_daysUntilShortage_10 rfl mfX10_checkRange rfl lkX10_104 ⟨Nat.le_of_ble_eq_true rfl, Nat.le_of_ble_eq_true rfl⟩ (Nat.le_of_ble_eq_true rfl) (fun z => z) (rX10_checkRange (q := q) p1 1 999 h4 ) (fun x6 e7 => ?_)
    rcases x6 with ⟨v8 | E10, h9⟩
    · refine Or.inl ⟨_, _, rfl, fun z => z, ?_⟩
      show mm_E2 _ _ _ _ _ [] h9 _ _
      try dsimp only
      refine me_aload_n (pc' := 14) (i := 0) dX10_daysUntilShortage_13 rfl rfl rfl ?_
      refine me_getR (pc' := 17) (q' := 21) dX10_daysUntilShortage_14 rfl fkX10_45 kd_0 (mm_ltq kd_0) rfl (mrX10_5 kd_0) ?_
      refine me_aload_n (pc' := 18) (i := 0) dX10_daysUntilShortage_17 rfl rfl rfl ?_
      refine me_getR (pc' := 21) (q' := 347) dX10_daysUntilShortage_18 rfl fkX10_72 kd_0 (mm_ltq kd_0) rfl (mrX10_10 kd_0) ?_
      refine me_iload_n (pc' := 22) (i := 1) dX10_daysUntilShortage_21 rfl rfl rfl ?_
      refine me_iload_n (pc' := 23) (i := 2) dX10_daysUntilShortage_22 rfl rfl rfl ?_
      refine me_callV (As := [.ref 347, .int p0, .int p1]) (st := []) (F' := (mm_Sq q)) (G' := (mm_Sq q)) (F'' := (mm_Sq q)) (pc' := 26) dX10_daysUntilShortage_23 rfl mfX7_daysMet rfl lkX10_288 kd_21 rfl (mm_ltq kd_21) ⟨Nat.le_of_ble_eq_true rfl, Nat.le_of_ble_eq_true rfl⟩ (Nat.le_of_ble_eq_true rfl) (fun z => z) (rX7_daysMet (q := q) 21 p0 p1 h9 kd_21) (fun x11 e12 => Or.inl ⟨_, _, rfl, fun z => z, ?_⟩)
      show mm_E2 _ _ _ _ _ [.int x11.1] x11.2 _ _
      exact me_iret dX10_daysUntilShortage_26 rfl (fun z => z) rfl
    · exact Or.inr ⟨_, _, rfl, rfl, fun z => z, fun y9 hy9 => by rw [← Option.some.inj hy9]; rfl⟩
  · exact Or.inr ⟨_, _, rfl, rfl, fun z => z, fun y9 hy9 => by rw [← Option.some.inj hy9]; rfl⟩
def gX10_wasteWithDemand (p0 : Int32) (p1 : Int32) (p2 : Int32) (h : mm_H) : Option ((Int32 ⊕ String) × mm_H) :=
(gX10_checkProduct p0 h).bind (fun (x1 : ((Unit ⊕ String) × mm_H)) => match x1 with
| (.inl _, h4) =>
(gX10_checkRange p1 0 999 h4).bind (fun (x6 : ((Unit ⊕ String) × mm_H)) => match x6 with
| (.inl _, h9) =>
(gX10_checkRange p2 0 365 h9).bind (fun (x11 : ((Unit ⊕ String) × mm_H)) => match x11 with
| (.inl _, h14) =>
(gX7_wastedUnits 21 p0 p1 p2 h14).bind (fun (x16 : (Int32 × mm_H)) =>
some (.inl x16.1, x16.2))
| (.inr E15, h14) => some (.inr E15, h14))
| (.inr E10, h9) => some (.inr E10, h9))
| (.inr E5, h4) => some (.inr E5, h4))
theorem rX10_wasteWithDemand {q : Nat × Nat} (p0 : Int32) (p1 : Int32) (p2 : Int32) (h : mm_H) : mm_R2 (mm_Sq q) (mm_Sq q) mX10_wasteWithDemand [.ref 0, .int p0, .int p1, .int p2] h (gX10_wasteWithDemand p0 p1 p2 h) lf_it := by
  refine mm_body (L := [some (.ref 0), some (.int p0), some (.int p1), some (.int p2)]) rfl (by decide +kernel) (Nat.le_of_ble_eq_true rfl) rfl ?_
  unfold gX10_wasteWithDemand
  refine me_aload_n (pc' := 1) (i := 0) dX10_wasteWithDemand_0 rfl rfl rfl ?_
  refine me_iload_n (pc' := 2) (i := 1) dX10_wasteWithDemand_1 rfl rfl rfl ?_
  refine me_callV (As := [.int p0]) (st := []) (F' := (mm_Sq q)) (G' := (mm_Sq q)) (F'' := (mm_Sq q)) (pc' := 5) dX10_wasteWithDemand_2 rfl mfX10_checkProduct rfl lkX10_145 kd_0 rfl (mm_ltq kd_0) ⟨Nat.le_of_ble_eq_true rfl, Nat.le_of_ble_eq_true rfl⟩ (Nat.le_of_ble_eq_true rfl) (fun z => z) (rX10_checkProduct (q := q) p0 h ) (fun x1 e2 => ?_)
  rcases x1 with ⟨v3 | E5, h4⟩
  · refine Or.inl ⟨_, _, rfl, fun z => z, ?_⟩
    show mm_E2 _ _ _ _ _ [] h4 _ _
    try dsimp only
    refine me_iload_n (pc' := 6) (i := 2) dX10_wasteWithDemand_5 rfl rfl rfl ?_
    refine me_iconst (pc' := 7) (v := 0) dX10_wasteWithDemand_6 rfl kc_i0 ?_
    refine me_sipush (pc' := 10) (v := 999) dX10_wasteWithDemand_7 rfl kc_s999 ?_
    refine me_callS (As := [.int p1, .int 0, .int 999]) (st := []) (F' := (mm_Sq q)) (G' := (mm_Sq q)) (F'' := (mm_Sq q)) (pc' := 13) dX10_wasteWithDemand_10 rfl mfX10_checkRange rfl lkX10_104 ⟨Nat.le_of_ble_eq_true rfl, Nat.le_of_ble_eq_true rfl⟩ (Nat.le_of_ble_eq_true rfl) (fun z => z) (rX10_checkRange (q := q) p1 0 999 h4 ) (fun x6 e7 => ?_)
    rcases x6 with ⟨v8 | E10, h9⟩
    · refine Or.inl ⟨_, _, rfl, fun z => z, ?_⟩
      show mm_E2 _ _ _ _ _ [] h9 _ _
      try dsimp only
      refine me_iload_n (pc' := 14) (i := 3) dX10_wasteWithDemand_13 rfl rfl rfl ?_
      refine me_iconst (pc' := 15) (v := 0) dX10_wasteWithDemand_14 rfl kc_i0 ?_
      refine me_sipush (pc' := 18) (v := 365) dX10_wasteWithDemand_15 rfl kc_s365 ?_
      refine me_callS (As := [.int p2, .int 0, .int 365]) (st := []) (F' := (mm_Sq q)) (G' := (mm_Sq q)) (F'' := (mm_Sq q)) (pc' := 21) dX10_wasteWithDemand_18 rfl mfX10_checkRange rfl lkX10_104 ⟨Nat.le_of_ble_eq_true rfl, Nat.le_of_ble_eq_true rfl⟩ (Nat.le_of_ble_eq_true rfl) (fun z => z) (rX10_checkRange (q := q) p2 0 365 h9 ) (fun x11 e12 => ?_)
      rcases x11 with ⟨v13 | E15, h14⟩
      · refine Or.inl ⟨_, _, rfl, fun z => z, ?_⟩
        show mm_E2 _ _ _ _ _ [] h14 _ _
        try dsimp only
        refine me_aload_n (pc' := 22) (i := 0) dX10_wasteWithDemand_21 rfl rfl rfl ?_
        refine me_getR (pc' := 25) (q' := 21) dX10_wasteWithDemand_22 rfl fkX10_45 kd_0 (mm_ltq kd_0) rfl (mrX10_5 kd_0) ?_
        refine me_aload_n (pc' := 26) (i := 0) dX10_wasteWithDemand_25 rfl rfl rfl ?_
        refine me_getR (pc' := 29) (q' := 347) dX10_wasteWithDemand_26 rfl fkX10_72 kd_0 (mm_ltq kd_0) rfl (mrX10_10 kd_0) ?_
        refine me_iload_n (pc' := 30) (i := 1) dX10_wasteWithDemand_29 rfl rfl rfl ?_
        refine me_iload_n (pc' := 31) (i := 2) dX10_wasteWithDemand_30 rfl rfl rfl ?_
        refine me_iload_n (pc' := 32) (i := 3) dX10_wasteWithDemand_31 rfl rfl rfl ?_
        refine me_callV (As := [.ref 347, .int p0, .int p1, .int p2]) (st := []) (F' := (mm_Sq q)) (G' := (mm_Sq q)) (F'' := (mm_Sq q)) (pc' := 35) dX10_wasteWithDemand_32 rfl mfX7_wastedUnits rfl lkX10_292 kd_21 rfl (mm_ltq kd_21) ⟨Nat.le_of_ble_eq_true rfl, Nat.le_of_ble_eq_true rfl⟩ (Nat.le_of_ble_eq_true rfl) (fun z => z) (rX7_wastedUnits (q := q) 21 p0 p1 p2 h14 kd_21) (fun x16 e17 => Or.inl ⟨_, _, rfl, fun z => z, ?_⟩)
        show mm_E2 _ _ _ _ _ [.int x16.1] x16.2 _ _
        exact me_iret dX10_wasteWithDemand_35 rfl (fun z => z) rfl
      · exact Or.inr ⟨_, _, rfl, rfl, fun z => z, fun y9 hy9 => by rw [← Option.some.inj hy9]; rfl⟩
    · exact Or.inr ⟨_, _, rfl, rfl, fun z => z, fun y9 hy9 => by rw [← Option.some.inj hy9]; rfl⟩
  · exact Or.inr ⟨_, _, rfl, rfl, fun z => z, fun y9 hy9 => by rw [← Option.some.inj hy9]; rfl⟩
def gX10_demandWithoutWaste (p0 : Int32) (h : mm_H) : Option ((Int32 ⊕ String) × mm_H) :=
(gX10_checkProduct p0 h).bind (fun (x1 : ((Unit ⊕ String) × mm_H)) => match x1 with
| (.inl _, h4) =>
(gX7_leastDemandWithoutWaste 21 p0 h4).bind (fun (x6 : (Int32 × mm_H)) =>
some (.inl x6.1, x6.2))
| (.inr E5, h4) => some (.inr E5, h4))
theorem rX10_demandWithoutWaste {q : Nat × Nat} (p0 : Int32) (h : mm_H) : mm_R2 (mm_Sq q) (mm_Sq q) mX10_demandWithoutWaste [.ref 0, .int p0] h (gX10_demandWithoutWaste p0 h) lf_it := by
  refine mm_body (L := [some (.ref 0), some (.int p0)]) rfl (by decide +kernel) (Nat.le_of_ble_eq_true rfl) rfl ?_
  unfold gX10_demandWithoutWaste
  refine me_aload_n (pc' := 1) (i := 0) dX10_demandWithoutWaste_0 rfl rfl rfl ?_
  refine me_iload_n (pc' := 2) (i := 1) dX10_demandWithoutWaste_1 rfl rfl rfl ?_
  refine me_callV (As := [.int p0]) (st := []) (F' := (mm_Sq q)) (G' := (mm_Sq q)) (F'' := (mm_Sq q)) (pc' := 5) dX10_demandWithoutWaste_2 rfl mfX10_checkProduct rfl lkX10_145 kd_0 rfl (mm_ltq kd_0) ⟨Nat.le_of_ble_eq_true rfl, Nat.le_of_ble_eq_true rfl⟩ (Nat.le_of_ble_eq_true rfl) (fun z => z) (rX10_checkProduct (q := q) p0 h ) (fun x1 e2 => ?_)
  rcases x1 with ⟨v3 | E5, h4⟩
  · refine Or.inl ⟨_, _, rfl, fun z => z, ?_⟩
    show mm_E2 _ _ _ _ _ [] h4 _ _
    try dsimp only
    refine me_aload_n (pc' := 6) (i := 0) dX10_demandWithoutWaste_5 rfl rfl rfl ?_
    refine me_getR (pc' := 9) (q' := 21) dX10_demandWithoutWaste_6 rfl fkX10_45 kd_0 (mm_ltq kd_0) rfl (mrX10_5 kd_0) ?_
    refine me_aload_n (pc' := 10) (i := 0) dX10_demandWithoutWaste_9 rfl rfl rfl ?_
    refine me_getR (pc' := 13) (q' := 347) dX10_demandWithoutWaste_10 rfl fkX10_72 kd_0 (mm_ltq kd_0) rfl (mrX10_10 kd_0) ?_
    refine me_iload_n (pc' := 14) (i := 1) dX10_demandWithoutWaste_13 rfl rfl rfl ?_
    refine me_callV (As := [.ref 347, .int p0]) (st := []) (F' := (mm_Sq q)) (G' := (mm_Sq q)) (F'' := (mm_Sq q)) (pc' := 17) dX10_demandWithoutWaste_14 rfl mfX7_leastDemandWithoutWaste rfl lkX10_296 kd_21 rfl (mm_ltq kd_21) ⟨Nat.le_of_ble_eq_true rfl, Nat.le_of_ble_eq_true rfl⟩ (Nat.le_of_ble_eq_true rfl) (fun z => z) (rX7_leastDemandWithoutWaste (q := q) 21 p0 h4 kd_21) (fun x6 e7 => Or.inl ⟨_, _, rfl, fun z => z, ?_⟩)
    show mm_E2 _ _ _ _ _ [.int x6.1] x6.2 _ _
    exact me_iret dX10_demandWithoutWaste_17 rfl (fun z => z) rfl
  · exact Or.inr ⟨_, _, rfl, rfl, fun z => z, fun y9 hy9 => by rw [← Option.some.inj hy9]; rfl⟩
def gX10_refusalOfReceive (p0 : Int32) (p1 : Int32) (p2 : Int32) (p3 : Int32) (h : mm_H) : Option Int32 :=
(gX1_hasProduct 14 p0 h).bind (fun (x1 : Bool) =>
if x1 = true then
(gX10_isOutside p1 1 999 h).bind (fun (x4 : Bool) =>
if x4 = true then
some 2
else
(gX10_isOutside p2 0 9999 h).bind (fun (x7 : Bool) =>
if x7 = true then
some 2
else
(gX10_isOutside p3 1 999 h).bind (fun (x10 : Bool) =>
if x10 = true then
some 2
else
if (mh_I h 21 1) < 20 then
some 0
else
some 3)))
else
some 1)
theorem rX10_refusalOfReceive {q : Nat × Nat} (p0 : Int32) (p1 : Int32) (p2 : Int32) (p3 : Int32) (h : mm_H) : mm_R2 (mm_Sq q) (mm_Sq q) mX10_refusalOfReceive [.ref 0, .int p0, .int p1, .int p2, .int p3] h (gX10_refusalOfReceive p0 p1 p2 p3 h) (lf_i h) := by
  refine mm_body (L := [some (.ref 0), some (.int p0), some (.int p1), some (.int p2), some (.int p3)]) rfl (by decide +kernel) (Nat.le_of_ble_eq_true rfl) rfl ?_
  unfold gX10_refusalOfReceive
  refine me_aload_n (pc' := 1) (i := 0) dX10_refusalOfReceive_0 rfl rfl rfl ?_
  refine me_getR (pc' := 4) (q' := 14) dX10_refusalOfReceive_1 rfl fkX10_38 kd_0 (mm_ltq kd_0) rfl (mrX10_4 kd_0) ?_
  refine me_iload_n (pc' := 5) (i := 1) dX10_refusalOfReceive_4 rfl rfl rfl ?_
  refine me_callV (As := [.int p0]) (st := []) (F' := (mm_Sq q)) (G' := (mm_Sq q)) (F'' := (mm_Sq q)) (pc' := 8) dX10_refusalOfReceive_5 rfl mfX1_hasProduct rfl lkX10_402 kd_14 rfl (mm_ltq kd_14) ⟨Nat.le_of_ble_eq_true rfl, Nat.le_of_ble_eq_true rfl⟩ (Nat.le_of_ble_eq_true rfl) (fun z => z) (rX1_hasProduct (q := q) 14 p0 h kd_14) (fun x1 e2 => Or.inl ⟨_, _, rfl, fun z => z, ?_⟩)
  show mm_E2 _ _ _ _ _ [.int (mx_bi x1)] h _ _
  refine me_ifB_ne (pc' := 11) (tgt := 13) dX10_refusalOfReceive_8 (by decide) rfl (fun c3 => ?_) (fun c3 => ?_)
  · refine me_iload_n (pc' := 14) (i := 2) dX10_refusalOfReceive_13 rfl rfl rfl ?_
    refine me_iconst (pc' := 15) (v := 1) dX10_refusalOfReceive_14 rfl kc_i1 ?_
    refine me_sipush (pc' := 18) (v := 999) dX10_refusalOfReceive_15 rfl kc_s999 ?_
    refine me_callS (As := [.int p1, .int 1, .int 999]) (st := []) (F' := (mm_Sq q)) (G' := (mm_Sq q)) (F'' := (mm_Sq q)) (pc' := 21) dX10_refusalOfReceive_18 rfl mfX10_isOutside rfl lkX10_158 ⟨Nat.le_of_ble_eq_true rfl, Nat.le_of_ble_eq_true rfl⟩ (Nat.le_of_ble_eq_true rfl) (fun z => z) (rX10_isOutside (q := q) p1 1 999 h ) (fun x4 e5 => Or.inl ⟨_, _, rfl, fun z => z, ?_⟩)
    show mm_E2 _ _ _ _ _ [.int (mx_bi x4)] h _ _
    refine me_ifB_ne (pc' := 24) (tgt := 47) dX10_refusalOfReceive_21 (by decide) rfl (fun c6 => ?_) (fun c6 => ?_)
    · refine me_iconst (pc' := 48) (v := 2) dX10_refusalOfReceive_47 rfl kc_i2 ?_
      exact me_iret dX10_refusalOfReceive_48 rfl (fun z => z) rfl
    · refine me_iload_n (pc' := 25) (i := 3) dX10_refusalOfReceive_24 rfl rfl rfl ?_
      refine me_iconst (pc' := 26) (v := 0) dX10_refusalOfReceive_25 rfl kc_i0 ?_
      refine me_sipush (pc' := 29) (v := 9999) dX10_refusalOfReceive_26 rfl kc_s9999 ?_
      refine me_callS (As := [.int p2, .int 0, .int 9999]) (st := []) (F' := (mm_Sq q)) (G' := (mm_Sq q)) (F'' := (mm_Sq q)) (pc' := 32) dX10_refusalOfReceive_29 rfl mfX10_isOutside rfl lkX10_158 ⟨Nat.le_of_ble_eq_true rfl, Nat.le_of_ble_eq_true rfl⟩ (Nat.le_of_ble_eq_true rfl) (fun z => z) (rX10_isOutside (q := q) p2 0 9999 h ) (fun x7 e8 => Or.inl ⟨_, _, rfl, fun z => z, ?_⟩)
      show mm_E2 _ _ _ _ _ [.int (mx_bi x7)] h _ _
      refine me_ifB_ne (pc' := 35) (tgt := 47) dX10_refusalOfReceive_32 (by decide) rfl (fun c9 => ?_) (fun c9 => ?_)
      · refine me_iconst (pc' := 48) (v := 2) dX10_refusalOfReceive_47 rfl kc_i2 ?_
        exact me_iret dX10_refusalOfReceive_48 rfl (fun z => z) rfl
      · refine me_iload (pc' := 37) (i := 4) dX10_refusalOfReceive_35 rfl rfl ?_
        refine me_iconst (pc' := 38) (v := 1) dX10_refusalOfReceive_37 rfl kc_i1 ?_
        refine me_sipush (pc' := 41) (v := 999) dX10_refusalOfReceive_38 rfl kc_s999 ?_
        refine me_callS (As := [.int p3, .int 1, .int 999]) (st := []) (F' := (mm_Sq q)) (G' := (mm_Sq q)) (F'' := (mm_Sq q)) (pc' := 44) dX10_refusalOfReceive_41 rfl mfX10_isOutside rfl lkX10_158 ⟨Nat.le_of_ble_eq_true rfl, Nat.le_of_ble_eq_true rfl⟩ (Nat.le_of_ble_eq_true rfl) (fun z => z) (rX10_isOutside (q := q) p3 1 999 h ) (fun x10 e11 => Or.inl ⟨_, _, rfl, fun z => z, ?_⟩)
        show mm_E2 _ _ _ _ _ [.int (mx_bi x10)] h _ _
        refine me_ifB_eq (pc' := 47) (tgt := 49) dX10_refusalOfReceive_44 (by decide) rfl (fun c12 => ?_) (fun c12 => ?_)
        · refine me_aload_n (pc' := 50) (i := 0) dX10_refusalOfReceive_49 rfl rfl rfl ?_
          refine me_getR (pc' := 53) (q' := 21) dX10_refusalOfReceive_50 rfl fkX10_45 kd_0 (mm_ltq kd_0) rfl (mrX10_5 kd_0) ?_
          refine me_getI (pc' := 56) dX10_refusalOfReceive_53 rfl fkX10_202 kd_21 (mm_ltq kd_21) rfl ?_
          refine me_bipush (pc' := 58) (v := 20) dX10_refusalOfReceive_56 rfl kc_b20 ?_
          refine me_icmp_ge (pc' := 61) (tgt := 65) dX10_refusalOfReceive_58 (by decide) rfl (fun c13 => ?_) (fun c13 => ?_)
          · refine me_iconst (pc' := 66) (v := 3) dX10_refusalOfReceive_65 rfl kc_i3 ?_
            exact me_iret dX10_refusalOfReceive_66 rfl (fun z => z) rfl
          · refine me_iconst (pc' := 62) (v := 0) dX10_refusalOfReceive_61 rfl kc_i0 ?_
            refine me_goto (tgt := 66) dX10_refusalOfReceive_62 (by decide) ?_
            exact me_iret dX10_refusalOfReceive_66 rfl (fun z => z) rfl
        · refine me_iconst (pc' := 48) (v := 2) dX10_refusalOfReceive_47 rfl kc_i2 ?_
          exact me_iret dX10_refusalOfReceive_48 rfl (fun z => z) rfl
  · refine me_iconst (pc' := 12) (v := 1) dX10_refusalOfReceive_11 rfl kc_i1 ?_
    exact me_iret dX10_refusalOfReceive_12 rfl (fun z => z) rfl
def gX10_refuse (p0 : Int32) (h : mm_H) : Option ((Unit ⊕ String) × mm_H) :=
if p0 = 1 then
some (.inr "java/lang/IndexOutOfBoundsException", ms_X h)
else
if p0 = 2 then
some (.inr "java/lang/IllegalArgumentException", ms_X h)
else
if p0 = 3 then
some (.inr "java/lang/IllegalStateException", ms_X h)
else
some (.inl (), h)
theorem rX10_refuse {q : Nat × Nat} (p0 : Int32) (h : mm_H) : mm_R2 (mm_Sq q) (mm_Sq q) mX10_refuse [.int p0] h (gX10_refuse p0 h) lf_vt := by
  refine mm_body (L := [some (.int p0)]) rfl (by decide +kernel) (Nat.le_of_ble_eq_true rfl) rfl ?_
  unfold gX10_refuse
  refine me_iload_n (pc' := 1) (i := 0) dX10_refuse_0 rfl rfl rfl ?_
  refine me_iconst (pc' := 2) (v := 1) dX10_refuse_1 rfl kc_i1 ?_
  refine me_icmp_ne (pc' := 5) (tgt := 16) dX10_refuse_2 (by decide) rfl (fun c1 => ?_) (fun c1 => ?_)
  · refine me_iload_n (pc' := 17) (i := 0) dX10_refuse_16 rfl rfl rfl ?_
    refine me_iconst (pc' := 18) (v := 2) dX10_refuse_17 rfl kc_i2 ?_
    refine me_icmp_ne (pc' := 21) (tgt := 32) dX10_refuse_18 (by decide) rfl (fun c2 => ?_) (fun c2 => ?_)
    · refine me_iload_n (pc' := 33) (i := 0) dX10_refuse_32 rfl rfl rfl ?_
      refine me_iconst (pc' := 34) (v := 3) dX10_refuse_33 rfl kc_i3 ?_
      refine me_icmp_ne (pc' := 37) (tgt := 48) dX10_refuse_34 (by decide) rfl (fun c3 => ?_) (fun c3 => ?_)
      · exact me_vret dX10_refuse_48 rfl (fun z => z) rfl
      · exact me_throwW dX10_refuse_37 dX10_refuse_40 dX10_refuse_41 dX10_refuse_44 dX10_refuse_47 rfl rfl (fun z => z) twX10_98 sr_15 (Nat.le_of_ble_eq_true rfl) (Nat.le_of_ble_eq_true rfl)
    · exact me_throwW dX10_refuse_21 dX10_refuse_24 dX10_refuse_25 dX10_refuse_28 dX10_refuse_31 rfl rfl (fun z => z) twX10_119 sr_4 (Nat.le_of_ble_eq_true rfl) (Nat.le_of_ble_eq_true rfl)
  · exact me_throwW dX10_refuse_5 dX10_refuse_8 dX10_refuse_9 dX10_refuse_12 dX10_refuse_15 rfl rfl (fun z => z) twX10_166 sr_14 (Nat.le_of_ble_eq_true rfl) (Nat.le_of_ble_eq_true rfl)
def gX10_receive (p0 : Int32) (p1 : Int32) (p2 : Int32) (p3 : Int32) (h : mm_H) : Option ((Int32 ⊕ String) × mm_H) :=
(gX10_refusalOfReceive p0 p1 p2 p3 h).bind (fun (x1 : Int32) =>
(gX10_refuse x1 h).bind (fun (x3 : ((Unit ⊕ String) × mm_H)) => match x3 with
| (.inl _, h6) =>
(gX2_remember 21 h6).bind (fun (h8 : mm_H) =>
(gX7_addBatch 21 p0 p1 p2 p3 h8).bind (fun (x10 : (Int32 × mm_H)) =>
some (.inl x10.1, x10.2)))
| (.inr E7, h6) => some (.inr E7, h6)))
theorem rX10_receive {q : Nat × Nat} (p0 : Int32) (p1 : Int32) (p2 : Int32) (p3 : Int32) (h : mm_H) : mm_R2 (mm_Sq q) (mm_Sq q) mX10_receive [.ref 0, .int p0, .int p1, .int p2, .int p3] h (gX10_receive p0 p1 p2 p3 h) lf_it := by
  refine mm_body (L := [some (.ref 0), some (.int p0), some (.int p1), some (.int p2), some (.int p3)]) rfl (by decide +kernel) (Nat.le_of_ble_eq_true rfl) rfl ?_
  unfold gX10_receive
  refine me_aload_n (pc' := 1) (i := 0) dX10_receive_0 rfl rfl rfl ?_
  refine me_iload_n (pc' := 2) (i := 1) dX10_receive_1 rfl rfl rfl ?_
  refine me_iload_n (pc' := 3) (i := 2) dX10_receive_2 rfl rfl rfl ?_
  refine me_iload_n (pc' := 4) (i := 3) dX10_receive_3 rfl rfl rfl ?_
  refine me_iload (pc' := 6) (i := 4) dX10_receive_4 rfl rfl ?_
  refine me_callV (As := [.int p0, .int p1, .int p2, .int p3]) (st := []) (F' := (mm_Sq q)) (G' := (mm_Sq q)) (F'' := (mm_Sq q)) (pc' := 9) dX10_receive_6 rfl mfX10_refusalOfReceive rfl lkX10_299 kd_0 rfl (mm_ltq kd_0) ⟨Nat.le_of_ble_eq_true rfl, Nat.le_of_ble_eq_true rfl⟩ (Nat.le_of_ble_eq_true rfl) (fun z => z) (rX10_refusalOfReceive (q := q) p0 p1 p2 p3 h ) (fun x1 e2 => Or.inl ⟨_, _, rfl, fun z => z, ?_⟩)
  show mm_E2 _ _ _ _ _ [.int x1] h _ _
  refine me_callS (As := [.int x1]) (st := []) (F' := (mm_Sq q)) (G' := (mm_Sq q)) (F'' := (mm_Sq q)) (pc' := 12) dX10_receive_9 rfl mfX10_refuse rfl lkX10_302 ⟨Nat.le_of_ble_eq_true rfl, Nat.le_of_ble_eq_true rfl⟩ (Nat.le_of_ble_eq_true rfl) (fun z => z) (rX10_refuse (q := q) x1 h ) (fun x3 e4 => ?_)
  rcases x3 with ⟨v5 | E7, h6⟩
  · refine Or.inl ⟨_, _, rfl, fun z => z, ?_⟩
    show mm_E2 _ _ _ _ _ [] h6 _ _
    try dsimp only
    refine me_aload_n (pc' := 13) (i := 0) dX10_receive_12 rfl rfl rfl ?_
    refine me_getR (pc' := 16) (q' := 90) dX10_receive_13 rfl fkX10_58 kd_0 (mm_ltq kd_0) rfl (mrX10_8 kd_0) ?_
    refine me_aload_n (pc' := 17) (i := 0) dX10_receive_16 rfl rfl rfl ?_
    refine me_getR (pc' := 20) (q' := 21) dX10_receive_17 rfl fkX10_45 kd_0 (mm_ltq kd_0) rfl (mrX10_5 kd_0) ?_
    refine me_callV (As := [.ref 21]) (st := []) (F' := (mm_Sq q)) (G' := (mm_Sq q)) (F'' := (mm_Sq q)) (pc' := 23) dX10_receive_20 rfl mfX2_remember rfl lkX10_305 kd_90 rfl (mm_ltq kd_90) ⟨Nat.le_of_ble_eq_true rfl, Nat.le_of_ble_eq_true rfl⟩ (Nat.le_of_ble_eq_true rfl) (fun z => z) (rX2_remember (q := q) 21 h6 kd_21) (fun h8 e9 => Or.inl ⟨_, _, rfl, fun z => z, ?_⟩)
    show mm_E2 _ _ _ _ _ [] h8 _ _
    refine me_aload_n (pc' := 24) (i := 0) dX10_receive_23 rfl rfl rfl ?_
    refine me_getR (pc' := 27) (q' := 21) dX10_receive_24 rfl fkX10_45 kd_0 (mm_ltq kd_0) rfl (mrX10_5 kd_0) ?_
    refine me_iload_n (pc' := 28) (i := 1) dX10_receive_27 rfl rfl rfl ?_
    refine me_iload_n (pc' := 29) (i := 2) dX10_receive_28 rfl rfl rfl ?_
    refine me_iload_n (pc' := 30) (i := 3) dX10_receive_29 rfl rfl rfl ?_
    refine me_iload (pc' := 32) (i := 4) dX10_receive_30 rfl rfl ?_
    refine me_callV (As := [.int p0, .int p1, .int p2, .int p3]) (st := []) (F' := (mm_Sq q)) (G' := (mm_Sq q)) (F'' := (mm_Sq q)) (pc' := 35) dX10_receive_32 rfl mfX7_addBatch rfl lkX10_86 kd_21 rfl (mm_ltq kd_21) ⟨Nat.le_of_ble_eq_true rfl, Nat.le_of_ble_eq_true rfl⟩ (Nat.le_of_ble_eq_true rfl) (fun z => z) (rX7_addBatch (q := q) 21 p0 p1 p2 p3 h8 kd_21) (fun x10 e11 => Or.inl ⟨_, _, rfl, fun z => z, ?_⟩)
    show mm_E2 _ _ _ _ _ [.int x10.1] x10.2 _ _
    exact me_iret dX10_receive_35 rfl (fun z => z) rfl
  · exact Or.inr ⟨_, _, rfl, rfl, fun z => z, fun y9 hy9 => by rw [← Option.some.inj hy9]; rfl⟩
def gX10_refusalOfIssue (p0 : Int32) (p1 : Int32) (h : mm_H) : Option Int32 :=
(gX1_hasProduct 14 p0 h).bind (fun (x1 : Bool) =>
if x1 = true then
(gX10_isOutside p1 1 9999 h).bind (fun (x4 : Bool) =>
if x4 = true then
some 2
else
(gX7_availableUnits 21 p0 ((mh_I h 21 0)) h).bind (fun (x7 : Int32) =>
if x7 < p1 then
some 3
else
some 0))
else
some 1)
theorem rX10_refusalOfIssue {q : Nat × Nat} (p0 : Int32) (p1 : Int32) (h : mm_H) : mm_R2 (mm_Sq q) (mm_Sq q) mX10_refusalOfIssue [.ref 0, .int p0, .int p1] h (gX10_refusalOfIssue p0 p1 h) (lf_i h) := by
  refine mm_body (L := [some (.ref 0), some (.int p0), some (.int p1)]) rfl (by decide +kernel) (Nat.le_of_ble_eq_true rfl) rfl ?_
  unfold gX10_refusalOfIssue
  refine me_aload_n (pc' := 1) (i := 0) dX10_refusalOfIssue_0 rfl rfl rfl ?_
  refine me_getR (pc' := 4) (q' := 14) dX10_refusalOfIssue_1 rfl fkX10_38 kd_0 (mm_ltq kd_0) rfl (mrX10_4 kd_0) ?_
  refine me_iload_n (pc' := 5) (i := 1) dX10_refusalOfIssue_4 rfl rfl rfl ?_
  refine me_callV (As := [.int p0]) (st := []) (F' := (mm_Sq q)) (G' := (mm_Sq q)) (F'' := (mm_Sq q)) (pc' := 8) dX10_refusalOfIssue_5 rfl mfX1_hasProduct rfl lkX10_402 kd_14 rfl (mm_ltq kd_14) ⟨Nat.le_of_ble_eq_true rfl, Nat.le_of_ble_eq_true rfl⟩ (Nat.le_of_ble_eq_true rfl) (fun z => z) (rX1_hasProduct (q := q) 14 p0 h kd_14) (fun x1 e2 => Or.inl ⟨_, _, rfl, fun z => z, ?_⟩)
  show mm_E2 _ _ _ _ _ [.int (mx_bi x1)] h _ _
  refine me_ifB_ne (pc' := 11) (tgt := 13) dX10_refusalOfIssue_8 (by decide) rfl (fun c3 => ?_) (fun c3 => ?_)
  · refine me_iload_n (pc' := 14) (i := 2) dX10_refusalOfIssue_13 rfl rfl rfl ?_
    refine me_iconst (pc' := 15) (v := 1) dX10_refusalOfIssue_14 rfl kc_i1 ?_
    refine me_sipush (pc' := 18) (v := 9999) dX10_refusalOfIssue_15 rfl kc_s9999 ?_
    refine me_callS (As := [.int p1, .int 1, .int 9999]) (st := []) (F' := (mm_Sq q)) (G' := (mm_Sq q)) (F'' := (mm_Sq q)) (pc' := 21) dX10_refusalOfIssue_18 rfl mfX10_isOutside rfl lkX10_158 ⟨Nat.le_of_ble_eq_true rfl, Nat.le_of_ble_eq_true rfl⟩ (Nat.le_of_ble_eq_true rfl) (fun z => z) (rX10_isOutside (q := q) p1 1 9999 h ) (fun x4 e5 => Or.inl ⟨_, _, rfl, fun z => z, ?_⟩)
    show mm_E2 _ _ _ _ _ [.int (mx_bi x4)] h _ _
    refine me_ifB_eq (pc' := 24) (tgt := 26) dX10_refusalOfIssue_21 (by decide) rfl (fun c6 => ?_) (fun c6 => ?_)
    · refine me_aload_n (pc' := 27) (i := 0) dX10_refusalOfIssue_26 rfl rfl rfl ?_
      refine me_getR (pc' := 30) (q' := 21) dX10_refusalOfIssue_27 rfl fkX10_45 kd_0 (mm_ltq kd_0) rfl (mrX10_5 kd_0) ?_
      refine me_iload_n (pc' := 31) (i := 1) dX10_refusalOfIssue_30 rfl rfl rfl ?_
      refine me_aload_n (pc' := 32) (i := 0) dX10_refusalOfIssue_31 rfl rfl rfl ?_
      refine me_getR (pc' := 35) (q' := 21) dX10_refusalOfIssue_32 rfl fkX10_45 kd_0 (mm_ltq kd_0) rfl (mrX10_5 kd_0) ?_
      refine me_getI (pc' := 38) dX10_refusalOfIssue_35 rfl fkX10_142 kd_21 (mm_ltq kd_21) rfl ?_
      refine me_callV (As := [.int p0, .int (mh_I h 21 0)]) (st := []) (F' := (mm_Sq q)) (G' := (mm_Sq q)) (F'' := (mm_Sq q)) (pc' := 41) dX10_refusalOfIssue_38 rfl mfX7_availableUnits rfl lkX10_189 kd_21 rfl (mm_ltq kd_21) ⟨Nat.le_of_ble_eq_true rfl, Nat.le_of_ble_eq_true rfl⟩ (Nat.le_of_ble_eq_true rfl) (fun z => z) (rX7_availableUnits (q := q) 21 p0 ((mh_I h 21 0)) h kd_21) (fun x7 e8 => Or.inl ⟨_, _, rfl, fun z => z, ?_⟩)
      show mm_E2 _ _ _ _ _ [.int x7] h _ _
      refine me_iload_n (pc' := 42) (i := 2) dX10_refusalOfIssue_41 rfl rfl rfl ?_
      refine me_icmp_lt (pc' := 45) (tgt := 49) dX10_refusalOfIssue_42 (by decide) rfl (fun c9 => ?_) (fun c9 => ?_)
      · refine me_iconst (pc' := 50) (v := 3) dX10_refusalOfIssue_49 rfl kc_i3 ?_
        exact me_iret dX10_refusalOfIssue_50 rfl (fun z => z) rfl
      · refine me_iconst (pc' := 46) (v := 0) dX10_refusalOfIssue_45 rfl kc_i0 ?_
        refine me_goto (tgt := 50) dX10_refusalOfIssue_46 (by decide) ?_
        exact me_iret dX10_refusalOfIssue_50 rfl (fun z => z) rfl
    · refine me_iconst (pc' := 25) (v := 2) dX10_refusalOfIssue_24 rfl kc_i2 ?_
      exact me_iret dX10_refusalOfIssue_25 rfl (fun z => z) rfl
  · refine me_iconst (pc' := 12) (v := 1) dX10_refusalOfIssue_11 rfl kc_i1 ?_
    exact me_iret dX10_refusalOfIssue_12 rfl (fun z => z) rfl
def gX10_issue (p0 : Int32) (p1 : Int32) (h : mm_H) : Option ((Int32 ⊕ String) × mm_H) :=
(gX10_refusalOfIssue p0 p1 h).bind (fun (x1 : Int32) =>
(gX10_refuse x1 h).bind (fun (x3 : ((Unit ⊕ String) × mm_H)) => match x3 with
| (.inl _, h6) =>
(gX2_remember 21 h6).bind (fun (h8 : mm_H) =>
(gX7_issueUnits 21 p0 p1 h8).bind (fun (x10 : (Int32 × mm_H)) =>
some (.inl x10.1, x10.2)))
| (.inr E7, h6) => some (.inr E7, h6)))
theorem rX10_issue {q : Nat × Nat} (p0 : Int32) (p1 : Int32) (h : mm_H) : mm_R2 (mm_Sq q) (mm_Sq q) mX10_issue [.ref 0, .int p0, .int p1] h (gX10_issue p0 p1 h) lf_it := by
  refine mm_body (L := [some (.ref 0), some (.int p0), some (.int p1)]) rfl (by decide +kernel) (Nat.le_of_ble_eq_true rfl) rfl ?_
  unfold gX10_issue
  refine me_aload_n (pc' := 1) (i := 0) dX10_issue_0 rfl rfl rfl ?_
  refine me_iload_n (pc' := 2) (i := 1) dX10_issue_1 rfl rfl rfl ?_
  refine me_iload_n (pc' := 3) (i := 2) dX10_issue_2 rfl rfl rfl ?_
  refine me_callV (As := [.int p0, .int p1]) (st := []) (F' := (mm_Sq q)) (G' := (mm_Sq q)) (F'' := (mm_Sq q)) (pc' := 6) dX10_issue_3 rfl mfX10_refusalOfIssue rfl lkX10_308 kd_0 rfl (mm_ltq kd_0) ⟨Nat.le_of_ble_eq_true rfl, Nat.le_of_ble_eq_true rfl⟩ (Nat.le_of_ble_eq_true rfl) (fun z => z) (rX10_refusalOfIssue (q := q) p0 p1 h ) (fun x1 e2 => Or.inl ⟨_, _, rfl, fun z => z, ?_⟩)
  show mm_E2 _ _ _ _ _ [.int x1] h _ _
  refine me_callS (As := [.int x1]) (st := []) (F' := (mm_Sq q)) (G' := (mm_Sq q)) (F'' := (mm_Sq q)) (pc' := 9) dX10_issue_6 rfl mfX10_refuse rfl lkX10_302 ⟨Nat.le_of_ble_eq_true rfl, Nat.le_of_ble_eq_true rfl⟩ (Nat.le_of_ble_eq_true rfl) (fun z => z) (rX10_refuse (q := q) x1 h ) (fun x3 e4 => ?_)
  rcases x3 with ⟨v5 | E7, h6⟩
  · refine Or.inl ⟨_, _, rfl, fun z => z, ?_⟩
    show mm_E2 _ _ _ _ _ [] h6 _ _
    try dsimp only
    refine me_aload_n (pc' := 10) (i := 0) dX10_issue_9 rfl rfl rfl ?_
    refine me_getR (pc' := 13) (q' := 90) dX10_issue_10 rfl fkX10_58 kd_0 (mm_ltq kd_0) rfl (mrX10_8 kd_0) ?_
    refine me_aload_n (pc' := 14) (i := 0) dX10_issue_13 rfl rfl rfl ?_
    refine me_getR (pc' := 17) (q' := 21) dX10_issue_14 rfl fkX10_45 kd_0 (mm_ltq kd_0) rfl (mrX10_5 kd_0) ?_
    refine me_callV (As := [.ref 21]) (st := []) (F' := (mm_Sq q)) (G' := (mm_Sq q)) (F'' := (mm_Sq q)) (pc' := 20) dX10_issue_17 rfl mfX2_remember rfl lkX10_305 kd_90 rfl (mm_ltq kd_90) ⟨Nat.le_of_ble_eq_true rfl, Nat.le_of_ble_eq_true rfl⟩ (Nat.le_of_ble_eq_true rfl) (fun z => z) (rX2_remember (q := q) 21 h6 kd_21) (fun h8 e9 => Or.inl ⟨_, _, rfl, fun z => z, ?_⟩)
    show mm_E2 _ _ _ _ _ [] h8 _ _
    refine me_aload_n (pc' := 21) (i := 0) dX10_issue_20 rfl rfl rfl ?_
    refine me_getR (pc' := 24) (q' := 21) dX10_issue_21 rfl fkX10_45 kd_0 (mm_ltq kd_0) rfl (mrX10_5 kd_0) ?_
    refine me_aload_n (pc' := 25) (i := 0) dX10_issue_24 rfl rfl rfl ?_
    refine me_getR (pc' := 28) (q' := 347) dX10_issue_25 rfl fkX10_72 kd_0 (mm_ltq kd_0) rfl (mrX10_10 kd_0) ?_
    refine me_iload_n (pc' := 29) (i := 1) dX10_issue_28 rfl rfl rfl ?_
    refine me_iload_n (pc' := 30) (i := 2) dX10_issue_29 rfl rfl rfl ?_
    refine me_callV (As := [.ref 347, .int p0, .int p1]) (st := []) (F' := (mm_Sq q)) (G' := (mm_Sq q)) (F'' := (mm_Sq q)) (pc' := 33) dX10_issue_30 rfl mfX7_issueUnits rfl lkX10_311 kd_21 rfl (mm_ltq kd_21) ⟨Nat.le_of_ble_eq_true rfl, Nat.le_of_ble_eq_true rfl⟩ (Nat.le_of_ble_eq_true rfl) (fun z => z) (rX7_issueUnits (q := q) 21 p0 p1 h8 kd_21) (fun x10 e11 => Or.inl ⟨_, _, rfl, fun z => z, ?_⟩)
    show mm_E2 _ _ _ _ _ [.int x10.1] x10.2 _ _
    exact me_iret dX10_issue_33 rfl (fun z => z) rfl
  · exact Or.inr ⟨_, _, rfl, rfl, fun z => z, fun y9 hy9 => by rw [← Option.some.inj hy9]; rfl⟩
def gX10_refusalOfReserve (p0 : Int32) (p1 : Int32) (p2 : Int32) (h : mm_H) : Option Int32 :=
(gX1_hasProduct 14 p0 h).bind (fun (x1 : Bool) =>
if x1 = true then
(gX10_isOutside p1 1 9999 h).bind (fun (x4 : Bool) =>
if x4 = true then
some 2
else
(gX10_isOutside p2 ((mh_I h 21 0)) 9999 h).bind (fun (x7 : Bool) =>
if x7 = true then
some 2
else
mm_jn (fun (y10 : Int32) =>
if y10 = 0 then
some 3
else
some 0) (fun (j11 : Int32 → Option Int32) =>
mm_jn (fun (_ : Unit) =>
j11 0) (fun (j13 : Unit → Option Int32) =>
if (mh_I h 21 7) < 10 then
(gX7_availableUnits 21 p0 p2 h).bind (fun (x15 : Int32) =>
if x15 < p1 then
j13 ()
else
j11 1)
else
j13 ()))))
else
some 1)
theorem rX10_refusalOfReserve {q : Nat × Nat} (p0 : Int32) (p1 : Int32) (p2 : Int32) (h : mm_H) : mm_R2 (mm_Sq q) (mm_Sq q) mX10_refusalOfReserve [.ref 0, .int p0, .int p1, .int p2] h (gX10_refusalOfReserve p0 p1 p2 h) (lf_i h) := by
  refine mm_body (L := [some (.ref 0), some (.int p0), some (.int p1), some (.int p2), none]) rfl (by decide +kernel) (Nat.le_of_ble_eq_true rfl) rfl ?_
  unfold gX10_refusalOfReserve
  refine me_aload_n (pc' := 1) (i := 0) dX10_refusalOfReserve_0 rfl rfl rfl ?_
  refine me_getR (pc' := 4) (q' := 14) dX10_refusalOfReserve_1 rfl fkX10_38 kd_0 (mm_ltq kd_0) rfl (mrX10_4 kd_0) ?_
  refine me_iload_n (pc' := 5) (i := 1) dX10_refusalOfReserve_4 rfl rfl rfl ?_
  refine me_callV (As := [.int p0]) (st := []) (F' := (mm_Sq q)) (G' := (mm_Sq q)) (F'' := (mm_Sq q)) (pc' := 8) dX10_refusalOfReserve_5 rfl mfX1_hasProduct rfl lkX10_402 kd_14 rfl (mm_ltq kd_14) ⟨Nat.le_of_ble_eq_true rfl, Nat.le_of_ble_eq_true rfl⟩ (Nat.le_of_ble_eq_true rfl) (fun z => z) (rX1_hasProduct (q := q) 14 p0 h kd_14) (fun x1 e2 => Or.inl ⟨_, _, rfl, fun z => z, ?_⟩)
  show mm_E2 _ _ _ _ _ [.int (mx_bi x1)] h _ _
  refine me_ifB_ne (pc' := 11) (tgt := 13) dX10_refusalOfReserve_8 (by decide) rfl (fun c3 => ?_) (fun c3 => ?_)
  · refine me_iload_n (pc' := 14) (i := 2) dX10_refusalOfReserve_13 rfl rfl rfl ?_
    refine me_iconst (pc' := 15) (v := 1) dX10_refusalOfReserve_14 rfl kc_i1 ?_
    refine me_sipush (pc' := 18) (v := 9999) dX10_refusalOfReserve_15 rfl kc_s9999 ?_
    refine me_callS (As := [.int p1, .int 1, .int 9999]) (st := []) (F' := (mm_Sq q)) (G' := (mm_Sq q)) (F'' := (mm_Sq q)) (pc' := 21) dX10_refusalOfReserve_18 rfl mfX10_isOutside rfl lkX10_158 ⟨Nat.le_of_ble_eq_true rfl, Nat.le_of_ble_eq_true rfl⟩ (Nat.le_of_ble_eq_true rfl) (fun z => z) (rX10_isOutside (q := q) p1 1 9999 h ) (fun x4 e5 => Or.inl ⟨_, _, rfl, fun z => z, ?_⟩)
    show mm_E2 _ _ _ _ _ [.int (mx_bi x4)] h _ _
    refine me_ifB_ne (pc' := 24) (tgt := 41) dX10_refusalOfReserve_21 (by decide) rfl (fun c6 => ?_) (fun c6 => ?_)
    · refine me_iconst (pc' := 42) (v := 2) dX10_refusalOfReserve_41 rfl kc_i2 ?_
      exact me_iret dX10_refusalOfReserve_42 rfl (fun z => z) rfl
    · refine me_iload_n (pc' := 25) (i := 3) dX10_refusalOfReserve_24 rfl rfl rfl ?_
      refine me_aload_n (pc' := 26) (i := 0) dX10_refusalOfReserve_25 rfl rfl rfl ?_
      refine me_getR (pc' := 29) (q' := 21) dX10_refusalOfReserve_26 rfl fkX10_45 kd_0 (mm_ltq kd_0) rfl (mrX10_5 kd_0) ?_
      refine me_getI (pc' := 32) dX10_refusalOfReserve_29 rfl fkX10_142 kd_21 (mm_ltq kd_21) rfl ?_
      refine me_sipush (pc' := 35) (v := 9999) dX10_refusalOfReserve_32 rfl kc_s9999 ?_
      refine me_callS (As := [.int p2, .int (mh_I h 21 0), .int 9999]) (st := []) (F' := (mm_Sq q)) (G' := (mm_Sq q)) (F'' := (mm_Sq q)) (pc' := 38) dX10_refusalOfReserve_35 rfl mfX10_isOutside rfl lkX10_158 ⟨Nat.le_of_ble_eq_true rfl, Nat.le_of_ble_eq_true rfl⟩ (Nat.le_of_ble_eq_true rfl) (fun z => z) (rX10_isOutside (q := q) p2 ((mh_I h 21 0)) 9999 h ) (fun x7 e8 => Or.inl ⟨_, _, rfl, fun z => z, ?_⟩)
      show mm_E2 _ _ _ _ _ [.int (mx_bi x7)] h _ _
      refine me_ifB_eq (pc' := 41) (tgt := 43) dX10_refusalOfReserve_38 (by decide) rfl (fun c9 => ?_) (fun c9 => ?_)
      · refine me_aload_n (pc' := 44) (i := 0) dX10_refusalOfReserve_43 rfl rfl rfl ?_
        refine me_getR (pc' := 47) (q' := 21) dX10_refusalOfReserve_44 rfl fkX10_45 kd_0 (mm_ltq kd_0) rfl (mrX10_5 kd_0) ?_
        refine me_getI (pc' := 50) dX10_refusalOfReserve_47 rfl fkX10_240 kd_21 (mm_ltq kd_21) rfl ?_
        refine me_bipush (pc' := 52) (v := 10) dX10_refusalOfReserve_50 rfl kc_b10 ?_
        refine mm_jnI (fun (j119 : Int32 → Option Int32) => ∀ (y10 : Int32), mm_E2 (mm_Sq q) (mm_Sq q) mX10_refusalOfReserve 73 [none, none, none, none, none] [.int y10] h (j119 y10) (lf_i h)) ?_ (fun j11 j11p => ?_)
        · intro y10
          refine me_istore (pc' := 75) (i := 4) (L' := [none, none, none, none, some (.int y10)]) dX10_refusalOfReserve_73 rfl (Nat.le_of_ble_eq_true rfl) (Nat.le_of_ble_eq_true rfl) rfl ?_
          refine me_iload (pc' := 77) (i := 4) dX10_refusalOfReserve_75 rfl rfl ?_
          refine me_if_eq (pc' := 80) (tgt := 84) dX10_refusalOfReserve_77 (by decide) rfl (fun c12 => ?_) (fun c12 => ?_)
          · refine me_iconst (pc' := 85) (v := 3) dX10_refusalOfReserve_84 rfl kc_i3 ?_
            exact me_iret dX10_refusalOfReserve_85 rfl (fun z => z) rfl
          · refine me_iconst (pc' := 81) (v := 0) dX10_refusalOfReserve_80 rfl kc_i0 ?_
            refine me_goto (tgt := 85) dX10_refusalOfReserve_81 (by decide) ?_
            exact me_iret dX10_refusalOfReserve_85 rfl (fun z => z) rfl
        refine mm_jnI (fun (j139 : Unit → Option Int32) => ∀ (_ : Unit), mm_E2 (mm_Sq q) (mm_Sq q) mX10_refusalOfReserve 72 [none, none, none, none, none] [] h (j139 ()) (lf_i h)) ?_ (fun j13 j13p => ?_)
        · intro _
          refine me_iconst (pc' := 73) (v := 0) dX10_refusalOfReserve_72 rfl kc_i0 ?_
          exact j11p 0
        refine me_icmp_ge (pc' := 55) (tgt := 72) dX10_refusalOfReserve_52 (by decide) rfl (fun c14 => ?_) (fun c14 => ?_)
        · exact mm_maskB [false, false, false, false, false] (j13p ())
        · refine me_aload_n (pc' := 56) (i := 0) dX10_refusalOfReserve_55 rfl rfl rfl ?_
          refine me_getR (pc' := 59) (q' := 21) dX10_refusalOfReserve_56 rfl fkX10_45 kd_0 (mm_ltq kd_0) rfl (mrX10_5 kd_0) ?_
          refine me_iload_n (pc' := 60) (i := 1) dX10_refusalOfReserve_59 rfl rfl rfl ?_
          refine me_iload_n (pc' := 61) (i := 3) dX10_refusalOfReserve_60 rfl rfl rfl ?_
          refine me_callV (As := [.int p0, .int p2]) (st := []) (F' := (mm_Sq q)) (G' := (mm_Sq q)) (F'' := (mm_Sq q)) (pc' := 64) dX10_refusalOfReserve_61 rfl mfX7_availableUnits rfl lkX10_189 kd_21 rfl (mm_ltq kd_21) ⟨Nat.le_of_ble_eq_true rfl, Nat.le_of_ble_eq_true rfl⟩ (Nat.le_of_ble_eq_true rfl) (fun z => z) (rX7_availableUnits (q := q) 21 p0 p2 h kd_21) (fun x15 e16 => Or.inl ⟨_, _, rfl, fun z => z, ?_⟩)
          show mm_E2 _ _ _ _ _ [.int x15] h _ _
          refine me_iload_n (pc' := 65) (i := 2) dX10_refusalOfReserve_64 rfl rfl rfl ?_
          refine me_icmp_lt (pc' := 68) (tgt := 72) dX10_refusalOfReserve_65 (by decide) rfl (fun c17 => ?_) (fun c17 => ?_)
          · exact mm_maskB [false, false, false, false, false] (j13p ())
          · refine me_iconst (pc' := 69) (v := 1) dX10_refusalOfReserve_68 rfl kc_i1 ?_
            refine me_goto (tgt := 73) dX10_refusalOfReserve_69 (by decide) ?_
            exact mm_maskB [false, false, false, false, false] (j11p 1)
      · refine me_iconst (pc' := 42) (v := 2) dX10_refusalOfReserve_41 rfl kc_i2 ?_
        exact me_iret dX10_refusalOfReserve_42 rfl (fun z => z) rfl
  · refine me_iconst (pc' := 12) (v := 1) dX10_refusalOfReserve_11 rfl kc_i1 ?_
    exact me_iret dX10_refusalOfReserve_12 rfl (fun z => z) rfl
def gX10_reserve (p0 : Int32) (p1 : Int32) (p2 : Int32) (h : mm_H) : Option ((Int32 ⊕ String) × mm_H) :=
(gX10_refusalOfReserve p0 p1 p2 h).bind (fun (x1 : Int32) =>
(gX10_refuse x1 h).bind (fun (x3 : ((Unit ⊕ String) × mm_H)) => match x3 with
| (.inl _, h6) =>
(gX2_remember 21 h6).bind (fun (h8 : mm_H) =>
(gX7_addReservation 21 p0 p1 p2 h8).bind (fun (x10 : (Int32 × mm_H)) =>
some (.inl x10.1, x10.2)))
| (.inr E7, h6) => some (.inr E7, h6)))
theorem rX10_reserve {q : Nat × Nat} (p0 : Int32) (p1 : Int32) (p2 : Int32) (h : mm_H) : mm_R2 (mm_Sq q) (mm_Sq q) mX10_reserve [.ref 0, .int p0, .int p1, .int p2] h (gX10_reserve p0 p1 p2 h) lf_it := by
  refine mm_body (L := [some (.ref 0), some (.int p0), some (.int p1), some (.int p2)]) rfl (by decide +kernel) (Nat.le_of_ble_eq_true rfl) rfl ?_
  unfold gX10_reserve
  refine me_aload_n (pc' := 1) (i := 0) dX10_reserve_0 rfl rfl rfl ?_
  refine me_iload_n (pc' := 2) (i := 1) dX10_reserve_1 rfl rfl rfl ?_
  refine me_iload_n (pc' := 3) (i := 2) dX10_reserve_2 rfl rfl rfl ?_
  refine me_iload_n (pc' := 4) (i := 3) dX10_reserve_3 rfl rfl rfl ?_
  refine me_callV (As := [.int p0, .int p1, .int p2]) (st := []) (F' := (mm_Sq q)) (G' := (mm_Sq q)) (F'' := (mm_Sq q)) (pc' := 7) dX10_reserve_4 rfl mfX10_refusalOfReserve rfl lkX10_314 kd_0 rfl (mm_ltq kd_0) ⟨Nat.le_of_ble_eq_true rfl, Nat.le_of_ble_eq_true rfl⟩ (Nat.le_of_ble_eq_true rfl) (fun z => z) (rX10_refusalOfReserve (q := q) p0 p1 p2 h ) (fun x1 e2 => Or.inl ⟨_, _, rfl, fun z => z, ?_⟩)
  show mm_E2 _ _ _ _ _ [.int x1] h _ _
  refine me_callS (As := [.int x1]) (st := []) (F' := (mm_Sq q)) (G' := (mm_Sq q)) (F'' := (mm_Sq q)) (pc' := 10) dX10_reserve_7 rfl mfX10_refuse rfl lkX10_302 ⟨Nat.le_of_ble_eq_true rfl, Nat.le_of_ble_eq_true rfl⟩ (Nat.le_of_ble_eq_true rfl) (fun z => z) (rX10_refuse (q := q) x1 h ) (fun x3 e4 => ?_)
  rcases x3 with ⟨v5 | E7, h6⟩
  · refine Or.inl ⟨_, _, rfl, fun z => z, ?_⟩
    show mm_E2 _ _ _ _ _ [] h6 _ _
    try dsimp only
    refine me_aload_n (pc' := 11) (i := 0) dX10_reserve_10 rfl rfl rfl ?_
    refine me_getR (pc' := 14) (q' := 90) dX10_reserve_11 rfl fkX10_58 kd_0 (mm_ltq kd_0) rfl (mrX10_8 kd_0) ?_
    refine me_aload_n (pc' := 15) (i := 0) dX10_reserve_14 rfl rfl rfl ?_
    refine me_getR (pc' := 18) (q' := 21) dX10_reserve_15 rfl fkX10_45 kd_0 (mm_ltq kd_0) rfl (mrX10_5 kd_0) ?_
    refine me_callV (As := [.ref 21]) (st := []) (F' := (mm_Sq q)) (G' := (mm_Sq q)) (F'' := (mm_Sq q)) (pc' := 21) dX10_reserve_18 rfl mfX2_remember rfl lkX10_305 kd_90 rfl (mm_ltq kd_90) ⟨Nat.le_of_ble_eq_true rfl, Nat.le_of_ble_eq_true rfl⟩ (Nat.le_of_ble_eq_true rfl) (fun z => z) (rX2_remember (q := q) 21 h6 kd_21) (fun h8 e9 => Or.inl ⟨_, _, rfl, fun z => z, ?_⟩)
    show mm_E2 _ _ _ _ _ [] h8 _ _
    refine me_aload_n (pc' := 22) (i := 0) dX10_reserve_21 rfl rfl rfl ?_
    refine me_getR (pc' := 25) (q' := 21) dX10_reserve_22 rfl fkX10_45 kd_0 (mm_ltq kd_0) rfl (mrX10_5 kd_0) ?_
    refine me_aload_n (pc' := 26) (i := 0) dX10_reserve_25 rfl rfl rfl ?_
    refine me_getR (pc' := 29) (q' := 347) dX10_reserve_26 rfl fkX10_72 kd_0 (mm_ltq kd_0) rfl (mrX10_10 kd_0) ?_
    refine me_iload_n (pc' := 30) (i := 1) dX10_reserve_29 rfl rfl rfl ?_
    refine me_iload_n (pc' := 31) (i := 2) dX10_reserve_30 rfl rfl rfl ?_
    refine me_iload_n (pc' := 32) (i := 3) dX10_reserve_31 rfl rfl rfl ?_
    refine me_callV (As := [.ref 347, .int p0, .int p1, .int p2]) (st := []) (F' := (mm_Sq q)) (G' := (mm_Sq q)) (F'' := (mm_Sq q)) (pc' := 35) dX10_reserve_32 rfl mfX7_addReservation rfl lkX10_317 kd_21 rfl (mm_ltq kd_21) ⟨Nat.le_of_ble_eq_true rfl, Nat.le_of_ble_eq_true rfl⟩ (Nat.le_of_ble_eq_true rfl) (fun z => z) (rX7_addReservation (q := q) 21 p0 p1 p2 h8 kd_21) (fun x10 e11 => Or.inl ⟨_, _, rfl, fun z => z, ?_⟩)
    show mm_E2 _ _ _ _ _ [.int x10.1] x10.2 _ _
    exact me_iret dX10_reserve_35 rfl (fun z => z) rfl
  · exact Or.inr ⟨_, _, rfl, rfl, fun z => z, fun y9 hy9 => by rw [← Option.some.inj hy9]; rfl⟩
def gX10_refusalOfShip (p0 : Int32) (h : mm_H) : Option Int32 :=
(gX7_hasReservation 21 p0 h).bind (fun (x1 : Bool) =>
if x1 = true then
(gX7_shippingObstacle 21 p0 h).bind (fun (x4 : Int32) =>
if x4 = 0 then
some 0
else
some 3)
else
some 1)
theorem rX10_refusalOfShip {q : Nat × Nat} (p0 : Int32) (h : mm_H) : mm_R2 (mm_Sq q) (mm_Sq q) mX10_refusalOfShip [.ref 0, .int p0] h (gX10_refusalOfShip p0 h) (lf_i h) := by
  refine mm_body (L := [some (.ref 0), some (.int p0)]) rfl (by decide +kernel) (Nat.le_of_ble_eq_true rfl) rfl ?_
  unfold gX10_refusalOfShip
  refine me_aload_n (pc' := 1) (i := 0) dX10_refusalOfShip_0 rfl rfl rfl ?_
  refine me_getR (pc' := 4) (q' := 21) dX10_refusalOfShip_1 rfl fkX10_45 kd_0 (mm_ltq kd_0) rfl (mrX10_5 kd_0) ?_
  refine me_iload_n (pc' := 5) (i := 1) dX10_refusalOfShip_4 rfl rfl rfl ?_
  refine me_callV (As := [.int p0]) (st := []) (F' := (mm_Sq q)) (G' := (mm_Sq q)) (F'' := (mm_Sq q)) (pc' := 8) dX10_refusalOfShip_5 rfl mfX7_hasReservation rfl lkX10_412 kd_21 rfl (mm_ltq kd_21) ⟨Nat.le_of_ble_eq_true rfl, Nat.le_of_ble_eq_true rfl⟩ (Nat.le_of_ble_eq_true rfl) (fun z => z) (rX7_hasReservation (q := q) 21 p0 h kd_21) (fun x1 e2 => Or.inl ⟨_, _, rfl, fun z => z, ?_⟩)
  show mm_E2 _ _ _ _ _ [.int (mx_bi x1)] h _ _
  refine me_ifB_ne (pc' := 11) (tgt := 13) dX10_refusalOfShip_8 (by decide) rfl (fun c3 => ?_) (fun c3 => ?_)
  · refine me_aload_n (pc' := 14) (i := 0) dX10_refusalOfShip_13 rfl rfl rfl ?_
    refine me_getR (pc' := 17) (q' := 21) dX10_refusalOfShip_14 rfl fkX10_45 kd_0 (mm_ltq kd_0) rfl (mrX10_5 kd_0) ?_
    refine me_iload_n (pc' := 18) (i := 1) dX10_refusalOfShip_17 rfl rfl rfl ?_
    refine me_callV (As := [.int p0]) (st := []) (F' := (mm_Sq q)) (G' := (mm_Sq q)) (F'' := (mm_Sq q)) (pc' := 21) dX10_refusalOfShip_18 rfl mfX7_shippingObstacle rfl lkX10_261 kd_21 rfl (mm_ltq kd_21) ⟨Nat.le_of_ble_eq_true rfl, Nat.le_of_ble_eq_true rfl⟩ (Nat.le_of_ble_eq_true rfl) (fun z => z) (rX7_shippingObstacle (q := q) 21 p0 h kd_21) (fun x4 e5 => Or.inl ⟨_, _, rfl, fun z => z, ?_⟩)
    show mm_E2 _ _ _ _ _ [.int x4] h _ _
    refine me_if_ne (pc' := 24) (tgt := 28) dX10_refusalOfShip_21 (by decide) rfl (fun c6 => ?_) (fun c6 => ?_)
    · refine me_iconst (pc' := 29) (v := 3) dX10_refusalOfShip_28 rfl kc_i3 ?_
      exact me_iret dX10_refusalOfShip_29 rfl (fun z => z) rfl
    · refine me_iconst (pc' := 25) (v := 0) dX10_refusalOfShip_24 rfl kc_i0 ?_
      refine me_goto (tgt := 29) dX10_refusalOfShip_25 (by decide) ?_
      exact me_iret dX10_refusalOfShip_29 rfl (fun z => z) rfl
  · refine me_iconst (pc' := 12) (v := 1) dX10_refusalOfShip_11 rfl kc_i1 ?_
    exact me_iret dX10_refusalOfShip_12 rfl (fun z => z) rfl
def gX10_ship (p0 : Int32) (h : mm_H) : Option ((Int32 ⊕ String) × mm_H) :=
(gX10_refusalOfShip p0 h).bind (fun (x1 : Int32) =>
(gX10_refuse x1 h).bind (fun (x3 : ((Unit ⊕ String) × mm_H)) => match x3 with
| (.inl _, h6) =>
(gX2_remember 21 h6).bind (fun (h8 : mm_H) =>
(gX7_shipReservation 21 p0 h8).bind (fun (x10 : (Int32 × mm_H)) =>
some (.inl x10.1, x10.2)))
| (.inr E7, h6) => some (.inr E7, h6)))
theorem rX10_ship {q : Nat × Nat} (p0 : Int32) (h : mm_H) : mm_R2 (mm_Sq q) (mm_Sq q) mX10_ship [.ref 0, .int p0] h (gX10_ship p0 h) lf_it := by
  refine mm_body (L := [some (.ref 0), some (.int p0)]) rfl (by decide +kernel) (Nat.le_of_ble_eq_true rfl) rfl ?_
  unfold gX10_ship
  refine me_aload_n (pc' := 1) (i := 0) dX10_ship_0 rfl rfl rfl ?_
  refine me_iload_n (pc' := 2) (i := 1) dX10_ship_1 rfl rfl rfl ?_
  refine me_callV (As := [.int p0]) (st := []) (F' := (mm_Sq q)) (G' := (mm_Sq q)) (F'' := (mm_Sq q)) (pc' := 5) dX10_ship_2 rfl mfX10_refusalOfShip rfl lkX10_320 kd_0 rfl (mm_ltq kd_0) ⟨Nat.le_of_ble_eq_true rfl, Nat.le_of_ble_eq_true rfl⟩ (Nat.le_of_ble_eq_true rfl) (fun z => z) (rX10_refusalOfShip (q := q) p0 h ) (fun x1 e2 => Or.inl ⟨_, _, rfl, fun z => z, ?_⟩)
  show mm_E2 _ _ _ _ _ [.int x1] h _ _
  refine me_callS (As := [.int x1]) (st := []) (F' := (mm_Sq q)) (G' := (mm_Sq q)) (F'' := (mm_Sq q)) (pc' := 8) dX10_ship_5 rfl mfX10_refuse rfl lkX10_302 ⟨Nat.le_of_ble_eq_true rfl, Nat.le_of_ble_eq_true rfl⟩ (Nat.le_of_ble_eq_true rfl) (fun z => z) (rX10_refuse (q := q) x1 h ) (fun x3 e4 => ?_)
  rcases x3 with ⟨v5 | E7, h6⟩
  · refine Or.inl ⟨_, _, rfl, fun z => z, ?_⟩
    show mm_E2 _ _ _ _ _ [] h6 _ _
    try dsimp only
    refine me_aload_n (pc' := 9) (i := 0) dX10_ship_8 rfl rfl rfl ?_
    refine me_getR (pc' := 12) (q' := 90) dX10_ship_9 rfl fkX10_58 kd_0 (mm_ltq kd_0) rfl (mrX10_8 kd_0) ?_
    refine me_aload_n (pc' := 13) (i := 0) dX10_ship_12 rfl rfl rfl ?_
    refine me_getR (pc' := 16) (q' := 21) dX10_ship_13 rfl fkX10_45 kd_0 (mm_ltq kd_0) rfl (mrX10_5 kd_0) ?_
    refine me_callV (As := [.ref 21]) (st := []) (F' := (mm_Sq q)) (G' := (mm_Sq q)) (F'' := (mm_Sq q)) (pc' := 19) dX10_ship_16 rfl mfX2_remember rfl lkX10_305 kd_90 rfl (mm_ltq kd_90) ⟨Nat.le_of_ble_eq_true rfl, Nat.le_of_ble_eq_true rfl⟩ (Nat.le_of_ble_eq_true rfl) (fun z => z) (rX2_remember (q := q) 21 h6 kd_21) (fun h8 e9 => Or.inl ⟨_, _, rfl, fun z => z, ?_⟩)
    show mm_E2 _ _ _ _ _ [] h8 _ _
    refine me_aload_n (pc' := 20) (i := 0) dX10_ship_19 rfl rfl rfl ?_
    refine me_getR (pc' := 23) (q' := 21) dX10_ship_20 rfl fkX10_45 kd_0 (mm_ltq kd_0) rfl (mrX10_5 kd_0) ?_
    refine me_iload_n (pc' := 24) (i := 1) dX10_ship_23 rfl rfl rfl ?_
    refine me_callV (As := [.int p0]) (st := []) (F' := (mm_Sq q)) (G' := (mm_Sq q)) (F'' := (mm_Sq q)) (pc' := 27) dX10_ship_24 rfl mfX7_shipReservation rfl lkX10_323 kd_21 rfl (mm_ltq kd_21) ⟨Nat.le_of_ble_eq_true rfl, Nat.le_of_ble_eq_true rfl⟩ (Nat.le_of_ble_eq_true rfl) (fun z => z) (rX7_shipReservation (q := q) 21 p0 h8 kd_21) (fun x10 e11 => Or.inl ⟨_, _, rfl, fun z => z, ?_⟩)
    show mm_E2 _ _ _ _ _ [.int x10.1] x10.2 _ _
    exact me_iret dX10_ship_27 rfl (fun z => z) rfl
  · exact Or.inr ⟨_, _, rfl, rfl, fun z => z, fun y9 hy9 => by rw [← Option.some.inj hy9]; rfl⟩
def gX10_refusalOfOpenOnly (p0 : Int32) (h : mm_H) : Option Int32 :=
(gX7_hasReservation 21 p0 h).bind (fun (x1 : Bool) =>
if x1 = true then
(gX7_isPending 21 p0 h).bind (fun (x4 : Bool) =>
if x4 = true then
some 0
else
some 3)
else
some 1)
theorem rX10_refusalOfOpenOnly {q : Nat × Nat} (p0 : Int32) (h : mm_H) : mm_R2 (mm_Sq q) (mm_Sq q) mX10_refusalOfOpenOnly [.ref 0, .int p0] h (gX10_refusalOfOpenOnly p0 h) (lf_i h) := by
  refine mm_body (L := [some (.ref 0), some (.int p0)]) rfl (by decide +kernel) (Nat.le_of_ble_eq_true rfl) rfl ?_
  unfold gX10_refusalOfOpenOnly
  refine me_aload_n (pc' := 1) (i := 0) dX10_refusalOfOpenOnly_0 rfl rfl rfl ?_
  refine me_getR (pc' := 4) (q' := 21) dX10_refusalOfOpenOnly_1 rfl fkX10_45 kd_0 (mm_ltq kd_0) rfl (mrX10_5 kd_0) ?_
  refine me_iload_n (pc' := 5) (i := 1) dX10_refusalOfOpenOnly_4 rfl rfl rfl ?_
  refine me_callV (As := [.int p0]) (st := []) (F' := (mm_Sq q)) (G' := (mm_Sq q)) (F'' := (mm_Sq q)) (pc' := 8) dX10_refusalOfOpenOnly_5 rfl mfX7_hasReservation rfl lkX10_412 kd_21 rfl (mm_ltq kd_21) ⟨Nat.le_of_ble_eq_true rfl, Nat.le_of_ble_eq_true rfl⟩ (Nat.le_of_ble_eq_true rfl) (fun z => z) (rX7_hasReservation (q := q) 21 p0 h kd_21) (fun x1 e2 => Or.inl ⟨_, _, rfl, fun z => z, ?_⟩)
  show mm_E2 _ _ _ _ _ [.int (mx_bi x1)] h _ _
  refine me_ifB_ne (pc' := 11) (tgt := 13) dX10_refusalOfOpenOnly_8 (by decide) rfl (fun c3 => ?_) (fun c3 => ?_)
  · refine me_aload_n (pc' := 14) (i := 0) dX10_refusalOfOpenOnly_13 rfl rfl rfl ?_
    refine me_getR (pc' := 17) (q' := 21) dX10_refusalOfOpenOnly_14 rfl fkX10_45 kd_0 (mm_ltq kd_0) rfl (mrX10_5 kd_0) ?_
    refine me_iload_n (pc' := 18) (i := 1) dX10_refusalOfOpenOnly_17 rfl rfl rfl ?_
    refine me_callV (As := [.int p0]) (st := []) (F' := (mm_Sq q)) (G' := (mm_Sq q)) (F'' := (mm_Sq q)) (pc' := 21) dX10_refusalOfOpenOnly_18 rfl mfX7_isPending rfl lkX10_252 kd_21 rfl (mm_ltq kd_21) ⟨Nat.le_of_ble_eq_true rfl, Nat.le_of_ble_eq_true rfl⟩ (Nat.le_of_ble_eq_true rfl) (fun z => z) (rX7_isPending (q := q) 21 p0 h kd_21) (fun x4 e5 => Or.inl ⟨_, _, rfl, fun z => z, ?_⟩)
    show mm_E2 _ _ _ _ _ [.int (mx_bi x4)] h _ _
    refine me_ifB_eq (pc' := 24) (tgt := 28) dX10_refusalOfOpenOnly_21 (by decide) rfl (fun c6 => ?_) (fun c6 => ?_)
    · refine me_iconst (pc' := 29) (v := 3) dX10_refusalOfOpenOnly_28 rfl kc_i3 ?_
      exact me_iret dX10_refusalOfOpenOnly_29 rfl (fun z => z) rfl
    · refine me_iconst (pc' := 25) (v := 0) dX10_refusalOfOpenOnly_24 rfl kc_i0 ?_
      refine me_goto (tgt := 29) dX10_refusalOfOpenOnly_25 (by decide) ?_
      exact me_iret dX10_refusalOfOpenOnly_29 rfl (fun z => z) rfl
  · refine me_iconst (pc' := 12) (v := 1) dX10_refusalOfOpenOnly_11 rfl kc_i1 ?_
    exact me_iret dX10_refusalOfOpenOnly_12 rfl (fun z => z) rfl
def gX10_cancel (p0 : Int32) (h : mm_H) : Option ((Int32 ⊕ String) × mm_H) :=
(gX10_refusalOfOpenOnly p0 h).bind (fun (x1 : Int32) =>
(gX10_refuse x1 h).bind (fun (x3 : ((Unit ⊕ String) × mm_H)) => match x3 with
| (.inl _, h6) =>
(gX2_remember 21 h6).bind (fun (h8 : mm_H) =>
(gX7_cancelReservation 21 p0 h8).bind (fun (x10 : (Int32 × mm_H)) =>
some (.inl x10.1, x10.2)))
| (.inr E7, h6) => some (.inr E7, h6)))
theorem rX10_cancel {q : Nat × Nat} (p0 : Int32) (h : mm_H) : mm_R2 (mm_Sq q) (mm_Sq q) mX10_cancel [.ref 0, .int p0] h (gX10_cancel p0 h) lf_it := by
  refine mm_body (L := [some (.ref 0), some (.int p0)]) rfl (by decide +kernel) (Nat.le_of_ble_eq_true rfl) rfl ?_
  unfold gX10_cancel
  refine me_aload_n (pc' := 1) (i := 0) dX10_cancel_0 rfl rfl rfl ?_
  refine me_iload_n (pc' := 2) (i := 1) dX10_cancel_1 rfl rfl rfl ?_
  refine me_callV (As := [.int p0]) (st := []) (F' := (mm_Sq q)) (G' := (mm_Sq q)) (F'' := (mm_Sq q)) (pc' := 5) dX10_cancel_2 rfl mfX10_refusalOfOpenOnly rfl lkX10_326 kd_0 rfl (mm_ltq kd_0) ⟨Nat.le_of_ble_eq_true rfl, Nat.le_of_ble_eq_true rfl⟩ (Nat.le_of_ble_eq_true rfl) (fun z => z) (rX10_refusalOfOpenOnly (q := q) p0 h ) (fun x1 e2 => Or.inl ⟨_, _, rfl, fun z => z, ?_⟩)
  show mm_E2 _ _ _ _ _ [.int x1] h _ _
  refine me_callS (As := [.int x1]) (st := []) (F' := (mm_Sq q)) (G' := (mm_Sq q)) (F'' := (mm_Sq q)) (pc' := 8) dX10_cancel_5 rfl mfX10_refuse rfl lkX10_302 ⟨Nat.le_of_ble_eq_true rfl, Nat.le_of_ble_eq_true rfl⟩ (Nat.le_of_ble_eq_true rfl) (fun z => z) (rX10_refuse (q := q) x1 h ) (fun x3 e4 => ?_)
  rcases x3 with ⟨v5 | E7, h6⟩
  · refine Or.inl ⟨_, _, rfl, fun z => z, ?_⟩
    show mm_E2 _ _ _ _ _ [] h6 _ _
    try dsimp only
    refine me_aload_n (pc' := 9) (i := 0) dX10_cancel_8 rfl rfl rfl ?_
    refine me_getR (pc' := 12) (q' := 90) dX10_cancel_9 rfl fkX10_58 kd_0 (mm_ltq kd_0) rfl (mrX10_8 kd_0) ?_
    refine me_aload_n (pc' := 13) (i := 0) dX10_cancel_12 rfl rfl rfl ?_
    refine me_getR (pc' := 16) (q' := 21) dX10_cancel_13 rfl fkX10_45 kd_0 (mm_ltq kd_0) rfl (mrX10_5 kd_0) ?_
    refine me_callV (As := [.ref 21]) (st := []) (F' := (mm_Sq q)) (G' := (mm_Sq q)) (F'' := (mm_Sq q)) (pc' := 19) dX10_cancel_16 rfl mfX2_remember rfl lkX10_305 kd_90 rfl (mm_ltq kd_90) ⟨Nat.le_of_ble_eq_true rfl, Nat.le_of_ble_eq_true rfl⟩ (Nat.le_of_ble_eq_true rfl) (fun z => z) (rX2_remember (q := q) 21 h6 kd_21) (fun h8 e9 => Or.inl ⟨_, _, rfl, fun z => z, ?_⟩)
    show mm_E2 _ _ _ _ _ [] h8 _ _
    refine me_aload_n (pc' := 20) (i := 0) dX10_cancel_19 rfl rfl rfl ?_
    refine me_getR (pc' := 23) (q' := 21) dX10_cancel_20 rfl fkX10_45 kd_0 (mm_ltq kd_0) rfl (mrX10_5 kd_0) ?_
    refine me_iload_n (pc' := 24) (i := 1) dX10_cancel_23 rfl rfl rfl ?_
    refine me_callV (As := [.int p0]) (st := []) (F' := (mm_Sq q)) (G' := (mm_Sq q)) (F'' := (mm_Sq q)) (pc' := 27) dX10_cancel_24 rfl mfX7_cancelReservation rfl lkX10_329 kd_21 rfl (mm_ltq kd_21) ⟨Nat.le_of_ble_eq_true rfl, Nat.le_of_ble_eq_true rfl⟩ (Nat.le_of_ble_eq_true rfl) (fun z => z) (rX7_cancelReservation (q := q) 21 p0 h8 kd_21) (fun x10 e11 => Or.inl ⟨_, _, rfl, fun z => z, ?_⟩)
    show mm_E2 _ _ _ _ _ [.int x10.1] x10.2 _ _
    exact me_iret dX10_cancel_27 rfl (fun z => z) rfl
  · exact Or.inr ⟨_, _, rfl, rfl, fun z => z, fun y9 hy9 => by rw [← Option.some.inj hy9]; rfl⟩
def gX10_refill (p0 : Int32) (h : mm_H) : Option ((Int32 ⊕ String) × mm_H) :=
(gX10_refusalOfOpenOnly p0 h).bind (fun (x1 : Int32) =>
(gX10_refuse x1 h).bind (fun (x3 : ((Unit ⊕ String) × mm_H)) => match x3 with
| (.inl _, h6) =>
(gX2_remember 21 h6).bind (fun (h8 : mm_H) =>
(gX7_refillReservation 21 p0 h8).bind (fun (x10 : (Int32 × mm_H)) =>
some (.inl x10.1, x10.2)))
| (.inr E7, h6) => some (.inr E7, h6)))
theorem rX10_refill {q : Nat × Nat} (p0 : Int32) (h : mm_H) : mm_R2 (mm_Sq q) (mm_Sq q) mX10_refill [.ref 0, .int p0] h (gX10_refill p0 h) lf_it := by
  refine mm_body (L := [some (.ref 0), some (.int p0)]) rfl (by decide +kernel) (Nat.le_of_ble_eq_true rfl) rfl ?_
  unfold gX10_refill
  refine me_aload_n (pc' := 1) (i := 0) dX10_refill_0 rfl rfl rfl ?_
  refine me_iload_n (pc' := 2) (i := 1) dX10_refill_1 rfl rfl rfl ?_
  refine me_callV (As := [.int p0]) (st := []) (F' := (mm_Sq q)) (G' := (mm_Sq q)) (F'' := (mm_Sq q)) (pc' := 5) dX10_refill_2 rfl mfX10_refusalOfOpenOnly rfl lkX10_326 kd_0 rfl (mm_ltq kd_0) ⟨Nat.le_of_ble_eq_true rfl, Nat.le_of_ble_eq_true rfl⟩ (Nat.le_of_ble_eq_true rfl) (fun z => z) (rX10_refusalOfOpenOnly (q := q) p0 h ) (fun x1 e2 => Or.inl ⟨_, _, rfl, fun z => z, ?_⟩)
  show mm_E2 _ _ _ _ _ [.int x1] h _ _
  refine me_callS (As := [.int x1]) (st := []) (F' := (mm_Sq q)) (G' := (mm_Sq q)) (F'' := (mm_Sq q)) (pc' := 8) dX10_refill_5 rfl mfX10_refuse rfl lkX10_302 ⟨Nat.le_of_ble_eq_true rfl, Nat.le_of_ble_eq_true rfl⟩ (Nat.le_of_ble_eq_true rfl) (fun z => z) (rX10_refuse (q := q) x1 h ) (fun x3 e4 => ?_)
  rcases x3 with ⟨v5 | E7, h6⟩
  · refine Or.inl ⟨_, _, rfl, fun z => z, ?_⟩
    show mm_E2 _ _ _ _ _ [] h6 _ _
    try dsimp only
    refine me_aload_n (pc' := 9) (i := 0) dX10_refill_8 rfl rfl rfl ?_
    refine me_getR (pc' := 12) (q' := 90) dX10_refill_9 rfl fkX10_58 kd_0 (mm_ltq kd_0) rfl (mrX10_8 kd_0) ?_
    refine me_aload_n (pc' := 13) (i := 0) dX10_refill_12 rfl rfl rfl ?_
    refine me_getR (pc' := 16) (q' := 21) dX10_refill_13 rfl fkX10_45 kd_0 (mm_ltq kd_0) rfl (mrX10_5 kd_0) ?_
    refine me_callV (As := [.ref 21]) (st := []) (F' := (mm_Sq q)) (G' := (mm_Sq q)) (F'' := (mm_Sq q)) (pc' := 19) dX10_refill_16 rfl mfX2_remember rfl lkX10_305 kd_90 rfl (mm_ltq kd_90) ⟨Nat.le_of_ble_eq_true rfl, Nat.le_of_ble_eq_true rfl⟩ (Nat.le_of_ble_eq_true rfl) (fun z => z) (rX2_remember (q := q) 21 h6 kd_21) (fun h8 e9 => Or.inl ⟨_, _, rfl, fun z => z, ?_⟩)
    show mm_E2 _ _ _ _ _ [] h8 _ _
    refine me_aload_n (pc' := 20) (i := 0) dX10_refill_19 rfl rfl rfl ?_
    refine me_getR (pc' := 23) (q' := 21) dX10_refill_20 rfl fkX10_45 kd_0 (mm_ltq kd_0) rfl (mrX10_5 kd_0) ?_
    refine me_aload_n (pc' := 24) (i := 0) dX10_refill_23 rfl rfl rfl ?_
    refine me_getR (pc' := 27) (q' := 347) dX10_refill_24 rfl fkX10_72 kd_0 (mm_ltq kd_0) rfl (mrX10_10 kd_0) ?_
    refine me_iload_n (pc' := 28) (i := 1) dX10_refill_27 rfl rfl rfl ?_
    refine me_callV (As := [.ref 347, .int p0]) (st := []) (F' := (mm_Sq q)) (G' := (mm_Sq q)) (F'' := (mm_Sq q)) (pc' := 31) dX10_refill_28 rfl mfX7_refillReservation rfl lkX10_332 kd_21 rfl (mm_ltq kd_21) ⟨Nat.le_of_ble_eq_true rfl, Nat.le_of_ble_eq_true rfl⟩ (Nat.le_of_ble_eq_true rfl) (fun z => z) (rX7_refillReservation (q := q) 21 p0 h8 kd_21) (fun x10 e11 => Or.inl ⟨_, _, rfl, fun z => z, ?_⟩)
    show mm_E2 _ _ _ _ _ [.int x10.1] x10.2 _ _
    exact me_iret dX10_refill_31 rfl (fun z => z) rfl
  · exact Or.inr ⟨_, _, rfl, rfl, fun z => z, fun y9 hy9 => by rw [← Option.some.inj hy9]; rfl⟩
def gX10_refusalOfCount (p0 : Int32) (p1 : Int32) (h : mm_H) : Option Int32 :=
(gX7_hasBatch 21 p0 h).bind (fun (x1 : Bool) =>
if x1 = true then
(gX10_isOutside p1 0 999 h).bind (fun (x4 : Bool) =>
if x4 = true then
some 2
else
(gX4_get 26 p0 h).bind (fun (x7 : Int32) =>
if p1 < x7 then
some 3
else
some 0))
else
some 1)
theorem rX10_refusalOfCount {q : Nat × Nat} (p0 : Int32) (p1 : Int32) (h : mm_H) : mm_R2 (mm_Sq q) (mm_Sq q) mX10_refusalOfCount [.ref 0, .int p0, .int p1] h (gX10_refusalOfCount p0 p1 h) (lf_i h) := by
  refine mm_body (L := [some (.ref 0), some (.int p0), some (.int p1)]) rfl (by decide +kernel) (Nat.le_of_ble_eq_true rfl) rfl ?_
  unfold gX10_refusalOfCount
  refine me_aload_n (pc' := 1) (i := 0) dX10_refusalOfCount_0 rfl rfl rfl ?_
  refine me_getR (pc' := 4) (q' := 21) dX10_refusalOfCount_1 rfl fkX10_45 kd_0 (mm_ltq kd_0) rfl (mrX10_5 kd_0) ?_
  refine me_iload_n (pc' := 5) (i := 1) dX10_refusalOfCount_4 rfl rfl rfl ?_
  refine me_callV (As := [.int p0]) (st := []) (F' := (mm_Sq q)) (G' := (mm_Sq q)) (F'' := (mm_Sq q)) (pc' := 8) dX10_refusalOfCount_5 rfl mfX7_hasBatch rfl lkX10_407 kd_21 rfl (mm_ltq kd_21) ⟨Nat.le_of_ble_eq_true rfl, Nat.le_of_ble_eq_true rfl⟩ (Nat.le_of_ble_eq_true rfl) (fun z => z) (rX7_hasBatch (q := q) 21 p0 h kd_21) (fun x1 e2 => Or.inl ⟨_, _, rfl, fun z => z, ?_⟩)
  show mm_E2 _ _ _ _ _ [.int (mx_bi x1)] h _ _
  refine me_ifB_ne (pc' := 11) (tgt := 13) dX10_refusalOfCount_8 (by decide) rfl (fun c3 => ?_) (fun c3 => ?_)
  · refine me_iload_n (pc' := 14) (i := 2) dX10_refusalOfCount_13 rfl rfl rfl ?_
    refine me_iconst (pc' := 15) (v := 0) dX10_refusalOfCount_14 rfl kc_i0 ?_
    refine me_sipush (pc' := 18) (v := 999) dX10_refusalOfCount_15 rfl kc_s999 ?_
    refine me_callS (As := [.int p1, .int 0, .int 999]) (st := []) (F' := (mm_Sq q)) (G' := (mm_Sq q)) (F'' := (mm_Sq q)) (pc' := 21) dX10_refusalOfCount_18 rfl mfX10_isOutside rfl lkX10_158 ⟨Nat.le_of_ble_eq_true rfl, Nat.le_of_ble_eq_true rfl⟩ (Nat.le_of_ble_eq_true rfl) (fun z => z) (rX10_isOutside (q := q) p1 0 999 h ) (fun x4 e5 => Or.inl ⟨_, _, rfl, fun z => z, ?_⟩)
    show mm_E2 _ _ _ _ _ [.int (mx_bi x4)] h _ _
    refine me_ifB_eq (pc' := 24) (tgt := 26) dX10_refusalOfCount_21 (by decide) rfl (fun c6 => ?_) (fun c6 => ?_)
    · refine me_iload_n (pc' := 27) (i := 2) dX10_refusalOfCount_26 rfl rfl rfl ?_
      refine me_aload_n (pc' := 28) (i := 0) dX10_refusalOfCount_27 rfl rfl rfl ?_
      refine me_getR (pc' := 31) (q' := 21) dX10_refusalOfCount_28 rfl fkX10_45 kd_0 (mm_ltq kd_0) rfl (mrX10_5 kd_0) ?_
      refine me_getR (pc' := 34) (q' := 26) dX10_refusalOfCount_31 rfl fkX10_214 kd_21 (mm_ltq kd_21) rfl (mrX7_4 kd_21) ?_
      refine me_iload_n (pc' := 35) (i := 1) dX10_refusalOfCount_34 rfl rfl rfl ?_
      refine me_callV (As := [.int p0]) (st := [.int p1]) (F' := (mm_Sq q)) (G' := (mm_Sq q)) (F'' := (mm_Sq q)) (pc' := 38) dX10_refusalOfCount_35 rfl mfX4_get rfl lkX10_152 kd_26 rfl (mm_ltq kd_26) ⟨Nat.le_of_ble_eq_true rfl, Nat.le_of_ble_eq_true rfl⟩ (Nat.le_of_ble_eq_true rfl) (fun z => z) (rX4_get (q := q) 26 p0 h kd_26) (fun x7 e8 => Or.inl ⟨_, _, rfl, fun z => z, ?_⟩)
      show mm_E2 _ _ _ _ _ [.int x7, .int p1] h _ _
      refine me_icmp_lt (pc' := 41) (tgt := 45) dX10_refusalOfCount_38 (by decide) rfl (fun c9 => ?_) (fun c9 => ?_)
      · refine me_iconst (pc' := 46) (v := 3) dX10_refusalOfCount_45 rfl kc_i3 ?_
        exact me_iret dX10_refusalOfCount_46 rfl (fun z => z) rfl
      · refine me_iconst (pc' := 42) (v := 0) dX10_refusalOfCount_41 rfl kc_i0 ?_
        refine me_goto (tgt := 46) dX10_refusalOfCount_42 (by decide) ?_
        exact me_iret dX10_refusalOfCount_46 rfl (fun z => z) rfl
    · refine me_iconst (pc' := 25) (v := 2) dX10_refusalOfCount_24 rfl kc_i2 ?_
      exact me_iret dX10_refusalOfCount_25 rfl (fun z => z) rfl
  · refine me_iconst (pc' := 12) (v := 1) dX10_refusalOfCount_11 rfl kc_i1 ?_
    exact me_iret dX10_refusalOfCount_12 rfl (fun z => z) rfl
def gX10_takeStock (p0 : Int32) (p1 : Int32) (h : mm_H) : Option ((Int32 ⊕ String) × mm_H) :=
(gX10_refusalOfCount p0 p1 h).bind (fun (x1 : Int32) =>
(gX10_refuse x1 h).bind (fun (x3 : ((Unit ⊕ String) × mm_H)) => match x3 with
| (.inl _, h6) =>
(gX2_remember 21 h6).bind (fun (h8 : mm_H) =>
(gX7_countBatch 21 p0 p1 h8).bind (fun (x10 : (Int32 × mm_H)) =>
some (.inl x10.1, x10.2)))
| (.inr E7, h6) => some (.inr E7, h6)))
theorem rX10_takeStock {q : Nat × Nat} (p0 : Int32) (p1 : Int32) (h : mm_H) : mm_R2 (mm_Sq q) (mm_Sq q) mX10_takeStock [.ref 0, .int p0, .int p1] h (gX10_takeStock p0 p1 h) lf_it := by
  refine mm_body (L := [some (.ref 0), some (.int p0), some (.int p1)]) rfl (by decide +kernel) (Nat.le_of_ble_eq_true rfl) rfl ?_
  unfold gX10_takeStock
  refine me_aload_n (pc' := 1) (i := 0) dX10_takeStock_0 rfl rfl rfl ?_
  refine me_iload_n (pc' := 2) (i := 1) dX10_takeStock_1 rfl rfl rfl ?_
  refine me_iload_n (pc' := 3) (i := 2) dX10_takeStock_2 rfl rfl rfl ?_
  refine me_callV (As := [.int p0, .int p1]) (st := []) (F' := (mm_Sq q)) (G' := (mm_Sq q)) (F'' := (mm_Sq q)) (pc' := 6) dX10_takeStock_3 rfl mfX10_refusalOfCount rfl lkX10_335 kd_0 rfl (mm_ltq kd_0) ⟨Nat.le_of_ble_eq_true rfl, Nat.le_of_ble_eq_true rfl⟩ (Nat.le_of_ble_eq_true rfl) (fun z => z) (rX10_refusalOfCount (q := q) p0 p1 h ) (fun x1 e2 => Or.inl ⟨_, _, rfl, fun z => z, ?_⟩)
  show mm_E2 _ _ _ _ _ [.int x1] h _ _
  refine me_callS (As := [.int x1]) (st := []) (F' := (mm_Sq q)) (G' := (mm_Sq q)) (F'' := (mm_Sq q)) (pc' := 9) dX10_takeStock_6 rfl mfX10_refuse rfl lkX10_302 ⟨Nat.le_of_ble_eq_true rfl, Nat.le_of_ble_eq_true rfl⟩ (Nat.le_of_ble_eq_true rfl) (fun z => z) (rX10_refuse (q := q) x1 h ) (fun x3 e4 => ?_)
  rcases x3 with ⟨v5 | E7, h6⟩
  · refine Or.inl ⟨_, _, rfl, fun z => z, ?_⟩
    show mm_E2 _ _ _ _ _ [] h6 _ _
    try dsimp only
    refine me_aload_n (pc' := 10) (i := 0) dX10_takeStock_9 rfl rfl rfl ?_
    refine me_getR (pc' := 13) (q' := 90) dX10_takeStock_10 rfl fkX10_58 kd_0 (mm_ltq kd_0) rfl (mrX10_8 kd_0) ?_
    refine me_aload_n (pc' := 14) (i := 0) dX10_takeStock_13 rfl rfl rfl ?_
    refine me_getR (pc' := 17) (q' := 21) dX10_takeStock_14 rfl fkX10_45 kd_0 (mm_ltq kd_0) rfl (mrX10_5 kd_0) ?_
    refine me_callV (As := [.ref 21]) (st := []) (F' := (mm_Sq q)) (G' := (mm_Sq q)) (F'' := (mm_Sq q)) (pc' := 20) dX10_takeStock_17 rfl mfX2_remember rfl lkX10_305 kd_90 rfl (mm_ltq kd_90) ⟨Nat.le_of_ble_eq_true rfl, Nat.le_of_ble_eq_true rfl⟩ (Nat.le_of_ble_eq_true rfl) (fun z => z) (rX2_remember (q := q) 21 h6 kd_21) (fun h8 e9 => Or.inl ⟨_, _, rfl, fun z => z, ?_⟩)
    show mm_E2 _ _ _ _ _ [] h8 _ _
    refine me_aload_n (pc' := 21) (i := 0) dX10_takeStock_20 rfl rfl rfl ?_
    refine me_getR (pc' := 24) (q' := 21) dX10_takeStock_21 rfl fkX10_45 kd_0 (mm_ltq kd_0) rfl (mrX10_5 kd_0) ?_
    refine me_iload_n (pc' := 25) (i := 1) dX10_takeStock_24 rfl rfl rfl ?_
    refine me_iload_n (pc' := 26) (i := 2) dX10_takeStock_25 rfl rfl rfl ?_
    refine me_callV (As := [.int p0, .int p1]) (st := []) (F' := (mm_Sq q)) (G' := (mm_Sq q)) (F'' := (mm_Sq q)) (pc' := 29) dX10_takeStock_26 rfl mfX7_countBatch rfl lkX10_338 kd_21 rfl (mm_ltq kd_21) ⟨Nat.le_of_ble_eq_true rfl, Nat.le_of_ble_eq_true rfl⟩ (Nat.le_of_ble_eq_true rfl) (fun z => z) (rX7_countBatch (q := q) 21 p0 p1 h8 kd_21) (fun x10 e11 => Or.inl ⟨_, _, rfl, fun z => z, ?_⟩)
    show mm_E2 _ _ _ _ _ [.int x10.1] x10.2 _ _
    exact me_iret dX10_takeStock_29 rfl (fun z => z) rfl
  · exact Or.inr ⟨_, _, rfl, rfl, fun z => z, fun y9 hy9 => by rw [← Option.some.inj hy9]; rfl⟩
def gX10_writeOffExpired (h : mm_H) : Option (Int32 × mm_H) :=
(gX2_remember 21 h).bind (fun (h1 : mm_H) =>
(gX7_writeOffExpiredBatches 21 h1).bind (fun (x3 : (Int32 × mm_H)) =>
some (x3.1, x3.2)))
theorem rX10_writeOffExpired {q : Nat × Nat} (h : mm_H) : mm_R2 (mm_Sq q) (mm_Sq q) mX10_writeOffExpired [.ref 0] h (gX10_writeOffExpired h) lf_ie := by
  refine mm_body (L := [some (.ref 0)]) rfl (by decide +kernel) (Nat.le_of_ble_eq_true rfl) rfl ?_
  unfold gX10_writeOffExpired
  refine me_aload_n (pc' := 1) (i := 0) dX10_writeOffExpired_0 rfl rfl rfl ?_
  refine me_getR (pc' := 4) (q' := 90) dX10_writeOffExpired_1 rfl fkX10_58 kd_0 (mm_ltq kd_0) rfl (mrX10_8 kd_0) ?_
  refine me_aload_n (pc' := 5) (i := 0) dX10_writeOffExpired_4 rfl rfl rfl ?_
  refine me_getR (pc' := 8) (q' := 21) dX10_writeOffExpired_5 rfl fkX10_45 kd_0 (mm_ltq kd_0) rfl (mrX10_5 kd_0) ?_
  refine me_callV (As := [.ref 21]) (st := []) (F' := (mm_Sq q)) (G' := (mm_Sq q)) (F'' := (mm_Sq q)) (pc' := 11) dX10_writeOffExpired_8 rfl mfX2_remember rfl lkX10_305 kd_90 rfl (mm_ltq kd_90) ⟨Nat.le_of_ble_eq_true rfl, Nat.le_of_ble_eq_true rfl⟩ (Nat.le_of_ble_eq_true rfl) (fun z => z) (rX2_remember (q := q) 21 h kd_21) (fun h1 e2 => Or.inl ⟨_, _, rfl, fun z => z, ?_⟩)
  show mm_E2 _ _ _ _ _ [] h1 _ _
  refine me_aload_n (pc' := 12) (i := 0) dX10_writeOffExpired_11 rfl rfl rfl ?_
  refine me_getR (pc' := 15) (q' := 21) dX10_writeOffExpired_12 rfl fkX10_45 kd_0 (mm_ltq kd_0) rfl (mrX10_5 kd_0) ?_
  refine me_callV (As := []) (st := []) (F' := (mm_Sq q)) (G' := (mm_Sq q)) (F'' := (mm_Sq q)) (pc' := 18) dX10_writeOffExpired_15 rfl mfX7_writeOffExpiredBatches rfl lkX10_341 kd_21 rfl (mm_ltq kd_21) ⟨Nat.le_of_ble_eq_true rfl, Nat.le_of_ble_eq_true rfl⟩ (Nat.le_of_ble_eq_true rfl) (fun z => z) (rX7_writeOffExpiredBatches (q := q) 21 h1 kd_21) (fun x3 e4 => Or.inl ⟨_, _, rfl, fun z => z, ?_⟩)
  show mm_E2 _ _ _ _ _ [.int x3.1] x3.2 _ _
  exact me_iret dX10_writeOffExpired_18 rfl (fun z => z) rfl
def gX10_refusalOfDays (p0 : Int32) (h : mm_H) : Option Int32 :=
(gX10_isOutside p0 1 999 h).bind (fun (x1 : Bool) =>
if x1 = true then
some 2
else
if 9999 < ((mh_I h 21 0) + p0) then
some 3
else
some 0)
theorem rX10_refusalOfDays {q : Nat × Nat} (p0 : Int32) (h : mm_H) : mm_R2 (mm_Sq q) (mm_Sq q) mX10_refusalOfDays [.ref 0, .int p0] h (gX10_refusalOfDays p0 h) (lf_i h) := by
  refine mm_body (L := [some (.ref 0), some (.int p0)]) rfl (by decide +kernel) (Nat.le_of_ble_eq_true rfl) rfl ?_
  unfold gX10_refusalOfDays
  refine me_iload_n (pc' := 1) (i := 1) dX10_refusalOfDays_0 rfl rfl rfl ?_
  refine me_iconst (pc' := 2) (v := 1) dX10_refusalOfDays_1 rfl kc_i1 ?_
  refine me_sipush (pc' := 5) (v := 999) dX10_refusalOfDays_2 rfl kc_s999 ?_
  refine me_callS (As := [.int p0, .int 1, .int 999]) (st := []) (F' := (mm_Sq q)) (G' := (mm_Sq q)) (F'' := (mm_Sq q)) (pc' := 8) dX10_refusalOfDays_5 rfl mfX10_isOutside rfl lkX10_158 ⟨Nat.le_of_ble_eq_true rfl, Nat.le_of_ble_eq_true rfl⟩ (Nat.le_of_ble_eq_true rfl) (fun z => z) (rX10_isOutside (q := q) p0 1 999 h ) (fun x1 e2 => Or.inl ⟨_, _, rfl, fun z => z, ?_⟩)
  show mm_E2 _ _ _ _ _ [.int (mx_bi x1)] h _ _
  refine me_ifB_eq (pc' := 11) (tgt := 13) dX10_refusalOfDays_8 (by decide) rfl (fun c3 => ?_) (fun c3 => ?_)
  · refine me_aload_n (pc' := 14) (i := 0) dX10_refusalOfDays_13 rfl rfl rfl ?_
    refine me_getR (pc' := 17) (q' := 21) dX10_refusalOfDays_14 rfl fkX10_45 kd_0 (mm_ltq kd_0) rfl (mrX10_5 kd_0) ?_
    refine me_getI (pc' := 20) dX10_refusalOfDays_17 rfl fkX10_142 kd_21 (mm_ltq kd_21) rfl ?_
    refine me_iload_n (pc' := 21) (i := 1) dX10_refusalOfDays_20 rfl rfl rfl ?_
    refine me_iadd (pc' := 22) dX10_refusalOfDays_21 rfl ?_
    refine me_sipush (pc' := 25) (v := 9999) dX10_refusalOfDays_22 rfl kc_s9999 ?_
    refine me_icmp_gt (pc' := 28) (tgt := 32) dX10_refusalOfDays_25 (by decide) rfl (fun c4 => ?_) (fun c4 => ?_)
    · refine me_iconst (pc' := 33) (v := 3) dX10_refusalOfDays_32 rfl kc_i3 ?_
      exact me_iret dX10_refusalOfDays_33 rfl (fun z => z) rfl
    · refine me_iconst (pc' := 29) (v := 0) dX10_refusalOfDays_28 rfl kc_i0 ?_
      refine me_goto (tgt := 33) dX10_refusalOfDays_29 (by decide) ?_
      exact me_iret dX10_refusalOfDays_33 rfl (fun z => z) rfl
  · refine me_iconst (pc' := 12) (v := 2) dX10_refusalOfDays_11 rfl kc_i2 ?_
    exact me_iret dX10_refusalOfDays_12 rfl (fun z => z) rfl
def gX10_passDays (p0 : Int32) (h : mm_H) : Option ((Int32 ⊕ String) × mm_H) :=
(gX10_refusalOfDays p0 h).bind (fun (x1 : Int32) =>
(gX10_refuse x1 h).bind (fun (x3 : ((Unit ⊕ String) × mm_H)) => match x3 with
| (.inl _, h6) =>
(gX2_remember 21 h6).bind (fun (h8 : mm_H) =>
(gX7_advance 21 p0 h8).bind (fun (x10 : (Int32 × mm_H)) =>
some (.inl x10.1, x10.2)))
| (.inr E7, h6) => some (.inr E7, h6)))
theorem rX10_passDays {q : Nat × Nat} (p0 : Int32) (h : mm_H) : mm_R2 (mm_Sq q) (mm_Sq q) mX10_passDays [.ref 0, .int p0] h (gX10_passDays p0 h) lf_it := by
  refine mm_body (L := [some (.ref 0), some (.int p0)]) rfl (by decide +kernel) (Nat.le_of_ble_eq_true rfl) rfl ?_
  unfold gX10_passDays
  refine me_aload_n (pc' := 1) (i := 0) dX10_passDays_0 rfl rfl rfl ?_
  refine me_iload_n (pc' := 2) (i := 1) dX10_passDays_1 rfl rfl rfl ?_
  refine me_callV (As := [.int p0]) (st := []) (F' := (mm_Sq q)) (G' := (mm_Sq q)) (F'' := (mm_Sq q)) (pc' := 5) dX10_passDays_2 rfl mfX10_refusalOfDays rfl lkX10_345 kd_0 rfl (mm_ltq kd_0) ⟨Nat.le_of_ble_eq_true rfl, Nat.le_of_ble_eq_true rfl⟩ (Nat.le_of_ble_eq_true rfl) (fun z => z) (rX10_refusalOfDays (q := q) p0 h ) (fun x1 e2 => Or.inl ⟨_, _, rfl, fun z => z, ?_⟩)
  show mm_E2 _ _ _ _ _ [.int x1] h _ _
  refine me_callS (As := [.int x1]) (st := []) (F' := (mm_Sq q)) (G' := (mm_Sq q)) (F'' := (mm_Sq q)) (pc' := 8) dX10_passDays_5 rfl mfX10_refuse rfl lkX10_302 ⟨Nat.le_of_ble_eq_true rfl, Nat.le_of_ble_eq_true rfl⟩ (Nat.le_of_ble_eq_true rfl) (fun z => z) (rX10_refuse (q := q) x1 h ) (fun x3 e4 => ?_)
  rcases x3 with ⟨v5 | E7, h6⟩
  · refine Or.inl ⟨_, _, rfl, fun z => z, ?_⟩
    show mm_E2 _ _ _ _ _ [] h6 _ _
    try dsimp only
    refine me_aload_n (pc' := 9) (i := 0) dX10_passDays_8 rfl rfl rfl ?_
    refine me_getR (pc' := 12) (q' := 90) dX10_passDays_9 rfl fkX10_58 kd_0 (mm_ltq kd_0) rfl (mrX10_8 kd_0) ?_
    refine me_aload_n (pc' := 13) (i := 0) dX10_passDays_12 rfl rfl rfl ?_
    refine me_getR (pc' := 16) (q' := 21) dX10_passDays_13 rfl fkX10_45 kd_0 (mm_ltq kd_0) rfl (mrX10_5 kd_0) ?_
    refine me_callV (As := [.ref 21]) (st := []) (F' := (mm_Sq q)) (G' := (mm_Sq q)) (F'' := (mm_Sq q)) (pc' := 19) dX10_passDays_16 rfl mfX2_remember rfl lkX10_305 kd_90 rfl (mm_ltq kd_90) ⟨Nat.le_of_ble_eq_true rfl, Nat.le_of_ble_eq_true rfl⟩ (Nat.le_of_ble_eq_true rfl) (fun z => z) (rX2_remember (q := q) 21 h6 kd_21) (fun h8 e9 => Or.inl ⟨_, _, rfl, fun z => z, ?_⟩)
    show mm_E2 _ _ _ _ _ [] h8 _ _
    refine me_aload_n (pc' := 20) (i := 0) dX10_passDays_19 rfl rfl rfl ?_
    refine me_getR (pc' := 23) (q' := 21) dX10_passDays_20 rfl fkX10_45 kd_0 (mm_ltq kd_0) rfl (mrX10_5 kd_0) ?_
    refine me_iload_n (pc' := 24) (i := 1) dX10_passDays_23 rfl rfl rfl ?_
    refine me_callV (As := [.int p0]) (st := []) (F' := (mm_Sq q)) (G' := (mm_Sq q)) (F'' := (mm_Sq q)) (pc' := 27) dX10_passDays_24 rfl mfX7_advance rfl lkX10_348 kd_21 rfl (mm_ltq kd_21) ⟨Nat.le_of_ble_eq_true rfl, Nat.le_of_ble_eq_true rfl⟩ (Nat.le_of_ble_eq_true rfl) (fun z => z) (rX7_advance (q := q) 21 p0 h8 kd_21) (fun x10 e11 => Or.inl ⟨_, _, rfl, fun z => z, ?_⟩)
    show mm_E2 _ _ _ _ _ [.int x10.1] x10.2 _ _
    exact me_iret dX10_passDays_27 rfl (fun z => z) rfl
  · exact Or.inr ⟨_, _, rfl, rfl, fun z => z, fun y9 hy9 => by rw [← Option.some.inj hy9]; rfl⟩
def gX10_performCommand (p0 : Int32) (h : mm_H) : Option mm_H :=
(gX5_argument p0 0 h).bind (fun (x1 : Int32) =>
(gX5_argument p0 1 h).bind (fun (x3 : Int32) =>
(gX5_argument p0 2 h).bind (fun (x5 : Int32) =>
(gX4_get 10 p0 h).bind (fun (x7 : Int32) =>
if x7 = 0 then
(gX5_argument p0 3 h).bind (fun (x10 : Int32) =>
(gX7_addBatch 21 x1 x3 x5 x10 h).bind (fun (x12 : (Int32 × mm_H)) =>
some x12.2))
else
if x7 = 1 then
(gX7_issueUnits 21 x1 x3 h).bind (fun (x15 : (Int32 × mm_H)) =>
some x15.2)
else
if x7 = 2 then
(gX7_addReservation 21 x1 x3 x5 h).bind (fun (x18 : (Int32 × mm_H)) =>
some x18.2)
else
if x7 = 3 then
(gX7_shipReservation 21 x1 h).bind (fun (x21 : (Int32 × mm_H)) =>
some x21.2)
else
if x7 = 4 then
(gX7_cancelReservation 21 x1 h).bind (fun (x24 : (Int32 × mm_H)) =>
some x24.2)
else
if x7 = 5 then
(gX7_refillReservation 21 x1 h).bind (fun (x27 : (Int32 × mm_H)) =>
some x27.2)
else
if x7 = 6 then
(gX7_countBatch 21 x1 x3 h).bind (fun (x30 : (Int32 × mm_H)) =>
some x30.2)
else
if x7 = 7 then
(gX7_writeOffExpiredBatches 21 h).bind (fun (x33 : (Int32 × mm_H)) =>
some x33.2)
else
if x7 = 8 then
(gX7_advance 21 x1 h).bind (fun (x36 : (Int32 × mm_H)) =>
some x36.2)
else
(gX7_writeOffExpiredBatches 21 h).bind (fun (x38 : (Int32 × mm_H)) =>
some x38.2)))))
theorem rX10_performCommand {q : Nat × Nat} (p0 : Int32) (h : mm_H) : mm_R2 (mm_Sq q) (mm_Sq q) mX10_performCommand [.ref 0, .int p0] h (gX10_performCommand p0 h) lf_v := by
  refine mm_body (L := [some (.ref 0), some (.int p0), none, none, none]) rfl (by decide +kernel) (Nat.le_of_ble_eq_true rfl) rfl ?_
  unfold gX10_performCommand
  refine me_aload_n (pc' := 1) (i := 0) dX10_performCommand_0 rfl rfl rfl ?_
  refine me_getR (pc' := 4) (q' := 9) dX10_performCommand_1 rfl fkX10_31 kd_0 (mm_ltq kd_0) rfl (mrX10_3 kd_0) ?_
  refine me_iload_n (pc' := 5) (i := 1) dX10_performCommand_4 rfl rfl rfl ?_
  refine me_iconst (pc' := 6) (v := 0) dX10_performCommand_5 rfl kc_i0 ?_
  refine me_callV (As := [.int p0, .int 0]) (st := []) (F' := (mm_Sq q)) (G' := (mm_Sq q)) (F'' := (mm_Sq q)) (pc' := 9) dX10_performCommand_6 rfl mfX5_argument rfl lkX10_448 kd_9 rfl (mm_ltq kd_9) ⟨Nat.le_of_ble_eq_true rfl, Nat.le_of_ble_eq_true rfl⟩ (Nat.le_of_ble_eq_true rfl) (fun z => z) (rX5_argument (q := q) p0 0 h ) (fun x1 e2 => Or.inl ⟨_, _, rfl, fun z => z, ?_⟩)
  show mm_E2 _ _ _ _ _ [.int x1] h _ _
  refine me_istore_n (pc' := 10) (i := 2) (L' := [some (.ref 0), some (.int p0), some (.int x1), none, none]) dX10_performCommand_9 rfl rfl (Nat.le_of_ble_eq_true rfl) (Nat.le_of_ble_eq_true rfl) rfl ?_
  refine me_aload_n (pc' := 11) (i := 0) dX10_performCommand_10 rfl rfl rfl ?_
  refine me_getR (pc' := 14) (q' := 9) dX10_performCommand_11 rfl fkX10_31 kd_0 (mm_ltq kd_0) rfl (mrX10_3 kd_0) ?_
  refine me_iload_n (pc' := 15) (i := 1) dX10_performCommand_14 rfl rfl rfl ?_
  refine me_iconst (pc' := 16) (v := 1) dX10_performCommand_15 rfl kc_i1 ?_
  refine me_callV (As := [.int p0, .int 1]) (st := []) (F' := (mm_Sq q)) (G' := (mm_Sq q)) (F'' := (mm_Sq q)) (pc' := 19) dX10_performCommand_16 rfl mfX5_argument rfl lkX10_448 kd_9 rfl (mm_ltq kd_9) ⟨Nat.le_of_ble_eq_true rfl, Nat.le_of_ble_eq_true rfl⟩ (Nat.le_of_ble_eq_true rfl) (fun z => z) (rX5_argument (q := q) p0 1 h ) (fun x3 e4 => Or.inl ⟨_, _, rfl, fun z => z, ?_⟩)
  show mm_E2 _ _ _ _ _ [.int x3] h _ _
  refine me_istore_n (pc' := 20) (i := 3) (L' := [some (.ref 0), some (.int p0), some (.int x1), some (.int x3), none]) dX10_performCommand_19 rfl rfl (Nat.le_of_ble_eq_true rfl) (Nat.le_of_ble_eq_true rfl) rfl ?_
  refine me_aload_n (pc' := 21) (i := 0) dX10_performCommand_20 rfl rfl rfl ?_
  refine me_getR (pc' := 24) (q' := 9) dX10_performCommand_21 rfl fkX10_31 kd_0 (mm_ltq kd_0) rfl (mrX10_3 kd_0) ?_
  refine me_iload_n (pc' := 25) (i := 1) dX10_performCommand_24 rfl rfl rfl ?_
  refine me_iconst (pc' := 26) (v := 2) dX10_performCommand_25 rfl kc_i2 ?_
  refine me_callV (As := [.int p0, .int 2]) (st := []) (F' := (mm_Sq q)) (G' := (mm_Sq q)) (F'' := (mm_Sq q)) (pc' := 29) dX10_performCommand_26 rfl mfX5_argument rfl lkX10_448 kd_9 rfl (mm_ltq kd_9) ⟨Nat.le_of_ble_eq_true rfl, Nat.le_of_ble_eq_true rfl⟩ (Nat.le_of_ble_eq_true rfl) (fun z => z) (rX5_argument (q := q) p0 2 h ) (fun x5 e6 => Or.inl ⟨_, _, rfl, fun z => z, ?_⟩)
  show mm_E2 _ _ _ _ _ [.int x5] h _ _
  refine me_istore (pc' := 31) (i := 4) (L' := [some (.ref 0), some (.int p0), some (.int x1), some (.int x3), some (.int x5)]) dX10_performCommand_29 rfl (Nat.le_of_ble_eq_true rfl) (Nat.le_of_ble_eq_true rfl) rfl ?_
  refine me_aload_n (pc' := 32) (i := 0) dX10_performCommand_31 rfl rfl rfl ?_
  refine me_getR (pc' := 35) (q' := 9) dX10_performCommand_32 rfl fkX10_31 kd_0 (mm_ltq kd_0) rfl (mrX10_3 kd_0) ?_
  refine me_getR (pc' := 38) (q' := 10) dX10_performCommand_35 rfl fkX10_451 kd_9 (mm_ltq kd_9) rfl (mrX5_2 kd_9) ?_
  refine me_iload_n (pc' := 39) (i := 1) dX10_performCommand_38 rfl rfl rfl ?_
  refine me_callV (As := [.int p0]) (st := []) (F' := (mm_Sq q)) (G' := (mm_Sq q)) (F'' := (mm_Sq q)) (pc' := 42) dX10_performCommand_39 rfl mfX4_get rfl lkX10_152 kd_10 rfl (mm_ltq kd_10) ⟨Nat.le_of_ble_eq_true rfl, Nat.le_of_ble_eq_true rfl⟩ (Nat.le_of_ble_eq_true rfl) (fun z => z) (rX4_get (q := q) 10 p0 h kd_10) (fun x7 e8 => Or.inl ⟨_, _, rfl, fun z => z, ?_⟩)
  show mm_E2 _ _ _ _ _ [.int x7] h _ _
  refine mm_if (fun c9 => ?_) (fun c9 => ?_)
  · refine me_tsw c9 dX10_performCommand_42 (by decide) (by decide) (tgt := 92) (off := 50) (by decide) (by decide) ?_
    refine me_aload_n (pc' := 93) (i := 0) dX10_performCommand_92 rfl rfl rfl ?_
    refine me_getR (pc' := 96) (q' := 21) dX10_performCommand_93 rfl fkX10_45 kd_0 (mm_ltq kd_0) rfl (mrX10_5 kd_0) ?_
    refine me_iload_n (pc' := 97) (i := 2) dX10_performCommand_96 rfl rfl rfl ?_
    refine me_iload_n (pc' := 98) (i := 3) dX10_performCommand_97 rfl rfl rfl ?_
    refine me_iload (pc' := 100) (i := 4) dX10_performCommand_98 rfl rfl ?_
    refine me_aload_n (pc' := 101) (i := 0) dX10_performCommand_100 rfl rfl rfl ?_
    refine me_getR (pc' := 104) (q' := 9) dX10_performCommand_101 rfl fkX10_31 kd_0 (mm_ltq kd_0) rfl (mrX10_3 kd_0) ?_
    refine me_iload_n (pc' := 105) (i := 1) dX10_performCommand_104 rfl rfl rfl ?_
    refine me_iconst (pc' := 106) (v := 3) dX10_performCommand_105 rfl kc_i3 ?_
    refine me_callV (As := [.int p0, .int 3]) (st := [.int x5, .int x3, .int x1, .ref 21]) (F' := (mm_Sq q)) (G' := (mm_Sq q)) (F'' := (mm_Sq q)) (pc' := 109) dX10_performCommand_106 rfl mfX5_argument rfl lkX10_448 kd_9 rfl (mm_ltq kd_9) ⟨Nat.le_of_ble_eq_true rfl, Nat.le_of_ble_eq_true rfl⟩ (Nat.le_of_ble_eq_true rfl) (fun z => z) (rX5_argument (q := q) p0 3 h ) (fun x10 e11 => Or.inl ⟨_, _, rfl, fun z => z, ?_⟩)
    show mm_E2 _ _ _ _ _ [.int x10, .int x5, .int x3, .int x1, .ref 21] h _ _
    refine me_callV (As := [.int x1, .int x3, .int x5, .int x10]) (st := []) (F' := (mm_Sq q)) (G' := (mm_Sq q)) (F'' := (mm_Sq q)) (pc' := 112) dX10_performCommand_109 rfl mfX7_addBatch rfl lkX10_86 kd_21 rfl (mm_ltq kd_21) ⟨Nat.le_of_ble_eq_true rfl, Nat.le_of_ble_eq_true rfl⟩ (Nat.le_of_ble_eq_true rfl) (fun z => z) (rX7_addBatch (q := q) 21 x1 x3 x5 x10 h kd_21) (fun x12 e13 => Or.inl ⟨_, _, rfl, fun z => z, ?_⟩)
    show mm_E2 _ _ _ _ _ [.int x12.1] x12.2 _ _
    refine me_pop (pc' := 113) dX10_performCommand_112 rfl rfl ?_
    refine me_goto (tgt := 225) dX10_performCommand_113 (by decide) ?_
    exact me_vret dX10_performCommand_225 rfl (fun z => z) rfl
  refine mm_if (fun c14 => ?_) (fun c14 => ?_)
  · refine me_tsw c14 dX10_performCommand_42 (by decide) (by decide) (tgt := 116) (off := 74) (by decide) (by decide) ?_
    refine me_aload_n (pc' := 117) (i := 0) dX10_performCommand_116 rfl rfl rfl ?_
    refine me_getR (pc' := 120) (q' := 21) dX10_performCommand_117 rfl fkX10_45 kd_0 (mm_ltq kd_0) rfl (mrX10_5 kd_0) ?_
    refine me_aload_n (pc' := 121) (i := 0) dX10_performCommand_120 rfl rfl rfl ?_
    refine me_getR (pc' := 124) (q' := 347) dX10_performCommand_121 rfl fkX10_72 kd_0 (mm_ltq kd_0) rfl (mrX10_10 kd_0) ?_
    refine me_iload_n (pc' := 125) (i := 2) dX10_performCommand_124 rfl rfl rfl ?_
    refine me_iload_n (pc' := 126) (i := 3) dX10_performCommand_125 rfl rfl rfl ?_
    refine me_callV (As := [.ref 347, .int x1, .int x3]) (st := []) (F' := (mm_Sq q)) (G' := (mm_Sq q)) (F'' := (mm_Sq q)) (pc' := 129) dX10_performCommand_126 rfl mfX7_issueUnits rfl lkX10_311 kd_21 rfl (mm_ltq kd_21) ⟨Nat.le_of_ble_eq_true rfl, Nat.le_of_ble_eq_true rfl⟩ (Nat.le_of_ble_eq_true rfl) (fun z => z) (rX7_issueUnits (q := q) 21 x1 x3 h kd_21) (fun x15 e16 => Or.inl ⟨_, _, rfl, fun z => z, ?_⟩)
    show mm_E2 _ _ _ _ _ [.int x15.1] x15.2 _ _
    refine me_pop (pc' := 130) dX10_performCommand_129 rfl rfl ?_
    refine me_goto (tgt := 225) dX10_performCommand_130 (by decide) ?_
    exact me_vret dX10_performCommand_225 rfl (fun z => z) rfl
  refine mm_if (fun c17 => ?_) (fun c17 => ?_)
  · refine me_tsw c17 dX10_performCommand_42 (by decide) (by decide) (tgt := 133) (off := 91) (by decide) (by decide) ?_
    refine me_aload_n (pc' := 134) (i := 0) dX10_performCommand_133 rfl rfl rfl ?_
    refine me_getR (pc' := 137) (q' := 21) dX10_performCommand_134 rfl fkX10_45 kd_0 (mm_ltq kd_0) rfl (mrX10_5 kd_0) ?_
    refine me_aload_n (pc' := 138) (i := 0) dX10_performCommand_137 rfl rfl rfl ?_
    refine me_getR (pc' := 141) (q' := 347) dX10_performCommand_138 rfl fkX10_72 kd_0 (mm_ltq kd_0) rfl (mrX10_10 kd_0) ?_
    refine me_iload_n (pc' := 142) (i := 2) dX10_performCommand_141 rfl rfl rfl ?_
    refine me_iload_n (pc' := 143) (i := 3) dX10_performCommand_142 rfl rfl rfl ?_
    refine me_iload (pc' := 145) (i := 4) dX10_performCommand_143 rfl rfl ?_
    refine me_callV (As := [.ref 347, .int x1, .int x3, .int x5]) (st := []) (F' := (mm_Sq q)) (G' := (mm_Sq q)) (F'' := (mm_Sq q)) (pc' := 148) dX10_performCommand_145 rfl mfX7_addReservation rfl lkX10_317 kd_21 rfl (mm_ltq kd_21) ⟨Nat.le_of_ble_eq_true rfl, Nat.le_of_ble_eq_true rfl⟩ (Nat.le_of_ble_eq_true rfl) (fun z => z) (rX7_addReservation (q := q) 21 x1 x3 x5 h kd_21) (fun x18 e19 => Or.inl ⟨_, _, rfl, fun z => z, ?_⟩)
    show mm_E2 _ _ _ _ _ [.int x18.1] x18.2 _ _
    refine me_pop (pc' := 149) dX10_performCommand_148 rfl rfl ?_
    refine me_goto (tgt := 225) dX10_performCommand_149 (by decide) ?_
    exact me_vret dX10_performCommand_225 rfl (fun z => z) rfl
  refine mm_if (fun c20 => ?_) (fun c20 => ?_)
  · refine me_tsw c20 dX10_performCommand_42 (by decide) (by decide) (tgt := 152) (off := 110) (by decide) (by decide) ?_
    refine me_aload_n (pc' := 153) (i := 0) dX10_performCommand_152 rfl rfl rfl ?_
    refine me_getR (pc' := 156) (q' := 21) dX10_performCommand_153 rfl fkX10_45 kd_0 (mm_ltq kd_0) rfl (mrX10_5 kd_0) ?_
    refine me_iload_n (pc' := 157) (i := 2) dX10_performCommand_156 rfl rfl rfl ?_
    refine me_callV (As := [.int x1]) (st := []) (F' := (mm_Sq q)) (G' := (mm_Sq q)) (F'' := (mm_Sq q)) (pc' := 160) dX10_performCommand_157 rfl mfX7_shipReservation rfl lkX10_323 kd_21 rfl (mm_ltq kd_21) ⟨Nat.le_of_ble_eq_true rfl, Nat.le_of_ble_eq_true rfl⟩ (Nat.le_of_ble_eq_true rfl) (fun z => z) (rX7_shipReservation (q := q) 21 x1 h kd_21) (fun x21 e22 => Or.inl ⟨_, _, rfl, fun z => z, ?_⟩)
    show mm_E2 _ _ _ _ _ [.int x21.1] x21.2 _ _
    refine me_pop (pc' := 161) dX10_performCommand_160 rfl rfl ?_
    refine me_goto (tgt := 225) dX10_performCommand_161 (by decide) ?_
    exact me_vret dX10_performCommand_225 rfl (fun z => z) rfl
  refine mm_if (fun c23 => ?_) (fun c23 => ?_)
  · refine me_tsw c23 dX10_performCommand_42 (by decide) (by decide) (tgt := 164) (off := 122) (by decide) (by decide) ?_
    refine me_aload_n (pc' := 165) (i := 0) dX10_performCommand_164 rfl rfl rfl ?_
    refine me_getR (pc' := 168) (q' := 21) dX10_performCommand_165 rfl fkX10_45 kd_0 (mm_ltq kd_0) rfl (mrX10_5 kd_0) ?_
    refine me_iload_n (pc' := 169) (i := 2) dX10_performCommand_168 rfl rfl rfl ?_
    refine me_callV (As := [.int x1]) (st := []) (F' := (mm_Sq q)) (G' := (mm_Sq q)) (F'' := (mm_Sq q)) (pc' := 172) dX10_performCommand_169 rfl mfX7_cancelReservation rfl lkX10_329 kd_21 rfl (mm_ltq kd_21) ⟨Nat.le_of_ble_eq_true rfl, Nat.le_of_ble_eq_true rfl⟩ (Nat.le_of_ble_eq_true rfl) (fun z => z) (rX7_cancelReservation (q := q) 21 x1 h kd_21) (fun x24 e25 => Or.inl ⟨_, _, rfl, fun z => z, ?_⟩)
    show mm_E2 _ _ _ _ _ [.int x24.1] x24.2 _ _
    refine me_pop (pc' := 173) dX10_performCommand_172 rfl rfl ?_
    refine me_goto (tgt := 225) dX10_performCommand_173 (by decide) ?_
    exact me_vret dX10_performCommand_225 rfl (fun z => z) rfl
  refine mm_if (fun c26 => ?_) (fun c26 => ?_)
  · refine me_tsw c26 dX10_performCommand_42 (by decide) (by decide) (tgt := 176) (off := 134) (by decide) (by decide) ?_
    refine me_aload_n (pc' := 177) (i := 0) dX10_performCommand_176 rfl rfl rfl ?_
    refine me_getR (pc' := 180) (q' := 21) dX10_performCommand_177 rfl fkX10_45 kd_0 (mm_ltq kd_0) rfl (mrX10_5 kd_0) ?_
    refine me_aload_n (pc' := 181) (i := 0) dX10_performCommand_180 rfl rfl rfl ?_
    refine me_getR (pc' := 184) (q' := 347) dX10_performCommand_181 rfl fkX10_72 kd_0 (mm_ltq kd_0) rfl (mrX10_10 kd_0) ?_
    refine me_iload_n (pc' := 185) (i := 2) dX10_performCommand_184 rfl rfl rfl ?_
    refine me_callV (As := [.ref 347, .int x1]) (st := []) (F' := (mm_Sq q)) (G' := (mm_Sq q)) (F'' := (mm_Sq q)) (pc' := 188) dX10_performCommand_185 rfl mfX7_refillReservation rfl lkX10_332 kd_21 rfl (mm_ltq kd_21) ⟨Nat.le_of_ble_eq_true rfl, Nat.le_of_ble_eq_true rfl⟩ (Nat.le_of_ble_eq_true rfl) (fun z => z) (rX7_refillReservation (q := q) 21 x1 h kd_21) (fun x27 e28 => Or.inl ⟨_, _, rfl, fun z => z, ?_⟩)
    show mm_E2 _ _ _ _ _ [.int x27.1] x27.2 _ _
    refine me_pop (pc' := 189) dX10_performCommand_188 rfl rfl ?_
    refine me_goto (tgt := 225) dX10_performCommand_189 (by decide) ?_
    exact me_vret dX10_performCommand_225 rfl (fun z => z) rfl
  refine mm_if (fun c29 => ?_) (fun c29 => ?_)
  · refine me_tsw c29 dX10_performCommand_42 (by decide) (by decide) (tgt := 192) (off := 150) (by decide) (by decide) ?_
    refine me_aload_n (pc' := 193) (i := 0) dX10_performCommand_192 rfl rfl rfl ?_
    refine me_getR (pc' := 196) (q' := 21) dX10_performCommand_193 rfl fkX10_45 kd_0 (mm_ltq kd_0) rfl (mrX10_5 kd_0) ?_
    refine me_iload_n (pc' := 197) (i := 2) dX10_performCommand_196 rfl rfl rfl ?_
    refine me_iload_n (pc' := 198) (i := 3) dX10_performCommand_197 rfl rfl rfl ?_
    refine me_callV (As := [.int x1, .int x3]) (st := []) (F' := (mm_Sq q)) (G' := (mm_Sq q)) (F'' := (mm_Sq q)) (pc' := 201) dX10_performCommand_198 rfl mfX7_countBatch rfl lkX10_338 kd_21 rfl (mm_ltq kd_21) ⟨Nat.le_of_ble_eq_true rfl, Nat.le_of_ble_eq_true rfl⟩ (Nat.le_of_ble_eq_true rfl) (fun z => z) (rX7_countBatch (q := q) 21 x1 x3 h kd_21) (fun x30 e31 => Or.inl ⟨_, _, rfl, fun z => z, ?_⟩)
    show mm_E2 _ _ _ _ _ [.int x30.1] x30.2 _ _
    refine me_pop (pc' := 202) dX10_performCommand_201 rfl rfl ?_
    refine me_goto (tgt := 225) dX10_performCommand_202 (by decide) ?_
    exact me_vret dX10_performCommand_225 rfl (fun z => z) rfl
  refine mm_if (fun c32 => ?_) (fun c32 => ?_)
  · refine me_tsw c32 dX10_performCommand_42 (by decide) (by decide) (tgt := 217) (off := 175) (by decide) (by decide) ?_
    refine me_aload_n (pc' := 218) (i := 0) dX10_performCommand_217 rfl rfl rfl ?_
    refine me_getR (pc' := 221) (q' := 21) dX10_performCommand_218 rfl fkX10_45 kd_0 (mm_ltq kd_0) rfl (mrX10_5 kd_0) ?_
    refine me_callV (As := []) (st := []) (F' := (mm_Sq q)) (G' := (mm_Sq q)) (F'' := (mm_Sq q)) (pc' := 224) dX10_performCommand_221 rfl mfX7_writeOffExpiredBatches rfl lkX10_341 kd_21 rfl (mm_ltq kd_21) ⟨Nat.le_of_ble_eq_true rfl, Nat.le_of_ble_eq_true rfl⟩ (Nat.le_of_ble_eq_true rfl) (fun z => z) (rX7_writeOffExpiredBatches (q := q) 21 h kd_21) (fun x33 e34 => Or.inl ⟨_, _, rfl, fun z => z, ?_⟩)
    show mm_E2 _ _ _ _ _ [.int x33.1] x33.2 _ _
    refine me_pop (pc' := 225) dX10_performCommand_224 rfl rfl ?_
    exact me_vret dX10_performCommand_225 rfl (fun z => z) rfl
  refine mm_if (fun c35 => ?_) (fun c35 => ?_)
  · refine me_tsw c35 dX10_performCommand_42 (by decide) (by decide) (tgt := 205) (off := 163) (by decide) (by decide) ?_
    refine me_aload_n (pc' := 206) (i := 0) dX10_performCommand_205 rfl rfl rfl ?_
    refine me_getR (pc' := 209) (q' := 21) dX10_performCommand_206 rfl fkX10_45 kd_0 (mm_ltq kd_0) rfl (mrX10_5 kd_0) ?_
    refine me_iload_n (pc' := 210) (i := 2) dX10_performCommand_209 rfl rfl rfl ?_
    refine me_callV (As := [.int x1]) (st := []) (F' := (mm_Sq q)) (G' := (mm_Sq q)) (F'' := (mm_Sq q)) (pc' := 213) dX10_performCommand_210 rfl mfX7_advance rfl lkX10_348 kd_21 rfl (mm_ltq kd_21) ⟨Nat.le_of_ble_eq_true rfl, Nat.le_of_ble_eq_true rfl⟩ (Nat.le_of_ble_eq_true rfl) (fun z => z) (rX7_advance (q := q) 21 x1 h kd_21) (fun x36 e37 => Or.inl ⟨_, _, rfl, fun z => z, ?_⟩)
    show mm_E2 _ _ _ _ _ [.int x36.1] x36.2 _ _
    refine me_pop (pc' := 214) dX10_performCommand_213 rfl rfl ?_
    refine me_goto (tgt := 225) dX10_performCommand_214 (by decide) ?_
    exact me_vret dX10_performCommand_225 rfl (fun z => z) rfl
  refine me_tableOut (tgt := 217) dX10_performCommand_42 (mm_out8 c9 c14 c17 c20 c23 c26 c29 c32 c35) (by decide) ?_
  refine me_aload_n (pc' := 218) (i := 0) dX10_performCommand_217 rfl rfl rfl ?_
  refine me_getR (pc' := 221) (q' := 21) dX10_performCommand_218 rfl fkX10_45 kd_0 (mm_ltq kd_0) rfl (mrX10_5 kd_0) ?_
  refine me_callV (As := []) (st := []) (F' := (mm_Sq q)) (G' := (mm_Sq q)) (F'' := (mm_Sq q)) (pc' := 224) dX10_performCommand_221 rfl mfX7_writeOffExpiredBatches rfl lkX10_341 kd_21 rfl (mm_ltq kd_21) ⟨Nat.le_of_ble_eq_true rfl, Nat.le_of_ble_eq_true rfl⟩ (Nat.le_of_ble_eq_true rfl) (fun z => z) (rX7_writeOffExpiredBatches (q := q) 21 h kd_21) (fun x38 e39 => Or.inl ⟨_, _, rfl, fun z => z, ?_⟩)
  show mm_E2 _ _ _ _ _ [.int x38.1] x38.2 _ _
  refine me_pop (pc' := 225) dX10_performCommand_224 rfl rfl ?_
  exact me_vret dX10_performCommand_225 rfl (fun z => z) rfl
def gX10_refusalOfCommand (p0 : Int32) (h : mm_H) : Option Int32 :=
(gX5_argument p0 0 h).bind (fun (x1 : Int32) =>
(gX5_argument p0 1 h).bind (fun (x3 : Int32) =>
(gX5_argument p0 2 h).bind (fun (x5 : Int32) =>
(gX4_get 10 p0 h).bind (fun (x7 : Int32) =>
if x7 = 0 then
(gX5_argument p0 3 h).bind (fun (x10 : Int32) =>
(gX10_refusalOfReceive x1 x3 x5 x10 h).bind (fun (x12 : Int32) =>
some x12))
else
if x7 = 1 then
(gX10_refusalOfIssue x1 x3 h).bind (fun (x15 : Int32) =>
some x15)
else
if x7 = 2 then
(gX10_refusalOfReserve x1 x3 x5 h).bind (fun (x18 : Int32) =>
some x18)
else
if x7 = 3 then
(gX10_refusalOfShip x1 h).bind (fun (x21 : Int32) =>
some x21)
else
if x7 = 4 then
(gX10_refusalOfOpenOnly x1 h).bind (fun (x24 : Int32) =>
some x24)
else
if x7 = 5 then
(gX10_refusalOfOpenOnly x1 h).bind (fun (x27 : Int32) =>
some x27)
else
if x7 = 6 then
(gX10_refusalOfCount x1 x3 h).bind (fun (x30 : Int32) =>
some x30)
else
if x7 = 7 then
some 0
else
if x7 = 8 then
(gX10_refusalOfDays x1 h).bind (fun (x34 : Int32) =>
some x34)
else
some 0))))
theorem rX10_refusalOfCommand {q : Nat × Nat} (p0 : Int32) (h : mm_H) : mm_R2 (mm_Sq q) (mm_Sq q) mX10_refusalOfCommand [.ref 0, .int p0] h (gX10_refusalOfCommand p0 h) (lf_i h) := by
  refine mm_body (L := [some (.ref 0), some (.int p0), none, none, none]) rfl (by decide +kernel) (Nat.le_of_ble_eq_true rfl) rfl ?_
  unfold gX10_refusalOfCommand
  refine me_aload_n (pc' := 1) (i := 0) dX10_refusalOfCommand_0 rfl rfl rfl ?_
  refine me_getR (pc' := 4) (q' := 9) dX10_refusalOfCommand_1 rfl fkX10_31 kd_0 (mm_ltq kd_0) rfl (mrX10_3 kd_0) ?_
  refine me_iload_n (pc' := 5) (i := 1) dX10_refusalOfCommand_4 rfl rfl rfl ?_
  refine me_iconst (pc' := 6) (v := 0) dX10_refusalOfCommand_5 rfl kc_i0 ?_
  refine me_callV (As := [.int p0, .int 0]) (st := []) (F' := (mm_Sq q)) (G' := (mm_Sq q)) (F'' := (mm_Sq q)) (pc' := 9) dX10_refusalOfCommand_6 rfl mfX5_argument rfl lkX10_448 kd_9 rfl (mm_ltq kd_9) ⟨Nat.le_of_ble_eq_true rfl, Nat.le_of_ble_eq_true rfl⟩ (Nat.le_of_ble_eq_true rfl) (fun z => z) (rX5_argument (q := q) p0 0 h ) (fun x1 e2 => Or.inl ⟨_, _, rfl, fun z => z, ?_⟩)
  show mm_E2 _ _ _ _ _ [.int x1] h _ _
  refine me_istore_n (pc' := 10) (i := 2) (L' := [some (.ref 0), some (.int p0), some (.int x1), none, none]) dX10_refusalOfCommand_9 rfl rfl (Nat.le_of_ble_eq_true rfl) (Nat.le_of_ble_eq_true rfl) rfl ?_
  refine me_aload_n (pc' := 11) (i := 0) dX10_refusalOfCommand_10 rfl rfl rfl ?_
  refine me_getR (pc' := 14) (q' := 9) dX10_refusalOfCommand_11 rfl fkX10_31 kd_0 (mm_ltq kd_0) rfl (mrX10_3 kd_0) ?_
  refine me_iload_n (pc' := 15) (i := 1) dX10_refusalOfCommand_14 rfl rfl rfl ?_
  refine me_iconst (pc' := 16) (v := 1) dX10_refusalOfCommand_15 rfl kc_i1 ?_
  refine me_callV (As := [.int p0, .int 1]) (st := []) (F' := (mm_Sq q)) (G' := (mm_Sq q)) (F'' := (mm_Sq q)) (pc' := 19) dX10_refusalOfCommand_16 rfl mfX5_argument rfl lkX10_448 kd_9 rfl (mm_ltq kd_9) ⟨Nat.le_of_ble_eq_true rfl, Nat.le_of_ble_eq_true rfl⟩ (Nat.le_of_ble_eq_true rfl) (fun z => z) (rX5_argument (q := q) p0 1 h ) (fun x3 e4 => Or.inl ⟨_, _, rfl, fun z => z, ?_⟩)
  show mm_E2 _ _ _ _ _ [.int x3] h _ _
  refine me_istore_n (pc' := 20) (i := 3) (L' := [some (.ref 0), some (.int p0), some (.int x1), some (.int x3), none]) dX10_refusalOfCommand_19 rfl rfl (Nat.le_of_ble_eq_true rfl) (Nat.le_of_ble_eq_true rfl) rfl ?_
  refine me_aload_n (pc' := 21) (i := 0) dX10_refusalOfCommand_20 rfl rfl rfl ?_
  refine me_getR (pc' := 24) (q' := 9) dX10_refusalOfCommand_21 rfl fkX10_31 kd_0 (mm_ltq kd_0) rfl (mrX10_3 kd_0) ?_
  refine me_iload_n (pc' := 25) (i := 1) dX10_refusalOfCommand_24 rfl rfl rfl ?_
  refine me_iconst (pc' := 26) (v := 2) dX10_refusalOfCommand_25 rfl kc_i2 ?_
  refine me_callV (As := [.int p0, .int 2]) (st := []) (F' := (mm_Sq q)) (G' := (mm_Sq q)) (F'' := (mm_Sq q)) (pc' := 29) dX10_refusalOfCommand_26 rfl mfX5_argument rfl lkX10_448 kd_9 rfl (mm_ltq kd_9) ⟨Nat.le_of_ble_eq_true rfl, Nat.le_of_ble_eq_true rfl⟩ (Nat.le_of_ble_eq_true rfl) (fun z => z) (rX5_argument (q := q) p0 2 h ) (fun x5 e6 => Or.inl ⟨_, _, rfl, fun z => z, ?_⟩)
  show mm_E2 _ _ _ _ _ [.int x5] h _ _
  refine me_istore (pc' := 31) (i := 4) (L' := [some (.ref 0), some (.int p0), some (.int x1), some (.int x3), some (.int x5)]) dX10_refusalOfCommand_29 rfl (Nat.le_of_ble_eq_true rfl) (Nat.le_of_ble_eq_true rfl) rfl ?_
  refine me_aload_n (pc' := 32) (i := 0) dX10_refusalOfCommand_31 rfl rfl rfl ?_
  refine me_getR (pc' := 35) (q' := 9) dX10_refusalOfCommand_32 rfl fkX10_31 kd_0 (mm_ltq kd_0) rfl (mrX10_3 kd_0) ?_
  refine me_getR (pc' := 38) (q' := 10) dX10_refusalOfCommand_35 rfl fkX10_451 kd_9 (mm_ltq kd_9) rfl (mrX5_2 kd_9) ?_
  refine me_iload_n (pc' := 39) (i := 1) dX10_refusalOfCommand_38 rfl rfl rfl ?_
  refine me_callV (As := [.int p0]) (st := []) (F' := (mm_Sq q)) (G' := (mm_Sq q)) (F'' := (mm_Sq q)) (pc' := 42) dX10_refusalOfCommand_39 rfl mfX4_get rfl lkX10_152 kd_10 rfl (mm_ltq kd_10) ⟨Nat.le_of_ble_eq_true rfl, Nat.le_of_ble_eq_true rfl⟩ (Nat.le_of_ble_eq_true rfl) (fun z => z) (rX4_get (q := q) 10 p0 h kd_10) (fun x7 e8 => Or.inl ⟨_, _, rfl, fun z => z, ?_⟩)
  show mm_E2 _ _ _ _ _ [.int x7] h _ _
  refine mm_if (fun c9 => ?_) (fun c9 => ?_)
  · refine me_tsw c9 dX10_refusalOfCommand_42 (by decide) (by decide) (tgt := 92) (off := 50) (by decide) (by decide) ?_
    refine me_aload_n (pc' := 93) (i := 0) dX10_refusalOfCommand_92 rfl rfl rfl ?_
    refine me_iload_n (pc' := 94) (i := 2) dX10_refusalOfCommand_93 rfl rfl rfl ?_
    refine me_iload_n (pc' := 95) (i := 3) dX10_refusalOfCommand_94 rfl rfl rfl ?_
    refine me_iload (pc' := 97) (i := 4) dX10_refusalOfCommand_95 rfl rfl ?_
    refine me_aload_n (pc' := 98) (i := 0) dX10_refusalOfCommand_97 rfl rfl rfl ?_
    refine me_getR (pc' := 101) (q' := 9) dX10_refusalOfCommand_98 rfl fkX10_31 kd_0 (mm_ltq kd_0) rfl (mrX10_3 kd_0) ?_
    refine me_iload_n (pc' := 102) (i := 1) dX10_refusalOfCommand_101 rfl rfl rfl ?_
    refine me_iconst (pc' := 103) (v := 3) dX10_refusalOfCommand_102 rfl kc_i3 ?_
    refine me_callV (As := [.int p0, .int 3]) (st := [.int x5, .int x3, .int x1, .ref 0]) (F' := (mm_Sq q)) (G' := (mm_Sq q)) (F'' := (mm_Sq q)) (pc' := 106) dX10_refusalOfCommand_103 rfl mfX5_argument rfl lkX10_448 kd_9 rfl (mm_ltq kd_9) ⟨Nat.le_of_ble_eq_true rfl, Nat.le_of_ble_eq_true rfl⟩ (Nat.le_of_ble_eq_true rfl) (fun z => z) (rX5_argument (q := q) p0 3 h ) (fun x10 e11 => Or.inl ⟨_, _, rfl, fun z => z, ?_⟩)
    show mm_E2 _ _ _ _ _ [.int x10, .int x5, .int x3, .int x1, .ref 0] h _ _
    refine me_callV (As := [.int x1, .int x3, .int x5, .int x10]) (st := []) (F' := (mm_Sq q)) (G' := (mm_Sq q)) (F'' := (mm_Sq q)) (pc' := 109) dX10_refusalOfCommand_106 rfl mfX10_refusalOfReceive rfl lkX10_299 kd_0 rfl (mm_ltq kd_0) ⟨Nat.le_of_ble_eq_true rfl, Nat.le_of_ble_eq_true rfl⟩ (Nat.le_of_ble_eq_true rfl) (fun z => z) (rX10_refusalOfReceive (q := q) x1 x3 x5 x10 h ) (fun x12 e13 => Or.inl ⟨_, _, rfl, fun z => z, ?_⟩)
    show mm_E2 _ _ _ _ _ [.int x12] h _ _
    exact me_iret dX10_refusalOfCommand_109 rfl (fun z => z) rfl
  refine mm_if (fun c14 => ?_) (fun c14 => ?_)
  · refine me_tsw c14 dX10_refusalOfCommand_42 (by decide) (by decide) (tgt := 110) (off := 68) (by decide) (by decide) ?_
    refine me_aload_n (pc' := 111) (i := 0) dX10_refusalOfCommand_110 rfl rfl rfl ?_
    refine me_iload_n (pc' := 112) (i := 2) dX10_refusalOfCommand_111 rfl rfl rfl ?_
    refine me_iload_n (pc' := 113) (i := 3) dX10_refusalOfCommand_112 rfl rfl rfl ?_
    refine me_callV (As := [.int x1, .int x3]) (st := []) (F' := (mm_Sq q)) (G' := (mm_Sq q)) (F'' := (mm_Sq q)) (pc' := 116) dX10_refusalOfCommand_113 rfl mfX10_refusalOfIssue rfl lkX10_308 kd_0 rfl (mm_ltq kd_0) ⟨Nat.le_of_ble_eq_true rfl, Nat.le_of_ble_eq_true rfl⟩ (Nat.le_of_ble_eq_true rfl) (fun z => z) (rX10_refusalOfIssue (q := q) x1 x3 h ) (fun x15 e16 => Or.inl ⟨_, _, rfl, fun z => z, ?_⟩)
    show mm_E2 _ _ _ _ _ [.int x15] h _ _
    exact me_iret dX10_refusalOfCommand_116 rfl (fun z => z) rfl
  refine mm_if (fun c17 => ?_) (fun c17 => ?_)
  · refine me_tsw c17 dX10_refusalOfCommand_42 (by decide) (by decide) (tgt := 117) (off := 75) (by decide) (by decide) ?_
    refine me_aload_n (pc' := 118) (i := 0) dX10_refusalOfCommand_117 rfl rfl rfl ?_
    refine me_iload_n (pc' := 119) (i := 2) dX10_refusalOfCommand_118 rfl rfl rfl ?_
    refine me_iload_n (pc' := 120) (i := 3) dX10_refusalOfCommand_119 rfl rfl rfl ?_
    refine me_iload (pc' := 122) (i := 4) dX10_refusalOfCommand_120 rfl rfl ?_
    refine me_callV (As := [.int x1, .int x3, .int x5]) (st := []) (F' := (mm_Sq q)) (G' := (mm_Sq q)) (F'' := (mm_Sq q)) (pc' := 125) dX10_refusalOfCommand_122 rfl mfX10_refusalOfReserve rfl lkX10_314 kd_0 rfl (mm_ltq kd_0) ⟨Nat.le_of_ble_eq_true rfl, Nat.le_of_ble_eq_true rfl⟩ (Nat.le_of_ble_eq_true rfl) (fun z => z) (rX10_refusalOfReserve (q := q) x1 x3 x5 h ) (fun x18 e19 => Or.inl ⟨_, _, rfl, fun z => z, ?_⟩)
    show mm_E2 _ _ _ _ _ [.int x18] h _ _
    exact me_iret dX10_refusalOfCommand_125 rfl (fun z => z) rfl
  refine mm_if (fun c20 => ?_) (fun c20 => ?_)
  · refine me_tsw c20 dX10_refusalOfCommand_42 (by decide) (by decide) (tgt := 126) (off := 84) (by decide) (by decide) ?_
    refine me_aload_n (pc' := 127) (i := 0) dX10_refusalOfCommand_126 rfl rfl rfl ?_
    refine me_iload_n (pc' := 128) (i := 2) dX10_refusalOfCommand_127 rfl rfl rfl ?_
    refine me_callV (As := [.int x1]) (st := []) (F' := (mm_Sq q)) (G' := (mm_Sq q)) (F'' := (mm_Sq q)) (pc' := 131) dX10_refusalOfCommand_128 rfl mfX10_refusalOfShip rfl lkX10_320 kd_0 rfl (mm_ltq kd_0) ⟨Nat.le_of_ble_eq_true rfl, Nat.le_of_ble_eq_true rfl⟩ (Nat.le_of_ble_eq_true rfl) (fun z => z) (rX10_refusalOfShip (q := q) x1 h ) (fun x21 e22 => Or.inl ⟨_, _, rfl, fun z => z, ?_⟩)
    show mm_E2 _ _ _ _ _ [.int x21] h _ _
    exact me_iret dX10_refusalOfCommand_131 rfl (fun z => z) rfl
  refine mm_if (fun c23 => ?_) (fun c23 => ?_)
  · refine me_tsw c23 dX10_refusalOfCommand_42 (by decide) (by decide) (tgt := 132) (off := 90) (by decide) (by decide) ?_
    refine me_aload_n (pc' := 133) (i := 0) dX10_refusalOfCommand_132 rfl rfl rfl ?_
    refine me_iload_n (pc' := 134) (i := 2) dX10_refusalOfCommand_133 rfl rfl rfl ?_
    refine me_callV (As := [.int x1]) (st := []) (F' := (mm_Sq q)) (G' := (mm_Sq q)) (F'' := (mm_Sq q)) (pc' := 137) dX10_refusalOfCommand_134 rfl mfX10_refusalOfOpenOnly rfl lkX10_326 kd_0 rfl (mm_ltq kd_0) ⟨Nat.le_of_ble_eq_true rfl, Nat.le_of_ble_eq_true rfl⟩ (Nat.le_of_ble_eq_true rfl) (fun z => z) (rX10_refusalOfOpenOnly (q := q) x1 h ) (fun x24 e25 => Or.inl ⟨_, _, rfl, fun z => z, ?_⟩)
    show mm_E2 _ _ _ _ _ [.int x24] h _ _
    exact me_iret dX10_refusalOfCommand_137 rfl (fun z => z) rfl
  refine mm_if (fun c26 => ?_) (fun c26 => ?_)
  · refine me_tsw c26 dX10_refusalOfCommand_42 (by decide) (by decide) (tgt := 138) (off := 96) (by decide) (by decide) ?_
    refine me_aload_n (pc' := 139) (i := 0) dX10_refusalOfCommand_138 rfl rfl rfl ?_
    refine me_iload_n (pc' := 140) (i := 2) dX10_refusalOfCommand_139 rfl rfl rfl ?_
    refine me_callV (As := [.int x1]) (st := []) (F' := (mm_Sq q)) (G' := (mm_Sq q)) (F'' := (mm_Sq q)) (pc' := 143) dX10_refusalOfCommand_140 rfl mfX10_refusalOfOpenOnly rfl lkX10_326 kd_0 rfl (mm_ltq kd_0) ⟨Nat.le_of_ble_eq_true rfl, Nat.le_of_ble_eq_true rfl⟩ (Nat.le_of_ble_eq_true rfl) (fun z => z) (rX10_refusalOfOpenOnly (q := q) x1 h ) (fun x27 e28 => Or.inl ⟨_, _, rfl, fun z => z, ?_⟩)
    show mm_E2 _ _ _ _ _ [.int x27] h _ _
    exact me_iret dX10_refusalOfCommand_143 rfl (fun z => z) rfl
  refine mm_if (fun c29 => ?_) (fun c29 => ?_)
  · refine me_tsw c29 dX10_refusalOfCommand_42 (by decide) (by decide) (tgt := 144) (off := 102) (by decide) (by decide) ?_
    refine me_aload_n (pc' := 145) (i := 0) dX10_refusalOfCommand_144 rfl rfl rfl ?_
    refine me_iload_n (pc' := 146) (i := 2) dX10_refusalOfCommand_145 rfl rfl rfl ?_
    refine me_iload_n (pc' := 147) (i := 3) dX10_refusalOfCommand_146 rfl rfl rfl ?_
    refine me_callV (As := [.int x1, .int x3]) (st := []) (F' := (mm_Sq q)) (G' := (mm_Sq q)) (F'' := (mm_Sq q)) (pc' := 150) dX10_refusalOfCommand_147 rfl mfX10_refusalOfCount rfl lkX10_335 kd_0 rfl (mm_ltq kd_0) ⟨Nat.le_of_ble_eq_true rfl, Nat.le_of_ble_eq_true rfl⟩ (Nat.le_of_ble_eq_true rfl) (fun z => z) (rX10_refusalOfCount (q := q) x1 x3 h ) (fun x30 e31 => Or.inl ⟨_, _, rfl, fun z => z, ?_⟩)
    show mm_E2 _ _ _ _ _ [.int x30] h _ _
    exact me_iret dX10_refusalOfCommand_150 rfl (fun z => z) rfl
  refine mm_if (fun c32 => ?_) (fun c32 => ?_)
  · refine me_tsw c32 dX10_refusalOfCommand_42 (by decide) (by decide) (tgt := 157) (off := 115) (by decide) (by decide) ?_
    refine me_iconst (pc' := 158) (v := 0) dX10_refusalOfCommand_157 rfl kc_i0 ?_
    exact me_iret dX10_refusalOfCommand_158 rfl (fun z => z) rfl
  refine mm_if (fun c33 => ?_) (fun c33 => ?_)
  · refine me_tsw c33 dX10_refusalOfCommand_42 (by decide) (by decide) (tgt := 151) (off := 109) (by decide) (by decide) ?_
    refine me_aload_n (pc' := 152) (i := 0) dX10_refusalOfCommand_151 rfl rfl rfl ?_
    refine me_iload_n (pc' := 153) (i := 2) dX10_refusalOfCommand_152 rfl rfl rfl ?_
    refine me_callV (As := [.int x1]) (st := []) (F' := (mm_Sq q)) (G' := (mm_Sq q)) (F'' := (mm_Sq q)) (pc' := 156) dX10_refusalOfCommand_153 rfl mfX10_refusalOfDays rfl lkX10_345 kd_0 rfl (mm_ltq kd_0) ⟨Nat.le_of_ble_eq_true rfl, Nat.le_of_ble_eq_true rfl⟩ (Nat.le_of_ble_eq_true rfl) (fun z => z) (rX10_refusalOfDays (q := q) x1 h ) (fun x34 e35 => Or.inl ⟨_, _, rfl, fun z => z, ?_⟩)
    show mm_E2 _ _ _ _ _ [.int x34] h _ _
    exact me_iret dX10_refusalOfCommand_156 rfl (fun z => z) rfl
  refine me_tableOut (tgt := 157) dX10_refusalOfCommand_42 (mm_out8 c9 c14 c17 c20 c23 c26 c29 c32 c33) (by decide) ?_
  refine me_iconst (pc' := 158) (v := 0) dX10_refusalOfCommand_157 rfl kc_i0 ?_
  exact me_iret dX10_refusalOfCommand_158 rfl (fun z => z) rfl
def gX10_wordOfCommand (p0 : Int32) (h : mm_H) : Option Nat :=
if p0 = 0 then
some 16
else
if p0 = 1 then
some 17
else
if p0 = 2 then
some 18
else
if p0 = 3 then
some 19
else
if p0 = 4 then
some 20
else
if p0 = 5 then
some 21
else
if p0 = 6 then
some 22
else
if p0 = 7 then
some 23
else
some 24
theorem rX10_wordOfCommand {q : Nat × Nat} (p0 : Int32) (h : mm_H) : mm_R2 (mm_Sq q) (mm_Sq q) mX10_wordOfCommand [.int p0] h (gX10_wordOfCommand p0 h) (lf_s h) := by
  refine mm_body (L := [some (.int p0)]) rfl (by decide +kernel) (Nat.le_of_ble_eq_true rfl) rfl ?_
  unfold gX10_wordOfCommand
  refine me_iload_n (pc' := 1) (i := 0) dX10_wordOfCommand_0 rfl rfl rfl ?_
  refine mm_if (fun c1 => ?_) (fun c1 => ?_)
  · refine me_tsw c1 dX10_wordOfCommand_1 (by decide) (by decide) (tgt := 48) (off := 47) (by decide) (by decide) ?_
    refine me_ldc_w (pc' := 51) (q := 377) dX10_wordOfCommand_48 rfl (sr_16) rfl ?_
    exact me_aret dX10_wordOfCommand_51 rfl (fun z => z) rfl
  refine mm_if (fun c2 => ?_) (fun c2 => ?_)
  · refine me_tsw c2 dX10_wordOfCommand_1 (by decide) (by decide) (tgt := 52) (off := 51) (by decide) (by decide) ?_
    refine me_ldc_w (pc' := 55) (q := 378) dX10_wordOfCommand_52 rfl (sr_17) rfl ?_
    exact me_aret dX10_wordOfCommand_55 rfl (fun z => z) rfl
  refine mm_if (fun c3 => ?_) (fun c3 => ?_)
  · refine me_tsw c3 dX10_wordOfCommand_1 (by decide) (by decide) (tgt := 56) (off := 55) (by decide) (by decide) ?_
    refine me_ldc_w (pc' := 59) (q := 379) dX10_wordOfCommand_56 rfl (sr_18) rfl ?_
    exact me_aret dX10_wordOfCommand_59 rfl (fun z => z) rfl
  refine mm_if (fun c4 => ?_) (fun c4 => ?_)
  · refine me_tsw c4 dX10_wordOfCommand_1 (by decide) (by decide) (tgt := 60) (off := 59) (by decide) (by decide) ?_
    refine me_ldc_w (pc' := 63) (q := 380) dX10_wordOfCommand_60 rfl (sr_19) rfl ?_
    exact me_aret dX10_wordOfCommand_63 rfl (fun z => z) rfl
  refine mm_if (fun c5 => ?_) (fun c5 => ?_)
  · refine me_tsw c5 dX10_wordOfCommand_1 (by decide) (by decide) (tgt := 64) (off := 63) (by decide) (by decide) ?_
    refine me_ldc_w (pc' := 67) (q := 381) dX10_wordOfCommand_64 rfl (sr_20) rfl ?_
    exact me_aret dX10_wordOfCommand_67 rfl (fun z => z) rfl
  refine mm_if (fun c6 => ?_) (fun c6 => ?_)
  · refine me_tsw c6 dX10_wordOfCommand_1 (by decide) (by decide) (tgt := 68) (off := 67) (by decide) (by decide) ?_
    refine me_ldc_w (pc' := 71) (q := 382) dX10_wordOfCommand_68 rfl (sr_21) rfl ?_
    exact me_aret dX10_wordOfCommand_71 rfl (fun z => z) rfl
  refine mm_if (fun c7 => ?_) (fun c7 => ?_)
  · refine me_tsw c7 dX10_wordOfCommand_1 (by decide) (by decide) (tgt := 72) (off := 71) (by decide) (by decide) ?_
    refine me_ldc_w (pc' := 75) (q := 383) dX10_wordOfCommand_72 rfl (sr_22) rfl ?_
    exact me_aret dX10_wordOfCommand_75 rfl (fun z => z) rfl
  refine mm_if (fun c8 => ?_) (fun c8 => ?_)
  · refine me_tsw c8 dX10_wordOfCommand_1 (by decide) (by decide) (tgt := 76) (off := 75) (by decide) (by decide) ?_
    refine me_ldc_w (pc' := 79) (q := 384) dX10_wordOfCommand_76 rfl (sr_23) rfl ?_
    exact me_aret dX10_wordOfCommand_79 rfl (fun z => z) rfl
  refine me_tableOut (tgt := 80) dX10_wordOfCommand_1 (mm_out7 c1 c2 c3 c4 c5 c6 c7 c8) (by decide) ?_
  refine me_ldc_w (pc' := 83) (q := 385) dX10_wordOfCommand_80 rfl (sr_24) rfl ?_
  exact me_aret dX10_wordOfCommand_83 rfl (fun z => z) rfl
def gX3_commandHere_L2 (h : mm_H) : Nat → Int32 → Option Int32
  | 0, _ => none
  | n + 1, w1 =>
    if w1 < 9 then
    (gX10_wordOfCommand w1 h).bind (fun (x3 : Nat) =>
    if x3 < 43 then
    (gX9_isWord x3 h).bind (fun (x6 : Bool) =>
    if x6 = true then
    some w1
    else
    (some (w1 + 1)).bind (fun (x9 : Int32) =>
    gX3_commandHere_L2 h n x9)) else none)
    else
    some (-1)
def gX3_commandHere (h : mm_H) : Option Int32 :=
gX3_commandHere_L2 h mm_F 0
theorem rX3_commandHere_L2 {q : Nat × Nat}    (h : mm_H) : ∀ (n : Nat) (w1 : Int32), mm_E2 (mm_Sq (q.1, 1)) (mm_Sq (q.1, 1)) mX3_commandHere 2 [some (.ref 5), some (.int w1)] [] h (gX3_commandHere_L2 h n w1) (lf_i h) := by
  intro n
  induction n with
  | zero =>
    intro w1
    exact mm_none
  | succ n ih =>
    intro w1
    rw [gX3_commandHere_L2]
    refine me_iload_n (pc' := 3) (i := 1) dX3_commandHere_2 rfl rfl rfl ?_
    refine me_bipush (pc' := 5) (v := 9) dX3_commandHere_3 rfl kc_b9 ?_
    refine me_icmp_ge (pc' := 8) (tgt := 30) dX3_commandHere_5 (by decide) rfl (fun c2 => ?_) (fun c2 => ?_)
    · refine me_iconst (pc' := 31) (v := (-1)) dX3_commandHere_30 rfl kc_im1 ?_
      exact me_iret dX3_commandHere_31 rfl (fun z => z) rfl
    · refine me_aload_n (pc' := 9) (i := 0) dX3_commandHere_8 rfl rfl rfl ?_
      refine me_getR (pc' := 12) (q' := 6) dX3_commandHere_9 rfl fkX3_12 kd_5 (mm_ltq kd_5) rfl (mrX3_0 kd_5) ?_
      refine me_iload_n (pc' := 13) (i := 1) dX3_commandHere_12 rfl rfl rfl ?_
      refine me_callS (As := [.int w1]) (st := [.ref 6]) (F' := (mm_Sq (q.1, 1))) (G' := (mm_Sq (q.1, 1))) (F'' := (mm_Sq (q.1, 1))) (pc' := 16) dX3_commandHere_13 rfl mfX10_wordOfCommand rfl lkX3_141 ⟨Nat.le_of_ble_eq_true rfl, Nat.le_of_ble_eq_true rfl⟩ (Nat.le_of_ble_eq_true rfl) (fun z => z) (rX10_wordOfCommand (q := (q.1, 1)) w1 h ) (fun x3 e4 => Or.inl ⟨_, _, rfl, fun z => z, ?_⟩)
      show mm_E2 _ _ _ _ _ [.ref (361 + x3), .ref 6] h _ _
      refine mm_guard (fun c5 => ?_)
      refine me_callV (As := [.ref (361 + x3)]) (st := []) (F' := (mm_Sq (q.1, 1))) (G' := (mm_Sq (q.1, 1))) (F'' := (mm_Sq (q.1, 1))) (pc' := 19) dX3_commandHere_16 rfl mfX9_isWord rfl lkX3_50 kd_6 rfl (mm_ltq kd_6) ⟨Nat.le_of_ble_eq_true rfl, Nat.le_of_ble_eq_true rfl⟩ (Nat.le_of_ble_eq_true rfl) (fun z => z) (rX9_isWord (q := q) x3 h c5) (fun x6 e7 => Or.inl ⟨_, _, rfl, fun z => z, ?_⟩)
      show mm_E2 _ _ _ _ _ [.int (mx_bi x6)] h _ _
      refine me_ifB_eq (pc' := 22) (tgt := 24) dX3_commandHere_19 (by decide) rfl (fun c8 => ?_) (fun c8 => ?_)
      · refine me_iinc (pc' := 27) (i := 1) (x := w1) (y := w1 + 1) (L' := [some (.ref 5), some (.int (w1 + 1))]) dX3_commandHere_24 rfl (Nat.le_of_ble_eq_true rfl) (Nat.le_of_ble_eq_true rfl) rfl (kc_plus kc_i1) rfl ?_
        refine mm_bnd (w1 + 1) (fun x9 => [some (.ref 5), some (.int x9)]) (fun _ => []) (fun _ => h) (fun x9 => ?_)
        refine me_goto (tgt := 2) dX3_commandHere_27 (by decide) ?_
        exact ih x9
      · refine me_iload_n (pc' := 23) (i := 1) dX3_commandHere_22 rfl rfl rfl ?_
        exact me_iret dX3_commandHere_23 rfl (fun z => z) rfl
theorem rX3_commandHere {q : Nat × Nat} (h : mm_H) : mm_R2 (mm_Sq (q.1, 1)) (mm_Sq (q.1, 1)) mX3_commandHere [.ref 5] h (gX3_commandHere h) (lf_i h) := by
  refine mm_body (L := [some (.ref 5), none]) rfl (by decide +kernel) (Nat.le_of_ble_eq_true rfl) rfl ?_
  unfold gX3_commandHere
  refine me_iconst (pc' := 1) (v := 0) dX3_commandHere_0 rfl kc_i0 ?_
  refine me_istore_n (pc' := 2) (i := 1) (L' := [some (.ref 5), some (.int 0)]) dX3_commandHere_1 rfl rfl (Nat.le_of_ble_eq_true rfl) (Nat.le_of_ble_eq_true rfl) rfl ?_
  exact rX3_commandHere_L2 (q := q) h mm_F 0
def gX10_namesProduct (p0 : Int32) (h : mm_H) : Option Bool :=
if p0 = 0 then
some true
else
if p0 = 1 then
some true
else
if p0 = 2 then
some true
else
some false
theorem rX10_namesProduct {q : Nat × Nat} (p0 : Int32) (h : mm_H) : mm_R2 (mm_Sq q) (mm_Sq q) mX10_namesProduct [.int p0] h (gX10_namesProduct p0 h) (lf_z h) := by
  refine mm_body (L := [some (.int p0)]) rfl (by decide +kernel) (Nat.le_of_ble_eq_true rfl) rfl ?_
  unfold gX10_namesProduct
  refine me_iload_n (pc' := 1) (i := 0) dX10_namesProduct_0 rfl rfl rfl ?_
  refine me_if_eq (pc' := 4) (tgt := 14) dX10_namesProduct_1 (by decide) rfl (fun c1 => ?_) (fun c1 => ?_)
  · refine me_iconst (pc' := 15) (v := 1) dX10_namesProduct_14 rfl kc_i1 ?_
    refine me_goto (tgt := 19) dX10_namesProduct_15 (by decide) ?_
    exact me_zret (b := true) dX10_namesProduct_19 rfl (fun z => z) rfl
  · refine me_iload_n (pc' := 5) (i := 0) dX10_namesProduct_4 rfl rfl rfl ?_
    refine me_iconst (pc' := 6) (v := 1) dX10_namesProduct_5 rfl kc_i1 ?_
    refine me_icmp_eq (pc' := 9) (tgt := 14) dX10_namesProduct_6 (by decide) rfl (fun c2 => ?_) (fun c2 => ?_)
    · refine me_iconst (pc' := 15) (v := 1) dX10_namesProduct_14 rfl kc_i1 ?_
      refine me_goto (tgt := 19) dX10_namesProduct_15 (by decide) ?_
      exact me_zret (b := true) dX10_namesProduct_19 rfl (fun z => z) rfl
    · refine me_iload_n (pc' := 10) (i := 0) dX10_namesProduct_9 rfl rfl rfl ?_
      refine me_iconst (pc' := 11) (v := 2) dX10_namesProduct_10 rfl kc_i2 ?_
      refine me_icmp_ne (pc' := 14) (tgt := 18) dX10_namesProduct_11 (by decide) rfl (fun c3 => ?_) (fun c3 => ?_)
      · refine me_iconst (pc' := 19) (v := 0) dX10_namesProduct_18 rfl kc_i0 ?_
        exact me_zret (b := false) dX10_namesProduct_19 rfl (fun z => z) rfl
      · refine me_iconst (pc' := 15) (v := 1) dX10_namesProduct_14 rfl kc_i1 ?_
        refine me_goto (tgt := 19) dX10_namesProduct_15 (by decide) ?_
        exact me_zret (b := true) dX10_namesProduct_19 rfl (fun z => z) rfl
def gX10_numbersIn (p0 : Int32) (h : mm_H) : Option Int32 :=
if p0 = 0 then
some 3
else
if p0 = 1 then
some 1
else
if p0 = 2 then
some 2
else
if p0 = 3 then
some 1
else
if p0 = 4 then
some 1
else
if p0 = 5 then
some 1
else
if p0 = 6 then
some 2
else
if p0 = 7 then
some 0
else
some 1
theorem rX10_numbersIn {q : Nat × Nat} (p0 : Int32) (h : mm_H) : mm_R2 (mm_Sq q) (mm_Sq q) mX10_numbersIn [.int p0] h (gX10_numbersIn p0 h) (lf_i h) := by
  refine mm_body (L := [some (.int p0)]) rfl (by decide +kernel) (Nat.le_of_ble_eq_true rfl) rfl ?_
  unfold gX10_numbersIn
  refine me_iload_n (pc' := 1) (i := 0) dX10_numbersIn_0 rfl rfl rfl ?_
  refine mm_if (fun c1 => ?_) (fun c1 => ?_)
  · refine me_tsw c1 dX10_numbersIn_1 (by decide) (by decide) (tgt := 48) (off := 47) (by decide) (by decide) ?_
    refine me_iconst (pc' := 49) (v := 3) dX10_numbersIn_48 rfl kc_i3 ?_
    exact me_iret dX10_numbersIn_49 rfl (fun z => z) rfl
  refine mm_if (fun c2 => ?_) (fun c2 => ?_)
  · refine me_tsw c2 dX10_numbersIn_1 (by decide) (by decide) (tgt := 56) (off := 55) (by decide) (by decide) ?_
    refine me_iconst (pc' := 57) (v := 1) dX10_numbersIn_56 rfl kc_i1 ?_
    exact me_iret dX10_numbersIn_57 rfl (fun z => z) rfl
  refine mm_if (fun c3 => ?_) (fun c3 => ?_)
  · refine me_tsw c3 dX10_numbersIn_1 (by decide) (by decide) (tgt := 50) (off := 49) (by decide) (by decide) ?_
    refine me_iconst (pc' := 51) (v := 2) dX10_numbersIn_50 rfl kc_i2 ?_
    exact me_iret dX10_numbersIn_51 rfl (fun z => z) rfl
  refine mm_if (fun c4 => ?_) (fun c4 => ?_)
  · refine me_tsw c4 dX10_numbersIn_1 (by decide) (by decide) (tgt := 56) (off := 55) (by decide) (by decide) ?_
    refine me_iconst (pc' := 57) (v := 1) dX10_numbersIn_56 rfl kc_i1 ?_
    exact me_iret dX10_numbersIn_57 rfl (fun z => z) rfl
  refine mm_if (fun c5 => ?_) (fun c5 => ?_)
  · refine me_tsw c5 dX10_numbersIn_1 (by decide) (by decide) (tgt := 56) (off := 55) (by decide) (by decide) ?_
    refine me_iconst (pc' := 57) (v := 1) dX10_numbersIn_56 rfl kc_i1 ?_
    exact me_iret dX10_numbersIn_57 rfl (fun z => z) rfl
  refine mm_if (fun c6 => ?_) (fun c6 => ?_)
  · refine me_tsw c6 dX10_numbersIn_1 (by decide) (by decide) (tgt := 56) (off := 55) (by decide) (by decide) ?_
    refine me_iconst (pc' := 57) (v := 1) dX10_numbersIn_56 rfl kc_i1 ?_
    exact me_iret dX10_numbersIn_57 rfl (fun z => z) rfl
  refine mm_if (fun c7 => ?_) (fun c7 => ?_)
  · refine me_tsw c7 dX10_numbersIn_1 (by decide) (by decide) (tgt := 52) (off := 51) (by decide) (by decide) ?_
    refine me_iconst (pc' := 53) (v := 2) dX10_numbersIn_52 rfl kc_i2 ?_
    exact me_iret dX10_numbersIn_53 rfl (fun z => z) rfl
  refine mm_if (fun c8 => ?_) (fun c8 => ?_)
  · refine me_tsw c8 dX10_numbersIn_1 (by decide) (by decide) (tgt := 54) (off := 53) (by decide) (by decide) ?_
    refine me_iconst (pc' := 55) (v := 0) dX10_numbersIn_54 rfl kc_i0 ?_
    exact me_iret dX10_numbersIn_55 rfl (fun z => z) rfl
  refine me_tableOut (tgt := 56) dX10_numbersIn_1 (mm_out7 c1 c2 c3 c4 c5 c6 c7 c8) (by decide) ?_
  refine me_iconst (pc' := 57) (v := 1) dX10_numbersIn_56 rfl kc_i1 ?_
  exact me_iret dX10_numbersIn_57 rfl (fun z => z) rfl
def gX3_takeCommand_L59 (p0 : Nat) (u12 : Int32) : Nat → Int32 → mm_H → Option (Bool × mm_H)
  | 0, _, _ => none
  | n + 1, w13, h14 =>
    (gX10_numbersIn u12 h14).bind (fun (x15 : Int32) =>
    if w13 < x15 then
    (gX3_takeNumber 0 9999 h14).bind (fun (x20 : (Int32 × mm_H)) =>
    if x20.1 = (-1) then
    some (false, x20.2)
    else
    (gX5_addArgument x20.1 x20.2).bind (fun (h23 : mm_H) =>
    (some (w13 + 1)).bind (fun (x25 : Int32) =>
    gX3_takeCommand_L59 p0 u12 n x25 h23)))
    else
    (gX3_takeSemicolon h14).bind (fun (x18 : (Bool × mm_H)) =>
    some (x18.1, x18.2)))
def gX3_takeCommand (p0 : Nat) (h : mm_H) : Option (Bool × mm_H) :=
(gX3_commandHere h).bind (fun (x1 : Int32) =>
if x1 = (-1) then
(gX3_fail 1 h).bind (fun (x32 : (Bool × mm_H)) =>
some (x32.1, x32.2))
else
(gX9_readToken h).bind (fun (h4 : mm_H) =>
(gX5_addCommand x1 h4).bind (fun (h6 : mm_H) =>
(gX10_namesProduct x1 h6).bind (fun (x8 : Bool) =>
mm_jn (fun (h10 : mm_H) =>
gX3_takeCommand_L59 p0 x1 mm_F 0 h10) (fun (j11 : mm_H → Option (Bool × mm_H)) =>
if x8 = true then
(gX3_takeKnownName p0 h6).bind (fun (x27 : (Int32 × mm_H)) =>
if x27.1 = (-1) then
some (false, x27.2)
else
(gX5_addArgument x27.1 x27.2).bind (fun (h30 : mm_H) =>
j11 h30))
else
j11 h6)))))
theorem rX3_takeCommand_L59 {q : Nat × Nat} (p0 : Nat) (u12 : Int32)   (hp0 : mm_kd p0 = (0, 1)) : ∀ (n : Nat) (w13 : Int32) (h14 : mm_H), mm_E2 (mm_Sq (q.1, 1)) (mm_Sq (q.1, 1)) mX3_takeCommand 59 [some (.ref 5), none, some (.ref 9), some (.int u12), some (.int w13), none] [] h14 (gX3_takeCommand_L59 p0 u12  n w13 h14) lf_ze := by
  intro n
  induction n with
  | zero =>
    intro w13 h14
    exact mm_none
  | succ n ih =>
    intro w13 h14
    rw [gX3_takeCommand_L59]
    refine me_iload (pc' := 61) (i := 4) dX3_takeCommand_59 rfl rfl ?_
    refine me_iload_n (pc' := 62) (i := 3) dX3_takeCommand_61 rfl rfl rfl ?_
    refine me_callS (As := [.int u12]) (st := [.int w13]) (F' := (mm_Sq (q.1, 1))) (G' := (mm_Sq (q.1, 1))) (F'' := (mm_Sq (q.1, 1))) (pc' := 65) dX3_takeCommand_62 rfl mfX10_numbersIn rfl lkX3_154 ⟨Nat.le_of_ble_eq_true rfl, Nat.le_of_ble_eq_true rfl⟩ (Nat.le_of_ble_eq_true rfl) (fun z => z) (rX10_numbersIn (q := (q.1, 1)) u12 h14 ) (fun x15 e16 => Or.inl ⟨_, _, rfl, fun z => z, ?_⟩)
    show mm_E2 _ _ _ _ _ [.int x15, .int w13] h14 _ _
    refine me_icmp_ge (pc' := 68) (tgt := 98) dX3_takeCommand_65 (by decide) rfl (fun c17 => ?_) (fun c17 => ?_)
    · refine me_aload_n (pc' := 99) (i := 0) dX3_takeCommand_98 rfl rfl rfl ?_
      refine me_callV (As := []) (st := []) (F' := (mm_Sq (q.1, 1))) (G' := (mm_Sq (q.1, 1))) (F'' := (mm_Sq (q.1, 1))) (pc' := 102) dX3_takeCommand_99 rfl mfX3_takeSemicolon rfl lkX3_40 kd_5 rfl (mm_ltq kd_5) ⟨Nat.le_of_ble_eq_true rfl, Nat.le_of_ble_eq_true rfl⟩ (Nat.le_of_ble_eq_true rfl) (fun z => z) (rX3_takeSemicolon (q := q) h14 ) (fun x18 e19 => Or.inl ⟨_, _, rfl, fun z => z, ?_⟩)
      show mm_E2 _ _ _ _ _ [.int (mx_bi x18.1)] x18.2 _ _
      exact me_zret (b := x18.1) dX3_takeCommand_102 rfl (fun z => z) rfl
    · refine me_aload_n (pc' := 69) (i := 0) dX3_takeCommand_68 rfl rfl rfl ?_
      refine me_iconst (pc' := 70) (v := 0) dX3_takeCommand_69 rfl kc_i0 ?_
      refine me_sipush (pc' := 73) (v := 9999) dX3_takeCommand_70 rfl kc_s9999 ?_
      refine me_callV (As := [.int 0, .int 9999]) (st := []) (F' := (mm_Sq (q.1, 1))) (G' := (mm_Sq (q.1, 1))) (F'' := (mm_Sq (q.1, 1))) (pc' := 76) dX3_takeCommand_73 rfl mfX3_takeNumber rfl lkX3_126 kd_5 rfl (mm_ltq kd_5) ⟨Nat.le_of_ble_eq_true rfl, Nat.le_of_ble_eq_true rfl⟩ (Nat.le_of_ble_eq_true rfl) (fun z => z) (rX3_takeNumber (q := q) 0 9999 h14 ) (fun x20 e21 => Or.inl ⟨_, _, rfl, fun z => z, ?_⟩)
      show mm_E2 _ _ _ _ _ [.int x20.1] x20.2 _ _
      refine me_istore (pc' := 78) (i := 5) (L' := [some (.ref 5), none, some (.ref 9), some (.int u12), some (.int w13), some (.int x20.1)]) dX3_takeCommand_76 rfl (Nat.le_of_ble_eq_true rfl) (Nat.le_of_ble_eq_true rfl) rfl ?_
      refine me_iload (pc' := 80) (i := 5) dX3_takeCommand_78 rfl rfl ?_
      refine me_iconst (pc' := 81) (v := (-1)) dX3_takeCommand_80 rfl kc_im1 ?_
      refine me_icmp_ne (pc' := 84) (tgt := 86) dX3_takeCommand_81 (by decide) rfl (fun c22 => ?_) (fun c22 => ?_)
      · refine me_aload_n (pc' := 87) (i := 2) dX3_takeCommand_86 rfl rfl rfl ?_
        refine me_iload (pc' := 89) (i := 5) dX3_takeCommand_87 rfl rfl ?_
        refine me_callV (As := [.int x20.1]) (st := []) (F' := (mm_Sq (q.1, 1))) (G' := (mm_Sq (q.1, 1))) (F'' := (mm_Sq (q.1, 1))) (pc' := 92) dX3_takeCommand_89 rfl mfX5_addArgument rfl lkX3_151 kd_9 rfl (mm_ltq kd_9) ⟨Nat.le_of_ble_eq_true rfl, Nat.le_of_ble_eq_true rfl⟩ (Nat.le_of_ble_eq_true rfl) (fun z => z) (rX5_addArgument (q := (q.1, 1)) x20.1 x20.2 ) (fun h23 e24 => Or.inl ⟨_, _, rfl, fun z => z, ?_⟩)
        show mm_E2 _ _ _ _ _ [] h23 _ _
        refine me_iinc (pc' := 95) (i := 4) (x := w13) (y := w13 + 1) (L' := [some (.ref 5), none, some (.ref 9), some (.int u12), some (.int (w13 + 1)), some (.int x20.1)]) dX3_takeCommand_92 rfl (Nat.le_of_ble_eq_true rfl) (Nat.le_of_ble_eq_true rfl) rfl (kc_plus kc_i1) rfl ?_
        refine mm_bnd (w13 + 1) (fun x25 => [some (.ref 5), none, some (.ref 9), some (.int u12), some (.int x25), some (.int x20.1)]) (fun _ => []) (fun _ => h23) (fun x25 => ?_)
        refine me_goto (tgt := 59) dX3_takeCommand_95 (by decide) ?_
        exact mm_maskB [true, false, true, true, true, false] (ih x25 h23)
      · refine me_iconst (pc' := 85) (v := 0) dX3_takeCommand_84 rfl kc_i0 ?_
        exact me_zret (b := false) dX3_takeCommand_85 rfl (fun z => z) rfl
theorem rX3_takeCommand {q : Nat × Nat} (p0 : Nat) (h : mm_H) (hp0 : mm_kd p0 = (0, 1)) : mm_R2 (mm_Sq (q.1, 1)) (mm_Sq (q.1, 1)) mX3_takeCommand [.ref 5, .ref p0, .ref 9] h (gX3_takeCommand p0 h) lf_ze := by
  refine mm_body (L := [some (.ref 5), some (.ref p0), some (.ref 9), none, none, none]) rfl (by decide +kernel) (Nat.le_of_ble_eq_true rfl) rfl ?_
  unfold gX3_takeCommand
  refine me_aload_n (pc' := 1) (i := 0) dX3_takeCommand_0 rfl rfl rfl ?_
  refine me_callV (As := []) (st := []) (F' := (mm_Sq (q.1, 1))) (G' := (mm_Sq (q.1, 1))) (F'' := (mm_Sq (q.1, 1))) (pc' := 4) dX3_takeCommand_1 rfl mfX3_commandHere rfl lkX3_73 kd_5 rfl (mm_ltq kd_5) ⟨Nat.le_of_ble_eq_true rfl, Nat.le_of_ble_eq_true rfl⟩ (Nat.le_of_ble_eq_true rfl) (fun z => z) (rX3_commandHere (q := q) h ) (fun x1 e2 => Or.inl ⟨_, _, rfl, fun z => z, ?_⟩)
  show mm_E2 _ _ _ _ _ [.int x1] h _ _
  refine me_istore_n (pc' := 5) (i := 3) (L' := [some (.ref 5), some (.ref p0), some (.ref 9), some (.int x1), none, none]) dX3_takeCommand_4 rfl rfl (Nat.le_of_ble_eq_true rfl) (Nat.le_of_ble_eq_true rfl) rfl ?_
  refine me_iload_n (pc' := 6) (i := 3) dX3_takeCommand_5 rfl rfl rfl ?_
  refine me_iconst (pc' := 7) (v := (-1)) dX3_takeCommand_6 rfl kc_im1 ?_
  refine me_icmp_ne (pc' := 10) (tgt := 16) dX3_takeCommand_7 (by decide) rfl (fun c3 => ?_) (fun c3 => ?_)
  · refine me_aload_n (pc' := 17) (i := 0) dX3_takeCommand_16 rfl rfl rfl ?_
    refine me_getR (pc' := 20) (q' := 6) dX3_takeCommand_17 rfl fkX3_12 kd_5 (mm_ltq kd_5) rfl (mrX3_0 kd_5) ?_
    refine me_callV (As := []) (st := []) (F' := (mm_Sq (q.1, 1))) (G' := (mm_Sq (q.1, 1))) (F'' := (mm_Sq (q.1, 1))) (pc' := 23) dX3_takeCommand_20 rfl mfX9_readToken rfl lkX3_86 kd_6 rfl (mm_ltq kd_6) ⟨Nat.le_of_ble_eq_true rfl, Nat.le_of_ble_eq_true rfl⟩ (Nat.le_of_ble_eq_true rfl) (fun z => z) (rX9_readToken (q := q) h ) (fun h4 e5 => Or.inl ⟨_, _, rfl, fun z => z, ?_⟩)
    show mm_E2 _ _ _ _ _ [] h4 _ _
    refine me_aload_n (pc' := 24) (i := 2) dX3_takeCommand_23 rfl rfl rfl ?_
    refine me_iload_n (pc' := 25) (i := 3) dX3_takeCommand_24 rfl rfl rfl ?_
    refine me_callV (As := [.int x1]) (st := []) (F' := (mm_Sq (q.1, 1))) (G' := (mm_Sq (q.1, 1))) (F'' := (mm_Sq (q.1, 1))) (pc' := 28) dX3_takeCommand_25 rfl mfX5_addCommand rfl lkX3_145 kd_9 rfl (mm_ltq kd_9) ⟨Nat.le_of_ble_eq_true rfl, Nat.le_of_ble_eq_true rfl⟩ (Nat.le_of_ble_eq_true rfl) (fun z => z) (rX5_addCommand (q := (q.1, 1)) x1 h4 ) (fun h6 e7 => Or.inl ⟨_, _, rfl, fun z => z, ?_⟩)
    show mm_E2 _ _ _ _ _ [] h6 _ _
    refine me_iload_n (pc' := 29) (i := 3) dX3_takeCommand_28 rfl rfl rfl ?_
    refine me_callS (As := [.int x1]) (st := []) (F' := (mm_Sq (q.1, 1))) (G' := (mm_Sq (q.1, 1))) (F'' := (mm_Sq (q.1, 1))) (pc' := 32) dX3_takeCommand_29 rfl mfX10_namesProduct rfl lkX3_148 ⟨Nat.le_of_ble_eq_true rfl, Nat.le_of_ble_eq_true rfl⟩ (Nat.le_of_ble_eq_true rfl) (fun z => z) (rX10_namesProduct (q := (q.1, 1)) x1 h6 ) (fun x8 e9 => Or.inl ⟨_, _, rfl, fun z => z, ?_⟩)
    show mm_E2 _ _ _ _ _ [.int (mx_bi x8)] h6 _ _
    refine mm_jnI (fun (j119 : mm_H → Option (Bool × mm_H)) => ∀ (h10 : mm_H), mm_E2 (mm_Sq (q.1, 1)) (mm_Sq (q.1, 1)) mX3_takeCommand 56 [some (.ref 5), none, some (.ref 9), some (.int x1), none, none] [] h10 (j119 h10) lf_ze) ?_ (fun j11 j11p => ?_)
    · intro h10
      refine me_iconst (pc' := 57) (v := 0) dX3_takeCommand_56 rfl kc_i0 ?_
      refine me_istore (pc' := 59) (i := 4) (L' := [some (.ref 5), none, some (.ref 9), some (.int x1), some (.int 0), none]) dX3_takeCommand_57 rfl (Nat.le_of_ble_eq_true rfl) (Nat.le_of_ble_eq_true rfl) rfl ?_
      exact rX3_takeCommand_L59 (q := q) p0 x1 hp0 mm_F 0 h10
    refine me_ifB_eq (pc' := 35) (tgt := 56) dX3_takeCommand_32 (by decide) rfl (fun c26 => ?_) (fun c26 => ?_)
    · exact mm_maskB [true, false, true, true, false, false] (j11p h6)
    · refine me_aload_n (pc' := 36) (i := 0) dX3_takeCommand_35 rfl rfl rfl ?_
      refine me_aload_n (pc' := 37) (i := 1) dX3_takeCommand_36 rfl rfl rfl ?_
      refine me_callV (As := [.ref p0]) (st := []) (F' := (mm_Sq (q.1, 1))) (G' := (mm_Sq (q.1, 1))) (F'' := (mm_Sq (q.1, 1))) (pc' := 40) dX3_takeCommand_37 rfl mfX3_takeKnownName rfl lkX3_133 kd_5 rfl (mm_ltq kd_5) ⟨Nat.le_of_ble_eq_true rfl, Nat.le_of_ble_eq_true rfl⟩ (Nat.le_of_ble_eq_true rfl) (fun z => z) (rX3_takeKnownName (q := q) p0 h6 hp0) (fun x27 e28 => Or.inl ⟨_, _, rfl, fun z => z, ?_⟩)
      show mm_E2 _ _ _ _ _ [.int x27.1] x27.2 _ _
      refine me_istore (pc' := 42) (i := 4) (L' := [some (.ref 5), some (.ref p0), some (.ref 9), some (.int x1), some (.int x27.1), none]) dX3_takeCommand_40 rfl (Nat.le_of_ble_eq_true rfl) (Nat.le_of_ble_eq_true rfl) rfl ?_
      refine me_iload (pc' := 44) (i := 4) dX3_takeCommand_42 rfl rfl ?_
      refine me_iconst (pc' := 45) (v := (-1)) dX3_takeCommand_44 rfl kc_im1 ?_
      refine me_icmp_ne (pc' := 48) (tgt := 50) dX3_takeCommand_45 (by decide) rfl (fun c29 => ?_) (fun c29 => ?_)
      · refine me_aload_n (pc' := 51) (i := 2) dX3_takeCommand_50 rfl rfl rfl ?_
        refine me_iload (pc' := 53) (i := 4) dX3_takeCommand_51 rfl rfl ?_
        refine me_callV (As := [.int x27.1]) (st := []) (F' := (mm_Sq (q.1, 1))) (G' := (mm_Sq (q.1, 1))) (F'' := (mm_Sq (q.1, 1))) (pc' := 56) dX3_takeCommand_53 rfl mfX5_addArgument rfl lkX3_151 kd_9 rfl (mm_ltq kd_9) ⟨Nat.le_of_ble_eq_true rfl, Nat.le_of_ble_eq_true rfl⟩ (Nat.le_of_ble_eq_true rfl) (fun z => z) (rX5_addArgument (q := (q.1, 1)) x27.1 x27.2 ) (fun h30 e31 => Or.inl ⟨_, _, rfl, fun z => z, ?_⟩)
        show mm_E2 _ _ _ _ _ [] h30 _ _
        exact mm_maskB [true, false, true, true, false, false] (j11p h30)
      · refine me_iconst (pc' := 49) (v := 0) dX3_takeCommand_48 rfl kc_i0 ?_
        exact me_zret (b := false) dX3_takeCommand_49 rfl (fun z => z) rfl
  · refine me_aload_n (pc' := 11) (i := 0) dX3_takeCommand_10 rfl rfl rfl ?_
    refine me_iconst (pc' := 12) (v := 1) dX3_takeCommand_11 rfl kc_i1 ?_
    refine me_callV (As := [.int 1]) (st := []) (F' := (mm_Sq (q.1, 1))) (G' := (mm_Sq (q.1, 1))) (F'' := (mm_Sq (q.1, 1))) (pc' := 15) dX3_takeCommand_12 rfl mfX3_fail rfl lkX3_53 kd_5 rfl (mm_ltq kd_5) ⟨Nat.le_of_ble_eq_true rfl, Nat.le_of_ble_eq_true rfl⟩ (Nat.le_of_ble_eq_true rfl) (fun z => z) (rX3_fail (q := q) 1 h ) (fun x32 e33 => Or.inl ⟨_, _, rfl, fun z => z, ?_⟩)
    show mm_E2 _ _ _ _ _ [.int (mx_bi x32.1)] x32.2 _ _
    exact me_zret (b := x32.1) dX3_takeCommand_15 rfl (fun z => z) rfl
def gX3_parseScript_L12 (p1 : Nat) : Nat → Int32 → mm_H → Option (Bool × mm_H)
  | 0, _, _ => none
  | n + 1, w5, h6 =>
    mm_jn (fun (_ : Unit) =>
    if (mh_I h6 6 1) = 0 then
    some (true, h6)
    else
    (gX3_commandHere h6).bind (fun (x9 : Int32) =>
    if x9 = (-1) then
    (gX3_fail 1 h6).bind (fun (x14 : (Bool × mm_H)) =>
    some (x14.1, x14.2))
    else
    (gX3_fail 4 h6).bind (fun (x12 : (Bool × mm_H)) =>
    some (x12.1, x12.2)))) (fun (j7 : Unit → Option (Bool × mm_H)) =>
    if w5 < 30 then
    if (mh_I h6 6 1) = 0 then
    j7 ()
    else
    (gX3_takeCommand p1 h6).bind (fun (x18 : (Bool × mm_H)) =>
    if x18.1 = true then
    (some (w5 + 1)).bind (fun (x21 : Int32) =>
    gX3_parseScript_L12 p1 n x21 x18.2)
    else
    some (false, x18.2))
    else
    j7 ())
def gX3_parseScript (p1 : Nat) (h : mm_H) : Option (Bool × mm_H) :=
(gX3_begin h).bind (fun (h1 : mm_H) =>
(gX5_empty h1).bind (fun (h3 : mm_H) =>
gX3_parseScript_L12 p1 mm_F 0 h3))
theorem rX3_parseScript_L12 {q : Nat × Nat} (p1 : Nat)    (hp1 : mm_kd p1 = (0, 1)) : ∀ (n : Nat) (w5 : Int32) (h6 : mm_H), mm_E2 (mm_Sq (q.1, 1)) (mm_Sq (q.1, 1)) mX3_parseScript 12 [some (.ref 5), none, some (.ref p1), some (.ref 9), some (.int w5)] [] h6 (gX3_parseScript_L12 p1  n w5 h6) lf_ze := by
  intro n
  induction n with
  | zero =>
    intro w5 h6
    exact mm_none
  | succ n ih =>
    intro w5 h6
    rw [gX3_parseScript_L12]
    refine me_iload (pc' := 14) (i := 4) dX3_parseScript_12 rfl rfl ?_
    refine me_bipush (pc' := 16) (v := 30) dX3_parseScript_14 rfl kc_b30 ?_
    refine mm_jnI (fun (j79 : Unit → Option (Bool × mm_H)) => ∀ (_ : Unit), mm_E2 (mm_Sq (q.1, 1)) (mm_Sq (q.1, 1)) mX3_parseScript 46 [some (.ref 5), none, none, none, none] [] h6 (j79 ()) lf_ze) ?_ (fun j7 j7p => ?_)
    · intro _
      refine me_aload_n (pc' := 47) (i := 0) dX3_parseScript_46 rfl rfl rfl ?_
      refine me_getR (pc' := 50) (q' := 6) dX3_parseScript_47 rfl fkX3_12 kd_5 (mm_ltq kd_5) rfl (mrX3_0 kd_5) ?_
      refine me_getI (pc' := 53) dX3_parseScript_50 rfl fkX3_63 kd_6 (mm_ltq kd_6) rfl ?_
      refine me_if_ne (pc' := 56) (tgt := 58) dX3_parseScript_53 (by decide) rfl (fun c8 => ?_) (fun c8 => ?_)
      · refine me_aload_n (pc' := 59) (i := 0) dX3_parseScript_58 rfl rfl rfl ?_
        refine me_aload_n (pc' := 60) (i := 0) dX3_parseScript_59 rfl rfl rfl ?_
        refine me_callV (As := []) (st := [.ref 5]) (F' := (mm_Sq (q.1, 1))) (G' := (mm_Sq (q.1, 1))) (F'' := (mm_Sq (q.1, 1))) (pc' := 63) dX3_parseScript_60 rfl mfX3_commandHere rfl lkX3_73 kd_5 rfl (mm_ltq kd_5) ⟨Nat.le_of_ble_eq_true rfl, Nat.le_of_ble_eq_true rfl⟩ (Nat.le_of_ble_eq_true rfl) (fun z => z) (rX3_commandHere (q := q) h6 ) (fun x9 e10 => Or.inl ⟨_, _, rfl, fun z => z, ?_⟩)
        show mm_E2 _ _ _ _ _ [.int x9, .ref 5] h6 _ _
        refine me_iconst (pc' := 64) (v := (-1)) dX3_parseScript_63 rfl kc_im1 ?_
        refine me_icmp_ne (pc' := 67) (tgt := 71) dX3_parseScript_64 (by decide) rfl (fun c11 => ?_) (fun c11 => ?_)
        · refine me_iconst (pc' := 72) (v := 4) dX3_parseScript_71 rfl kc_i4 ?_
          refine me_callV (As := [.int 4]) (st := []) (F' := (mm_Sq (q.1, 1))) (G' := (mm_Sq (q.1, 1))) (F'' := (mm_Sq (q.1, 1))) (pc' := 75) dX3_parseScript_72 rfl mfX3_fail rfl lkX3_53 kd_5 rfl (mm_ltq kd_5) ⟨Nat.le_of_ble_eq_true rfl, Nat.le_of_ble_eq_true rfl⟩ (Nat.le_of_ble_eq_true rfl) (fun z => z) (rX3_fail (q := q) 4 h6 ) (fun x12 e13 => Or.inl ⟨_, _, rfl, fun z => z, ?_⟩)
          show mm_E2 _ _ _ _ _ [.int (mx_bi x12.1)] x12.2 _ _
          exact me_zret (b := x12.1) dX3_parseScript_75 rfl (fun z => z) rfl
        · refine me_iconst (pc' := 68) (v := 1) dX3_parseScript_67 rfl kc_i1 ?_
          refine me_goto (tgt := 72) dX3_parseScript_68 (by decide) ?_
          refine me_callV (As := [.int 1]) (st := []) (F' := (mm_Sq (q.1, 1))) (G' := (mm_Sq (q.1, 1))) (F'' := (mm_Sq (q.1, 1))) (pc' := 75) dX3_parseScript_72 rfl mfX3_fail rfl lkX3_53 kd_5 rfl (mm_ltq kd_5) ⟨Nat.le_of_ble_eq_true rfl, Nat.le_of_ble_eq_true rfl⟩ (Nat.le_of_ble_eq_true rfl) (fun z => z) (rX3_fail (q := q) 1 h6 ) (fun x14 e15 => Or.inl ⟨_, _, rfl, fun z => z, ?_⟩)
          show mm_E2 _ _ _ _ _ [.int (mx_bi x14.1)] x14.2 _ _
          exact me_zret (b := x14.1) dX3_parseScript_75 rfl (fun z => z) rfl
      · refine me_iconst (pc' := 57) (v := 1) dX3_parseScript_56 rfl kc_i1 ?_
        exact me_zret (b := true) dX3_parseScript_57 rfl (fun z => z) rfl
    refine me_icmp_ge (pc' := 19) (tgt := 46) dX3_parseScript_16 (by decide) rfl (fun c16 => ?_) (fun c16 => ?_)
    · exact mm_maskB [true, false, false, false, false] (j7p ())
    · refine me_aload_n (pc' := 20) (i := 0) dX3_parseScript_19 rfl rfl rfl ?_
      refine me_getR (pc' := 23) (q' := 6) dX3_parseScript_20 rfl fkX3_12 kd_5 (mm_ltq kd_5) rfl (mrX3_0 kd_5) ?_
      refine me_getI (pc' := 26) dX3_parseScript_23 rfl fkX3_63 kd_6 (mm_ltq kd_6) rfl ?_
      refine me_if_eq (pc' := 29) (tgt := 46) dX3_parseScript_26 (by decide) rfl (fun c17 => ?_) (fun c17 => ?_)
      · exact mm_maskB [true, false, false, false, false] (j7p ())
      · refine me_aload_n (pc' := 30) (i := 0) dX3_parseScript_29 rfl rfl rfl ?_
        refine me_aload_n (pc' := 31) (i := 2) dX3_parseScript_30 rfl rfl rfl ?_
        refine me_aload_n (pc' := 32) (i := 3) dX3_parseScript_31 rfl rfl rfl ?_
        refine me_callV (As := [.ref p1, .ref 9]) (st := []) (F' := (mm_Sq (q.1, 1))) (G' := (mm_Sq (q.1, 1))) (F'' := (mm_Sq (q.1, 1))) (pc' := 35) dX3_parseScript_32 rfl mfX3_takeCommand rfl lkX3_69 kd_5 rfl (mm_ltq kd_5) ⟨Nat.le_of_ble_eq_true rfl, Nat.le_of_ble_eq_true rfl⟩ (Nat.le_of_ble_eq_true rfl) (fun z => z) (rX3_takeCommand (q := q) p1 h6 hp1) (fun x18 e19 => Or.inl ⟨_, _, rfl, fun z => z, ?_⟩)
        show mm_E2 _ _ _ _ _ [.int (mx_bi x18.1)] x18.2 _ _
        refine me_ifB_ne (pc' := 38) (tgt := 40) dX3_parseScript_35 (by decide) rfl (fun c20 => ?_) (fun c20 => ?_)
        · refine me_iinc (pc' := 43) (i := 4) (x := w5) (y := w5 + 1) (L' := [some (.ref 5), none, some (.ref p1), some (.ref 9), some (.int (w5 + 1))]) dX3_parseScript_40 rfl (Nat.le_of_ble_eq_true rfl) (Nat.le_of_ble_eq_true rfl) rfl (kc_plus kc_i1) rfl ?_
          refine mm_bnd (w5 + 1) (fun x21 => [some (.ref 5), none, some (.ref p1), some (.ref 9), some (.int x21)]) (fun _ => []) (fun _ => x18.2) (fun x21 => ?_)
          refine me_goto (tgt := 12) dX3_parseScript_43 (by decide) ?_
          exact ih x21 x18.2
        · refine me_iconst (pc' := 39) (v := 0) dX3_parseScript_38 rfl kc_i0 ?_
          exact me_zret (b := false) dX3_parseScript_39 rfl (fun z => z) rfl
theorem rX3_parseScript {q : Nat × Nat} (p1 : Nat) (h : mm_H) (hp1 : mm_kd p1 = (0, 1)) : mm_R2 (mm_Sq q) (mm_Sq (q.1, 1)) mX3_parseScript [.ref 5, .ref 1, .ref p1, .ref 9] h (gX3_parseScript p1 h) lf_ze := by
  refine mm_body (L := [some (.ref 5), some (.ref 1), some (.ref p1), some (.ref 9), none]) rfl (by decide +kernel) (Nat.le_of_ble_eq_true rfl) rfl ?_
  unfold gX3_parseScript
  refine me_aload_n (pc' := 1) (i := 0) dX3_parseScript_0 rfl rfl rfl ?_
  refine me_aload_n (pc' := 2) (i := 1) dX3_parseScript_1 rfl rfl rfl ?_
  refine me_callV (As := [.ref 1]) (st := []) (F' := (mm_Sq q)) (G' := (mm_Sq (q.1, 1))) (F'' := (mm_Sq (q.1, 1))) (pc' := 5) dX3_parseScript_2 rfl mfX3_begin rfl lkX3_22 kd_5 rfl (mm_ltq kd_5) ⟨Nat.le_of_ble_eq_true rfl, Nat.le_of_ble_eq_true rfl⟩ (Nat.le_of_ble_eq_true rfl) (fun z => z) (rX3_begin (q := q) h ) (fun h1 e2 => Or.inl ⟨_, _, rfl, fun z => z, ?_⟩)
  show mm_E2 _ _ _ _ _ [] h1 _ _
  refine me_aload_n (pc' := 6) (i := 3) dX3_parseScript_5 rfl rfl rfl ?_
  refine me_callV (As := []) (st := []) (F' := (mm_Sq (q.1, 1))) (G' := (mm_Sq (q.1, 1))) (F'' := (mm_Sq (q.1, 1))) (pc' := 9) dX3_parseScript_6 rfl mfX5_empty rfl lkX3_66 kd_9 rfl (mm_ltq kd_9) ⟨Nat.le_of_ble_eq_true rfl, Nat.le_of_ble_eq_true rfl⟩ (Nat.le_of_ble_eq_true rfl) (fun z => z) (rX5_empty (q := (q.1, 1)) h1 ) (fun h3 e4 => Or.inl ⟨_, _, rfl, fun z => z, ?_⟩)
  show mm_E2 _ _ _ _ _ [] h3 _ _
  refine me_iconst (pc' := 10) (v := 0) dX3_parseScript_9 rfl kc_i0 ?_
  refine me_istore (pc' := 12) (i := 4) (L' := [some (.ref 5), some (.ref 1), some (.ref p1), some (.ref 9), some (.int 0)]) dX3_parseScript_10 rfl (Nat.le_of_ble_eq_true rfl) (Nat.le_of_ble_eq_true rfl) rfl ?_
  exact mm_maskB [true, false, true, true, true] (rX3_parseScript_L12 (q := q) p1 hp1 mm_F 0 h3)
def gX10_runScript_L56 : Nat → Int32 → mm_H → Option ((Int32 ⊕ String) × mm_H)
  | 0, _, _ => none
  | n + 1, w8, h9 =>
    if w8 < (mh_I h9 9 0) then
    (gX10_refusalOfCommand w8 h9).bind (fun (x11 : Int32) =>
    if x11 = 0 then
    (gX10_performCommand w8 h9).bind (fun (h14 : mm_H) =>
    (some (w8 + 1)).bind (fun (x16 : Int32) =>
    gX10_runScript_L56 n x16 h14))
    else
    some (.inl w8, h9))
    else
    some (.inl ((mh_I h9 9 0)), h9)
def gX10_runScript (h : mm_H) : Option ((Int32 ⊕ String) × mm_H) :=
(gX3_parseScript 14 h).bind (fun (x1 : (Bool × mm_H)) =>
(gX8_cutTo 1 0 x1.2).bind (fun (h3 : mm_H) =>
if x1.1 = true then
(gX2_remember 21 h3).bind (fun (h6 : mm_H) =>
gX10_runScript_L56 mm_F 0 h6)
else
some (.inr "java/lang/IllegalArgumentException", ms_X h3)))
theorem rX10_runScript_L56 {q : Nat × Nat} : ∀ (n : Nat) (w8 : Int32) (h9 : mm_H), mm_E2 (mm_Sq (q.1, 1)) (mm_Sq (q.1, 1)) mX10_runScript 56 [some (.ref 0), none, some (.int w8)] [] h9 (gX10_runScript_L56  n w8 h9) lf_it := by
  intro n
  induction n with
  | zero =>
    intro w8 h9
    exact mm_none
  | succ n ih =>
    intro w8 h9
    rw [gX10_runScript_L56]
    refine me_iload_n (pc' := 57) (i := 2) dX10_runScript_56 rfl rfl rfl ?_
    refine me_aload_n (pc' := 58) (i := 0) dX10_runScript_57 rfl rfl rfl ?_
    refine me_getR (pc' := 61) (q' := 9) dX10_runScript_58 rfl fkX10_31 kd_0 (mm_ltq kd_0) rfl (mrX10_3 kd_0) ?_
    refine me_getI (pc' := 64) dX10_runScript_61 rfl fkX10_357 kd_9 (mm_ltq kd_9) rfl ?_
    refine me_icmp_ge (pc' := 67) (tgt := 88) dX10_runScript_64 (by decide) rfl (fun c10 => ?_) (fun c10 => ?_)
    · refine me_aload_n (pc' := 89) (i := 0) dX10_runScript_88 rfl rfl rfl ?_
      refine me_getR (pc' := 92) (q' := 9) dX10_runScript_89 rfl fkX10_31 kd_0 (mm_ltq kd_0) rfl (mrX10_3 kd_0) ?_
      refine me_getI (pc' := 95) dX10_runScript_92 rfl fkX10_357 kd_9 (mm_ltq kd_9) rfl ?_
      exact me_iret dX10_runScript_95 rfl (fun z => z) rfl
    · refine me_aload_n (pc' := 68) (i := 0) dX10_runScript_67 rfl rfl rfl ?_
      refine me_iload_n (pc' := 69) (i := 2) dX10_runScript_68 rfl rfl rfl ?_
      refine me_callV (As := [.int w8]) (st := []) (F' := (mm_Sq (q.1, 1))) (G' := (mm_Sq (q.1, 1))) (F'' := (mm_Sq (q.1, 1))) (pc' := 72) dX10_runScript_69 rfl mfX10_refusalOfCommand rfl lkX10_358 kd_0 rfl (mm_ltq kd_0) ⟨Nat.le_of_ble_eq_true rfl, Nat.le_of_ble_eq_true rfl⟩ (Nat.le_of_ble_eq_true rfl) (fun z => z) (rX10_refusalOfCommand (q := (q.1, 1)) w8 h9 ) (fun x11 e12 => Or.inl ⟨_, _, rfl, fun z => z, ?_⟩)
      show mm_E2 _ _ _ _ _ [.int x11] h9 _ _
      refine me_if_eq (pc' := 75) (tgt := 77) dX10_runScript_72 (by decide) rfl (fun c13 => ?_) (fun c13 => ?_)
      · refine me_aload_n (pc' := 78) (i := 0) dX10_runScript_77 rfl rfl rfl ?_
        refine me_iload_n (pc' := 79) (i := 2) dX10_runScript_78 rfl rfl rfl ?_
        refine me_callV (As := [.int w8]) (st := []) (F' := (mm_Sq (q.1, 1))) (G' := (mm_Sq (q.1, 1))) (F'' := (mm_Sq (q.1, 1))) (pc' := 82) dX10_runScript_79 rfl mfX10_performCommand rfl lkX10_361 kd_0 rfl (mm_ltq kd_0) ⟨Nat.le_of_ble_eq_true rfl, Nat.le_of_ble_eq_true rfl⟩ (Nat.le_of_ble_eq_true rfl) (fun z => z) (rX10_performCommand (q := (q.1, 1)) w8 h9 ) (fun h14 e15 => Or.inl ⟨_, _, rfl, fun z => z, ?_⟩)
        show mm_E2 _ _ _ _ _ [] h14 _ _
        refine me_iinc (pc' := 85) (i := 2) (x := w8) (y := w8 + 1) (L' := [some (.ref 0), none, some (.int (w8 + 1))]) dX10_runScript_82 rfl (Nat.le_of_ble_eq_true rfl) (Nat.le_of_ble_eq_true rfl) rfl (kc_plus kc_i1) rfl ?_
        refine mm_bnd (w8 + 1) (fun x16 => [some (.ref 0), none, some (.int x16)]) (fun _ => []) (fun _ => h14) (fun x16 => ?_)
        refine me_goto (tgt := 56) dX10_runScript_85 (by decide) ?_
        exact ih x16 h14
      · refine me_iload_n (pc' := 76) (i := 2) dX10_runScript_75 rfl rfl rfl ?_
        exact me_iret dX10_runScript_76 rfl (fun z => z) rfl
theorem rX10_runScript {q : Nat × Nat} (h : mm_H) : mm_R2 (mm_Sq q) (mm_Sq (q.1, 1)) mX10_runScript [.ref 0] h (gX10_runScript h) lf_it := by
  refine mm_body (L := [some (.ref 0), none, none]) rfl (by decide +kernel) (Nat.le_of_ble_eq_true rfl) rfl ?_
  unfold gX10_runScript
  refine me_aload_n (pc' := 1) (i := 0) dX10_runScript_0 rfl rfl rfl ?_
  refine me_getR (pc' := 4) (q' := 5) dX10_runScript_1 rfl fkX10_24 kd_0 (mm_ltq kd_0) rfl (mrX10_2 kd_0) ?_
  refine me_aload_n (pc' := 5) (i := 0) dX10_runScript_4 rfl rfl rfl ?_
  refine me_getR (pc' := 8) (q' := 1) dX10_runScript_5 rfl fkX10_14 kd_0 (mm_ltq kd_0) rfl (mrX10_0 kd_0) ?_
  refine me_aload_n (pc' := 9) (i := 0) dX10_runScript_8 rfl rfl rfl ?_
  refine me_getR (pc' := 12) (q' := 14) dX10_runScript_9 rfl fkX10_38 kd_0 (mm_ltq kd_0) rfl (mrX10_4 kd_0) ?_
  refine me_aload_n (pc' := 13) (i := 0) dX10_runScript_12 rfl rfl rfl ?_
  refine me_getR (pc' := 16) (q' := 9) dX10_runScript_13 rfl fkX10_31 kd_0 (mm_ltq kd_0) rfl (mrX10_3 kd_0) ?_
  refine me_callV (As := [.ref 1, .ref 14, .ref 9]) (st := []) (F' := (mm_Sq q)) (G' := (mm_Sq (q.1, 1))) (F'' := (mm_Sq (q.1, 1))) (pc' := 19) dX10_runScript_16 rfl mfX3_parseScript rfl lkX10_351 kd_5 rfl (mm_ltq kd_5) ⟨Nat.le_of_ble_eq_true rfl, Nat.le_of_ble_eq_true rfl⟩ (Nat.le_of_ble_eq_true rfl) (fun z => z) (rX3_parseScript (q := q) 14 h kd_14) (fun x1 e2 => Or.inl ⟨_, _, rfl, fun z => z, ?_⟩)
  show mm_E2 _ _ _ _ _ [.int (mx_bi x1.1)] x1.2 _ _
  refine me_istore_n (pc' := 20) (i := 1) (L' := [some (.ref 0), some (.int (mx_bi x1.1)), none]) dX10_runScript_19 rfl rfl (Nat.le_of_ble_eq_true rfl) (Nat.le_of_ble_eq_true rfl) rfl ?_
  refine me_aload_n (pc' := 21) (i := 0) dX10_runScript_20 rfl rfl rfl ?_
  refine me_getR (pc' := 24) (q' := 1) dX10_runScript_21 rfl fkX10_14 kd_0 (mm_ltq kd_0) rfl (mrX10_0 kd_0) ?_
  refine me_iconst (pc' := 25) (v := 0) dX10_runScript_24 rfl kc_i0 ?_
  refine me_callV (As := [.int 0]) (st := []) (F' := (mm_Sq (q.1, 1))) (G' := (mm_Sq (q.1, 1))) (F'' := (mm_Sq (q.1, 1))) (pc' := 28) dX10_runScript_25 rfl mfX8_cutTo rfl lkX10_108 kd_1 rfl (mm_ltq kd_1) ⟨Nat.le_of_ble_eq_true rfl, Nat.le_of_ble_eq_true rfl⟩ (Nat.le_of_ble_eq_true rfl) (fun z => z) (rX8_cutTo (q := (q.1, 1)) 1 0 x1.2 kd_1) (fun h3 e4 => Or.inl ⟨_, _, rfl, fun z => z, ?_⟩)
  show mm_E2 _ _ _ _ _ [] h3 _ _
  refine me_iload_n (pc' := 29) (i := 1) dX10_runScript_28 rfl rfl rfl ?_
  refine me_ifB_ne (pc' := 32) (tgt := 43) dX10_runScript_29 (by decide) rfl (fun c5 => ?_) (fun c5 => ?_)
  · refine me_aload_n (pc' := 44) (i := 0) dX10_runScript_43 rfl rfl rfl ?_
    refine me_getR (pc' := 47) (q' := 90) dX10_runScript_44 rfl fkX10_58 kd_0 (mm_ltq kd_0) rfl (mrX10_8 kd_0) ?_
    refine me_aload_n (pc' := 48) (i := 0) dX10_runScript_47 rfl rfl rfl ?_
    refine me_getR (pc' := 51) (q' := 21) dX10_runScript_48 rfl fkX10_45 kd_0 (mm_ltq kd_0) rfl (mrX10_5 kd_0) ?_
    refine me_callV (As := [.ref 21]) (st := []) (F' := (mm_Sq (q.1, 1))) (G' := (mm_Sq (q.1, 1))) (F'' := (mm_Sq (q.1, 1))) (pc' := 54) dX10_runScript_51 rfl mfX2_remember rfl lkX10_305 kd_90 rfl (mm_ltq kd_90) ⟨Nat.le_of_ble_eq_true rfl, Nat.le_of_ble_eq_true rfl⟩ (Nat.le_of_ble_eq_true rfl) (fun z => z) (rX2_remember (q := (q.1, 1)) 21 h3 kd_21) (fun h6 e7 => Or.inl ⟨_, _, rfl, fun z => z, ?_⟩)
    show mm_E2 _ _ _ _ _ [] h6 _ _
    refine me_iconst (pc' := 55) (v := 0) dX10_runScript_54 rfl kc_i0 ?_
    refine me_istore_n (pc' := 56) (i := 2) (L' := [some (.ref 0), some (.int (mx_bi x1.1)), some (.int 0)]) dX10_runScript_55 rfl rfl (Nat.le_of_ble_eq_true rfl) (Nat.le_of_ble_eq_true rfl) rfl ?_
    exact mm_maskB [true, false, true] (rX10_runScript_L56 (q := q) mm_F 0 h6)
  · exact me_throwW dX10_runScript_32 dX10_runScript_35 dX10_runScript_36 dX10_runScript_39 dX10_runScript_42 rfl rfl (fun z => z) twX10_119 sr_25 (Nat.le_of_ble_eq_true rfl) (Nat.le_of_ble_eq_true rfl)
def gX10_undo (h : mm_H) : Option ((Int32 ⊕ String) × mm_H) :=
if (mh_I h 90 2) = 0 then
some (.inr "java/lang/IllegalStateException", ms_X h)
else
(gX2_stepBack 21 h).bind (fun (h2 : mm_H) =>
some (.inl ((mh_I h2 90 2)), h2))
theorem rX10_undo {q : Nat × Nat} (h : mm_H) : mm_R2 (mm_Sq q) (mm_Sq q) mX10_undo [.ref 0] h (gX10_undo h) lf_it := by
  refine mm_body (L := [some (.ref 0)]) rfl (by decide +kernel) (Nat.le_of_ble_eq_true rfl) rfl ?_
  unfold gX10_undo
  refine me_aload_n (pc' := 1) (i := 0) dX10_undo_0 rfl rfl rfl ?_
  refine me_getR (pc' := 4) (q' := 90) dX10_undo_1 rfl fkX10_58 kd_0 (mm_ltq kd_0) rfl (mrX10_8 kd_0) ?_
  refine me_getI (pc' := 7) dX10_undo_4 rfl fkX10_364 kd_90 (mm_ltq kd_90) rfl ?_
  refine me_if_ne (pc' := 10) (tgt := 21) dX10_undo_7 (by decide) rfl (fun c1 => ?_) (fun c1 => ?_)
  · refine me_aload_n (pc' := 22) (i := 0) dX10_undo_21 rfl rfl rfl ?_
    refine me_getR (pc' := 25) (q' := 90) dX10_undo_22 rfl fkX10_58 kd_0 (mm_ltq kd_0) rfl (mrX10_8 kd_0) ?_
    refine me_aload_n (pc' := 26) (i := 0) dX10_undo_25 rfl rfl rfl ?_
    refine me_getR (pc' := 29) (q' := 21) dX10_undo_26 rfl fkX10_45 kd_0 (mm_ltq kd_0) rfl (mrX10_5 kd_0) ?_
    refine me_callV (As := [.ref 21]) (st := []) (F' := (mm_Sq q)) (G' := (mm_Sq q)) (F'' := (mm_Sq q)) (pc' := 32) dX10_undo_29 rfl mfX2_stepBack rfl lkX10_367 kd_90 rfl (mm_ltq kd_90) ⟨Nat.le_of_ble_eq_true rfl, Nat.le_of_ble_eq_true rfl⟩ (Nat.le_of_ble_eq_true rfl) (fun z => z) (rX2_stepBack (q := q) 21 h kd_21) (fun h2 e3 => Or.inl ⟨_, _, rfl, fun z => z, ?_⟩)
    show mm_E2 _ _ _ _ _ [] h2 _ _
    refine me_aload_n (pc' := 33) (i := 0) dX10_undo_32 rfl rfl rfl ?_
    refine me_getR (pc' := 36) (q' := 90) dX10_undo_33 rfl fkX10_58 kd_0 (mm_ltq kd_0) rfl (mrX10_8 kd_0) ?_
    refine me_getI (pc' := 39) dX10_undo_36 rfl fkX10_364 kd_90 (mm_ltq kd_90) rfl ?_
    exact me_iret dX10_undo_39 rfl (fun z => z) rfl
  · exact me_throwW dX10_undo_10 dX10_undo_13 dX10_undo_14 dX10_undo_17 dX10_undo_20 rfl rfl (fun z => z) twX10_98 sr_26 (Nat.le_of_ble_eq_true rfl) (Nat.le_of_ble_eq_true rfl)
def gX10_checkSlot (p0 : Int32) (h : mm_H) : Option ((Unit ⊕ String) × mm_H) :=
(gX10_isOutside p0 0 1 h).bind (fun (x1 : Bool) =>
if x1 = true then
some (.inr "java/lang/IndexOutOfBoundsException", ms_X h)
else
some (.inl (), h))
theorem rX10_checkSlot {q : Nat × Nat} (p0 : Int32) (h : mm_H) : mm_R2 (mm_Sq q) (mm_Sq q) mX10_checkSlot [.int p0] h (gX10_checkSlot p0 h) lf_vt := by
  refine mm_body (L := [some (.int p0)]) rfl (by decide +kernel) (Nat.le_of_ble_eq_true rfl) rfl ?_
  unfold gX10_checkSlot
  refine me_iload_n (pc' := 1) (i := 0) dX10_checkSlot_0 rfl rfl rfl ?_
  refine me_iconst (pc' := 2) (v := 0) dX10_checkSlot_1 rfl kc_i0 ?_
  refine me_iconst (pc' := 3) (v := 1) dX10_checkSlot_2 rfl kc_i1 ?_
  refine me_callS (As := [.int p0, .int 0, .int 1]) (st := []) (F' := (mm_Sq q)) (G' := (mm_Sq q)) (F'' := (mm_Sq q)) (pc' := 6) dX10_checkSlot_3 rfl mfX10_isOutside rfl lkX10_158 ⟨Nat.le_of_ble_eq_true rfl, Nat.le_of_ble_eq_true rfl⟩ (Nat.le_of_ble_eq_true rfl) (fun z => z) (rX10_isOutside (q := q) p0 0 1 h ) (fun x1 e2 => Or.inl ⟨_, _, rfl, fun z => z, ?_⟩)
  show mm_E2 _ _ _ _ _ [.int (mx_bi x1)] h _ _
  refine me_ifB_eq (pc' := 9) (tgt := 20) dX10_checkSlot_6 (by decide) rfl (fun c3 => ?_) (fun c3 => ?_)
  · exact me_vret dX10_checkSlot_20 rfl (fun z => z) rfl
  · exact me_throwW dX10_checkSlot_9 dX10_checkSlot_12 dX10_checkSlot_13 dX10_checkSlot_16 dX10_checkSlot_19 rfl rfl (fun z => z) twX10_166 sr_27 (Nat.le_of_ble_eq_true rfl) (Nat.le_of_ble_eq_true rfl)
def gX10_save (p0 : Int32) (h : mm_H) : Option ((Int32 ⊕ String) × mm_H) :=
(gX10_checkSlot p0 h).bind (fun (x1 : ((Unit ⊕ String) × mm_H)) => match x1 with
| (.inl _, h4) =>
(gX6_store 281 p0 21 h4).bind (fun (h6 : mm_H) =>
some (.inl ((mh_I h6 21 0)), h6))
| (.inr E5, h4) => some (.inr E5, h4))
theorem rX10_save {q : Nat × Nat} (p0 : Int32) (h : mm_H) : mm_R2 (mm_Sq q) (mm_Sq q) mX10_save [.ref 0, .int p0] h (gX10_save p0 h) lf_it := by
  refine mm_body (L := [some (.ref 0), some (.int p0)]) rfl (by decide +kernel) (Nat.le_of_ble_eq_true rfl) rfl ?_
  unfold gX10_save
  refine me_iload_n (pc' := 1) (i := 1) dX10_save_0 rfl rfl rfl ?_
  refine me_callS (As := [.int p0]) (st := []) (F' := (mm_Sq q)) (G' := (mm_Sq q)) (F'' := (mm_Sq q)) (pc' := 4) dX10_save_1 rfl mfX10_checkSlot rfl lkX10_370 ⟨Nat.le_of_ble_eq_true rfl, Nat.le_of_ble_eq_true rfl⟩ (Nat.le_of_ble_eq_true rfl) (fun z => z) (rX10_checkSlot (q := q) p0 h ) (fun x1 e2 => ?_)
  rcases x1 with ⟨v3 | E5, h4⟩
  · refine Or.inl ⟨_, _, rfl, fun z => z, ?_⟩
    show mm_E2 _ _ _ _ _ [] h4 _ _
    try dsimp only
    refine me_aload_n (pc' := 5) (i := 0) dX10_save_4 rfl rfl rfl ?_
    refine me_getR (pc' := 8) (q' := 281) dX10_save_5 rfl fkX10_65 kd_0 (mm_ltq kd_0) rfl (mrX10_9 kd_0) ?_
    refine me_iload_n (pc' := 9) (i := 1) dX10_save_8 rfl rfl rfl ?_
    refine me_aload_n (pc' := 10) (i := 0) dX10_save_9 rfl rfl rfl ?_
    refine me_getR (pc' := 13) (q' := 21) dX10_save_10 rfl fkX10_45 kd_0 (mm_ltq kd_0) rfl (mrX10_5 kd_0) ?_
    refine me_callV (As := [.int p0, .ref 21]) (st := []) (F' := (mm_Sq q)) (G' := (mm_Sq q)) (F'' := (mm_Sq q)) (pc' := 16) dX10_save_13 rfl mfX6_store rfl lkX10_373 kd_281 rfl (mm_ltq kd_281) ⟨Nat.le_of_ble_eq_true rfl, Nat.le_of_ble_eq_true rfl⟩ (Nat.le_of_ble_eq_true rfl) (fun z => z) (rX6_store (q := q) 281 p0 21 h4 kd_281 kd_21) (fun h6 e7 => Or.inl ⟨_, _, rfl, fun z => z, ?_⟩)
    show mm_E2 _ _ _ _ _ [] h6 _ _
    refine me_aload_n (pc' := 17) (i := 0) dX10_save_16 rfl rfl rfl ?_
    refine me_getR (pc' := 20) (q' := 21) dX10_save_17 rfl fkX10_45 kd_0 (mm_ltq kd_0) rfl (mrX10_5 kd_0) ?_
    refine me_getI (pc' := 23) dX10_save_20 rfl fkX10_142 kd_21 (mm_ltq kd_21) rfl ?_
    exact me_iret dX10_save_23 rfl (fun z => z) rfl
  · exact Or.inr ⟨_, _, rfl, rfl, fun z => z, fun y9 hy9 => by rw [← Option.some.inj hy9]; rfl⟩
def gX10_restore (p0 : Int32) (h : mm_H) : Option ((Int32 ⊕ String) × mm_H) :=
(gX10_checkSlot p0 h).bind (fun (x1 : ((Unit ⊕ String) × mm_H)) => match x1 with
| (.inl _, h4) =>
(gX6_holds 281 p0 h4).bind (fun (x6 : Bool) =>
if x6 = true then
(gX6_fetch 281 p0 21 h4).bind (fun (h9 : mm_H) =>
(gX2_forget h9).bind (fun (h11 : mm_H) =>
some (.inl ((mh_I h11 21 0)), h11)))
else
some (.inr "java/lang/IllegalStateException", ms_X h4))
| (.inr E5, h4) => some (.inr E5, h4))
theorem rX10_restore {q : Nat × Nat} (p0 : Int32) (h : mm_H) : mm_R2 (mm_Sq q) (mm_Sq q) mX10_restore [.ref 0, .int p0] h (gX10_restore p0 h) lf_it := by
  refine mm_body (L := [some (.ref 0), some (.int p0)]) rfl (by decide +kernel) (Nat.le_of_ble_eq_true rfl) rfl ?_
  unfold gX10_restore
  refine me_iload_n (pc' := 1) (i := 1) dX10_restore_0 rfl rfl rfl ?_
  refine me_callS (As := [.int p0]) (st := []) (F' := (mm_Sq q)) (G' := (mm_Sq q)) (F'' := (mm_Sq q)) (pc' := 4) dX10_restore_1 rfl mfX10_checkSlot rfl lkX10_370 ⟨Nat.le_of_ble_eq_true rfl, Nat.le_of_ble_eq_true rfl⟩ (Nat.le_of_ble_eq_true rfl) (fun z => z) (rX10_checkSlot (q := q) p0 h ) (fun x1 e2 => ?_)
  rcases x1 with ⟨v3 | E5, h4⟩
  · refine Or.inl ⟨_, _, rfl, fun z => z, ?_⟩
    show mm_E2 _ _ _ _ _ [] h4 _ _
    try dsimp only
    refine me_aload_n (pc' := 5) (i := 0) dX10_restore_4 rfl rfl rfl ?_
    refine me_getR (pc' := 8) (q' := 281) dX10_restore_5 rfl fkX10_65 kd_0 (mm_ltq kd_0) rfl (mrX10_9 kd_0) ?_
    refine me_iload_n (pc' := 9) (i := 1) dX10_restore_8 rfl rfl rfl ?_
    refine me_callV (As := [.int p0]) (st := []) (F' := (mm_Sq q)) (G' := (mm_Sq q)) (F'' := (mm_Sq q)) (pc' := 12) dX10_restore_9 rfl mfX6_holds rfl lkX10_377 kd_281 rfl (mm_ltq kd_281) ⟨Nat.le_of_ble_eq_true rfl, Nat.le_of_ble_eq_true rfl⟩ (Nat.le_of_ble_eq_true rfl) (fun z => z) (rX6_holds (q := q) 281 p0 h4 kd_281) (fun x6 e7 => Or.inl ⟨_, _, rfl, fun z => z, ?_⟩)
    show mm_E2 _ _ _ _ _ [.int (mx_bi x6)] h4 _ _
    refine me_ifB_ne (pc' := 15) (tgt := 26) dX10_restore_12 (by decide) rfl (fun c8 => ?_) (fun c8 => ?_)
    · refine me_aload_n (pc' := 27) (i := 0) dX10_restore_26 rfl rfl rfl ?_
      refine me_getR (pc' := 30) (q' := 281) dX10_restore_27 rfl fkX10_65 kd_0 (mm_ltq kd_0) rfl (mrX10_9 kd_0) ?_
      refine me_iload_n (pc' := 31) (i := 1) dX10_restore_30 rfl rfl rfl ?_
      refine me_aload_n (pc' := 32) (i := 0) dX10_restore_31 rfl rfl rfl ?_
      refine me_getR (pc' := 35) (q' := 21) dX10_restore_32 rfl fkX10_45 kd_0 (mm_ltq kd_0) rfl (mrX10_5 kd_0) ?_
      refine me_callV (As := [.int p0, .ref 21]) (st := []) (F' := (mm_Sq q)) (G' := (mm_Sq q)) (F'' := (mm_Sq q)) (pc' := 38) dX10_restore_35 rfl mfX6_fetch rfl lkX10_382 kd_281 rfl (mm_ltq kd_281) ⟨Nat.le_of_ble_eq_true rfl, Nat.le_of_ble_eq_true rfl⟩ (Nat.le_of_ble_eq_true rfl) (fun z => z) (rX6_fetch (q := q) 281 p0 21 h4 kd_281 kd_21) (fun h9 e10 => Or.inl ⟨_, _, rfl, fun z => z, ?_⟩)
      show mm_E2 _ _ _ _ _ [] h9 _ _
      refine me_aload_n (pc' := 39) (i := 0) dX10_restore_38 rfl rfl rfl ?_
      refine me_getR (pc' := 42) (q' := 90) dX10_restore_39 rfl fkX10_58 kd_0 (mm_ltq kd_0) rfl (mrX10_8 kd_0) ?_
      refine me_callV (As := []) (st := []) (F' := (mm_Sq q)) (G' := (mm_Sq q)) (F'' := (mm_Sq q)) (pc' := 45) dX10_restore_42 rfl mfX2_forget rfl lkX10_130 kd_90 rfl (mm_ltq kd_90) ⟨Nat.le_of_ble_eq_true rfl, Nat.le_of_ble_eq_true rfl⟩ (Nat.le_of_ble_eq_true rfl) (fun z => z) (rX2_forget (q := q) h9 ) (fun h11 e12 => Or.inl ⟨_, _, rfl, fun z => z, ?_⟩)
      show mm_E2 _ _ _ _ _ [] h11 _ _
      refine me_aload_n (pc' := 46) (i := 0) dX10_restore_45 rfl rfl rfl ?_
      refine me_getR (pc' := 49) (q' := 21) dX10_restore_46 rfl fkX10_45 kd_0 (mm_ltq kd_0) rfl (mrX10_5 kd_0) ?_
      refine me_getI (pc' := 52) dX10_restore_49 rfl fkX10_142 kd_21 (mm_ltq kd_21) rfl ?_
      exact me_iret dX10_restore_52 rfl (fun z => z) rfl
    · exact me_throwW dX10_restore_15 dX10_restore_18 dX10_restore_19 dX10_restore_22 dX10_restore_25 rfl rfl (fun z => z) twX10_98 sr_28 (Nat.le_of_ble_eq_true rfl) (Nat.le_of_ble_eq_true rfl)
  · exact Or.inr ⟨_, _, rfl, rfl, fun z => z, fun y9 hy9 => by rw [← Option.some.inj hy9]; rfl⟩
def gX10_writeBatch (p0 : Int32) (h : mm_H) : Option mm_H :=
(gX4_get 24 p0 h).bind (fun (x1 : Int32) =>
(gX8_addNumber 3 x1 h).bind (fun (h3 : mm_H) =>
(gX8_addByte 3 64 h3).bind (fun (h5 : mm_H) =>
(gX4_get 28 p0 h5).bind (fun (x7 : Int32) =>
(gX8_addNumber 3 x7 h5).bind (fun (h9 : mm_H) =>
(gX7_hasExpired 21 p0 h9).bind (fun (x11 : Bool) =>
if x11 = true then
(gX8_addByte 3 33 h9).bind (fun (h14 : mm_H) =>
some h14)
else
some h9))))))
theorem rX10_writeBatch {q : Nat × Nat} (p0 : Int32) (h : mm_H) : mm_R2 (mm_Sq q) (mm_Sq q) mX10_writeBatch [.ref 0, .int p0] h (gX10_writeBatch p0 h) lf_v := by
  refine mm_body (L := [some (.ref 0), some (.int p0)]) rfl (by decide +kernel) (Nat.le_of_ble_eq_true rfl) rfl ?_
  unfold gX10_writeBatch
  refine me_aload_n (pc' := 1) (i := 0) dX10_writeBatch_0 rfl rfl rfl ?_
  refine me_getR (pc' := 4) (q' := 3) dX10_writeBatch_1 rfl fkX10_18 kd_0 (mm_ltq kd_0) rfl (mrX10_1 kd_0) ?_
  refine me_aload_n (pc' := 5) (i := 0) dX10_writeBatch_4 rfl rfl rfl ?_
  refine me_getR (pc' := 8) (q' := 21) dX10_writeBatch_5 rfl fkX10_45 kd_0 (mm_ltq kd_0) rfl (mrX10_5 kd_0) ?_
  refine me_getR (pc' := 11) (q' := 24) dX10_writeBatch_8 rfl fkX10_211 kd_21 (mm_ltq kd_21) rfl (mrX7_3 kd_21) ?_
  refine me_iload_n (pc' := 12) (i := 1) dX10_writeBatch_11 rfl rfl rfl ?_
  refine me_callV (As := [.int p0]) (st := [.ref 3]) (F' := (mm_Sq q)) (G' := (mm_Sq q)) (F'' := (mm_Sq q)) (pc' := 15) dX10_writeBatch_12 rfl mfX4_get rfl lkX10_152 kd_24 rfl (mm_ltq kd_24) ⟨Nat.le_of_ble_eq_true rfl, Nat.le_of_ble_eq_true rfl⟩ (Nat.le_of_ble_eq_true rfl) (fun z => z) (rX4_get (q := q) 24 p0 h kd_24) (fun x1 e2 => Or.inl ⟨_, _, rfl, fun z => z, ?_⟩)
  show mm_E2 _ _ _ _ _ [.int x1, .ref 3] h _ _
  refine me_callV (As := [.int x1]) (st := []) (F' := (mm_Sq q)) (G' := (mm_Sq q)) (F'' := (mm_Sq q)) (pc' := 18) dX10_writeBatch_15 rfl mfX8_addNumber rfl lkX10_424 kd_3 rfl (mm_ltq kd_3) ⟨Nat.le_of_ble_eq_true rfl, Nat.le_of_ble_eq_true rfl⟩ (Nat.le_of_ble_eq_true rfl) (fun z => z) (rX8_addNumber (q := q) 3 x1 h kd_3) (fun h3 e4 => Or.inl ⟨_, _, rfl, fun z => z, ?_⟩)
  show mm_E2 _ _ _ _ _ [] h3 _ _
  refine me_aload_n (pc' := 19) (i := 0) dX10_writeBatch_18 rfl rfl rfl ?_
  refine me_getR (pc' := 22) (q' := 3) dX10_writeBatch_19 rfl fkX10_18 kd_0 (mm_ltq kd_0) rfl (mrX10_1 kd_0) ?_
  refine me_bipush (pc' := 24) (v := 64) dX10_writeBatch_22 rfl kc_b64 ?_
  refine me_callV (As := [.int 64]) (st := []) (F' := (mm_Sq q)) (G' := (mm_Sq q)) (F'' := (mm_Sq q)) (pc' := 27) dX10_writeBatch_24 rfl mfX8_addByte rfl lkX10_389 kd_3 rfl (mm_ltq kd_3) ⟨Nat.le_of_ble_eq_true rfl, Nat.le_of_ble_eq_true rfl⟩ (Nat.le_of_ble_eq_true rfl) (fun z => z) (rX8_addByte (q := q) 3 64 h3 kd_3) (fun h5 e6 => Or.inl ⟨_, _, rfl, fun z => z, ?_⟩)
  show mm_E2 _ _ _ _ _ [] h5 _ _
  refine me_aload_n (pc' := 28) (i := 0) dX10_writeBatch_27 rfl rfl rfl ?_
  refine me_getR (pc' := 31) (q' := 3) dX10_writeBatch_28 rfl fkX10_18 kd_0 (mm_ltq kd_0) rfl (mrX10_1 kd_0) ?_
  refine me_aload_n (pc' := 32) (i := 0) dX10_writeBatch_31 rfl rfl rfl ?_
  refine me_getR (pc' := 35) (q' := 21) dX10_writeBatch_32 rfl fkX10_45 kd_0 (mm_ltq kd_0) rfl (mrX10_5 kd_0) ?_
  refine me_getR (pc' := 38) (q' := 28) dX10_writeBatch_35 rfl fkX10_217 kd_21 (mm_ltq kd_21) rfl (mrX7_5 kd_21) ?_
  refine me_iload_n (pc' := 39) (i := 1) dX10_writeBatch_38 rfl rfl rfl ?_
  refine me_callV (As := [.int p0]) (st := [.ref 3]) (F' := (mm_Sq q)) (G' := (mm_Sq q)) (F'' := (mm_Sq q)) (pc' := 42) dX10_writeBatch_39 rfl mfX4_get rfl lkX10_152 kd_28 rfl (mm_ltq kd_28) ⟨Nat.le_of_ble_eq_true rfl, Nat.le_of_ble_eq_true rfl⟩ (Nat.le_of_ble_eq_true rfl) (fun z => z) (rX4_get (q := q) 28 p0 h5 kd_28) (fun x7 e8 => Or.inl ⟨_, _, rfl, fun z => z, ?_⟩)
  show mm_E2 _ _ _ _ _ [.int x7, .ref 3] h5 _ _
  refine me_callV (As := [.int x7]) (st := []) (F' := (mm_Sq q)) (G' := (mm_Sq q)) (F'' := (mm_Sq q)) (pc' := 45) dX10_writeBatch_42 rfl mfX8_addNumber rfl lkX10_424 kd_3 rfl (mm_ltq kd_3) ⟨Nat.le_of_ble_eq_true rfl, Nat.le_of_ble_eq_true rfl⟩ (Nat.le_of_ble_eq_true rfl) (fun z => z) (rX8_addNumber (q := q) 3 x7 h5 kd_3) (fun h9 e10 => Or.inl ⟨_, _, rfl, fun z => z, ?_⟩)
  show mm_E2 _ _ _ _ _ [] h9 _ _
  refine me_aload_n (pc' := 46) (i := 0) dX10_writeBatch_45 rfl rfl rfl ?_
  refine me_getR (pc' := 49) (q' := 21) dX10_writeBatch_46 rfl fkX10_45 kd_0 (mm_ltq kd_0) rfl (mrX10_5 kd_0) ?_
  refine me_iload_n (pc' := 50) (i := 1) dX10_writeBatch_49 rfl rfl rfl ?_
  refine me_callV (As := [.int p0]) (st := []) (F' := (mm_Sq q)) (G' := (mm_Sq q)) (F'' := (mm_Sq q)) (pc' := 53) dX10_writeBatch_50 rfl mfX7_hasExpired rfl lkX10_223 kd_21 rfl (mm_ltq kd_21) ⟨Nat.le_of_ble_eq_true rfl, Nat.le_of_ble_eq_true rfl⟩ (Nat.le_of_ble_eq_true rfl) (fun z => z) (rX7_hasExpired (q := q) 21 p0 h9 kd_21) (fun x11 e12 => Or.inl ⟨_, _, rfl, fun z => z, ?_⟩)
  show mm_E2 _ _ _ _ _ [.int (mx_bi x11)] h9 _ _
  refine me_ifB_eq (pc' := 56) (tgt := 65) dX10_writeBatch_53 (by decide) rfl (fun c13 => ?_) (fun c13 => ?_)
  · exact me_vret dX10_writeBatch_65 rfl (fun z => z) rfl
  · refine me_aload_n (pc' := 57) (i := 0) dX10_writeBatch_56 rfl rfl rfl ?_
    refine me_getR (pc' := 60) (q' := 3) dX10_writeBatch_57 rfl fkX10_18 kd_0 (mm_ltq kd_0) rfl (mrX10_1 kd_0) ?_
    refine me_bipush (pc' := 62) (v := 33) dX10_writeBatch_60 rfl kc_b33 ?_
    refine me_callV (As := [.int 33]) (st := []) (F' := (mm_Sq q)) (G' := (mm_Sq q)) (F'' := (mm_Sq q)) (pc' := 65) dX10_writeBatch_62 rfl mfX8_addByte rfl lkX10_389 kd_3 rfl (mm_ltq kd_3) ⟨Nat.le_of_ble_eq_true rfl, Nat.le_of_ble_eq_true rfl⟩ (Nat.le_of_ble_eq_true rfl) (fun z => z) (rX8_addByte (q := q) 3 33 h9 kd_3) (fun h14 e15 => Or.inl ⟨_, _, rfl, fun z => z, ?_⟩)
    show mm_E2 _ _ _ _ _ [] h14 _ _
    exact me_vret dX10_writeBatch_65 rfl (fun z => z) rfl
def gX10_writeBatches_L27 : Nat → Int32 → mm_H → Option ((Int32 ⊕ String) × mm_H)
  | 0, _, _ => none
  | n + 1, w10, h11 =>
    if w10 < (mh_I h11 347 0) then
    mm_jn (fun (h13 : mm_H) =>
    (gX4_get 348 w10 h13).bind (fun (x15 : Int32) =>
    (gX10_writeBatch x15 h13).bind (fun (h17 : mm_H) =>
    (some (w10 + 1)).bind (fun (x19 : Int32) =>
    gX10_writeBatches_L27 n x19 h17)))) (fun (j14 : mm_H → Option ((Int32 ⊕ String) × mm_H)) =>
    if 0 < w10 then
    (gX8_addByte 3 32 h11).bind (fun (h21 : mm_H) =>
    j14 h21)
    else
    j14 h11)
    else
    some (.inl ((mh_I h11 3 1)), h11)
def gX10_writeBatches (p0 : Int32) (h : mm_H) : Option ((Int32 ⊕ String) × mm_H) :=
(gX10_checkProduct p0 h).bind (fun (x1 : ((Unit ⊕ String) × mm_H)) => match x1 with
| (.inl _, h4) =>
(gX8_cutTo 3 0 h4).bind (fun (h6 : mm_H) =>
(gX7_collectInStock 21 p0 h6).bind (fun (h8 : mm_H) =>
gX10_writeBatches_L27 mm_F 0 h8))
| (.inr E5, h4) => some (.inr E5, h4))
theorem rX10_writeBatches_L27 {q : Nat × Nat} : ∀ (n : Nat) (w10 : Int32) (h11 : mm_H), mm_E2 (mm_Sq q) (mm_Sq q) mX10_writeBatches 27 [some (.ref 0), none, some (.int w10)] [] h11 (gX10_writeBatches_L27  n w10 h11) lf_it := by
  intro n
  induction n with
  | zero =>
    intro w10 h11
    exact mm_none
  | succ n ih =>
    intro w10 h11
    rw [gX10_writeBatches_L27]
    refine me_iload_n (pc' := 28) (i := 2) dX10_writeBatches_27 rfl rfl rfl ?_
    refine me_aload_n (pc' := 29) (i := 0) dX10_writeBatches_28 rfl rfl rfl ?_
    refine me_getR (pc' := 32) (q' := 347) dX10_writeBatches_29 rfl fkX10_72 kd_0 (mm_ltq kd_0) rfl (mrX10_10 kd_0) ?_
    refine me_getI (pc' := 35) dX10_writeBatches_32 rfl fkX10_231 kd_347 (mm_ltq kd_347) rfl ?_
    refine me_icmp_ge (pc' := 38) (tgt := 72) dX10_writeBatches_35 (by decide) rfl (fun c12 => ?_) (fun c12 => ?_)
    · refine me_aload_n (pc' := 73) (i := 0) dX10_writeBatches_72 rfl rfl rfl ?_
      refine me_getR (pc' := 76) (q' := 3) dX10_writeBatches_73 rfl fkX10_18 kd_0 (mm_ltq kd_0) rfl (mrX10_1 kd_0) ?_
      refine me_getI (pc' := 79) dX10_writeBatches_76 rfl fkX10_90 kd_3 (mm_ltq kd_3) rfl ?_
      exact me_iret dX10_writeBatches_79 rfl (fun z => z) rfl
    · refine me_iload_n (pc' := 39) (i := 2) dX10_writeBatches_38 rfl rfl rfl ?_
      refine mm_jnI (fun (j149 : mm_H → Option ((Int32 ⊕ String) × mm_H)) => ∀ (h13 : mm_H), mm_E2 (mm_Sq q) (mm_Sq q) mX10_writeBatches 51 [some (.ref 0), none, some (.int w10)] [] h13 (j149 h13) lf_it) ?_ (fun j14 j14p => ?_)
      · intro h13
        refine me_aload_n (pc' := 52) (i := 0) dX10_writeBatches_51 rfl rfl rfl ?_
        refine me_aload_n (pc' := 53) (i := 0) dX10_writeBatches_52 rfl rfl rfl ?_
        refine me_getR (pc' := 56) (q' := 347) dX10_writeBatches_53 rfl fkX10_72 kd_0 (mm_ltq kd_0) rfl (mrX10_10 kd_0) ?_
        refine me_getR (pc' := 59) (q' := 348) dX10_writeBatches_56 rfl fkX10_234 kd_347 (mm_ltq kd_347) rfl (mrX0_1 kd_347) ?_
        refine me_iload_n (pc' := 60) (i := 2) dX10_writeBatches_59 rfl rfl rfl ?_
        refine me_callV (As := [.int w10]) (st := [.ref 0]) (F' := (mm_Sq q)) (G' := (mm_Sq q)) (F'' := (mm_Sq q)) (pc' := 63) dX10_writeBatches_60 rfl mfX4_get rfl lkX10_152 kd_348 rfl (mm_ltq kd_348) ⟨Nat.le_of_ble_eq_true rfl, Nat.le_of_ble_eq_true rfl⟩ (Nat.le_of_ble_eq_true rfl) (fun z => z) (rX4_get (q := q) 348 w10 h13 kd_348) (fun x15 e16 => Or.inl ⟨_, _, rfl, fun z => z, ?_⟩)
        show mm_E2 _ _ _ _ _ [.int x15, .ref 0] h13 _ _
        refine me_callV (As := [.int x15]) (st := []) (F' := (mm_Sq q)) (G' := (mm_Sq q)) (F'' := (mm_Sq q)) (pc' := 66) dX10_writeBatches_63 rfl mfX10_writeBatch rfl lkX10_392 kd_0 rfl (mm_ltq kd_0) ⟨Nat.le_of_ble_eq_true rfl, Nat.le_of_ble_eq_true rfl⟩ (Nat.le_of_ble_eq_true rfl) (fun z => z) (rX10_writeBatch (q := q) x15 h13 ) (fun h17 e18 => Or.inl ⟨_, _, rfl, fun z => z, ?_⟩)
        show mm_E2 _ _ _ _ _ [] h17 _ _
        refine me_iinc (pc' := 69) (i := 2) (x := w10) (y := w10 + 1) (L' := [some (.ref 0), none, some (.int (w10 + 1))]) dX10_writeBatches_66 rfl (Nat.le_of_ble_eq_true rfl) (Nat.le_of_ble_eq_true rfl) rfl (kc_plus kc_i1) rfl ?_
        refine mm_bnd (w10 + 1) (fun x19 => [some (.ref 0), none, some (.int x19)]) (fun _ => []) (fun _ => h17) (fun x19 => ?_)
        refine me_goto (tgt := 27) dX10_writeBatches_69 (by decide) ?_
        exact ih x19 h17
      refine me_if_le (pc' := 42) (tgt := 51) dX10_writeBatches_39 (by decide) rfl (fun c20 => ?_) (fun c20 => ?_)
      · exact j14p h11
      · refine me_aload_n (pc' := 43) (i := 0) dX10_writeBatches_42 rfl rfl rfl ?_
        refine me_getR (pc' := 46) (q' := 3) dX10_writeBatches_43 rfl fkX10_18 kd_0 (mm_ltq kd_0) rfl (mrX10_1 kd_0) ?_
        refine me_bipush (pc' := 48) (v := 32) dX10_writeBatches_46 rfl kc_b32 ?_
        refine me_callV (As := [.int 32]) (st := []) (F' := (mm_Sq q)) (G' := (mm_Sq q)) (F'' := (mm_Sq q)) (pc' := 51) dX10_writeBatches_48 rfl mfX8_addByte rfl lkX10_389 kd_3 rfl (mm_ltq kd_3) ⟨Nat.le_of_ble_eq_true rfl, Nat.le_of_ble_eq_true rfl⟩ (Nat.le_of_ble_eq_true rfl) (fun z => z) (rX8_addByte (q := q) 3 32 h11 kd_3) (fun h21 e22 => Or.inl ⟨_, _, rfl, fun z => z, ?_⟩)
        show mm_E2 _ _ _ _ _ [] h21 _ _
        exact j14p h21
theorem rX10_writeBatches {q : Nat × Nat} (p0 : Int32) (h : mm_H) : mm_R2 (mm_Sq q) (mm_Sq q) mX10_writeBatches [.ref 0, .int p0] h (gX10_writeBatches p0 h) lf_it := by
  refine mm_body (L := [some (.ref 0), some (.int p0), none]) rfl (by decide +kernel) (Nat.le_of_ble_eq_true rfl) rfl ?_
  unfold gX10_writeBatches
  refine me_aload_n (pc' := 1) (i := 0) dX10_writeBatches_0 rfl rfl rfl ?_
  refine me_iload_n (pc' := 2) (i := 1) dX10_writeBatches_1 rfl rfl rfl ?_
  refine me_callV (As := [.int p0]) (st := []) (F' := (mm_Sq q)) (G' := (mm_Sq q)) (F'' := (mm_Sq q)) (pc' := 5) dX10_writeBatches_2 rfl mfX10_checkProduct rfl lkX10_145 kd_0 rfl (mm_ltq kd_0) ⟨Nat.le_of_ble_eq_true rfl, Nat.le_of_ble_eq_true rfl⟩ (Nat.le_of_ble_eq_true rfl) (fun z => z) (rX10_checkProduct (q := q) p0 h ) (fun x1 e2 => ?_)
  rcases x1 with ⟨v3 | E5, h4⟩
  · refine Or.inl ⟨_, _, rfl, fun z => z, ?_⟩
    show mm_E2 _ _ _ _ _ [] h4 _ _
    try dsimp only
    refine me_aload_n (pc' := 6) (i := 0) dX10_writeBatches_5 rfl rfl rfl ?_
    refine me_getR (pc' := 9) (q' := 3) dX10_writeBatches_6 rfl fkX10_18 kd_0 (mm_ltq kd_0) rfl (mrX10_1 kd_0) ?_
    refine me_iconst (pc' := 10) (v := 0) dX10_writeBatches_9 rfl kc_i0 ?_
    refine me_callV (As := [.int 0]) (st := []) (F' := (mm_Sq q)) (G' := (mm_Sq q)) (F'' := (mm_Sq q)) (pc' := 13) dX10_writeBatches_10 rfl mfX8_cutTo rfl lkX10_108 kd_3 rfl (mm_ltq kd_3) ⟨Nat.le_of_ble_eq_true rfl, Nat.le_of_ble_eq_true rfl⟩ (Nat.le_of_ble_eq_true rfl) (fun z => z) (rX8_cutTo (q := q) 3 0 h4 kd_3) (fun h6 e7 => Or.inl ⟨_, _, rfl, fun z => z, ?_⟩)
    show mm_E2 _ _ _ _ _ [] h6 _ _
    refine me_aload_n (pc' := 14) (i := 0) dX10_writeBatches_13 rfl rfl rfl ?_
    refine me_getR (pc' := 17) (q' := 21) dX10_writeBatches_14 rfl fkX10_45 kd_0 (mm_ltq kd_0) rfl (mrX10_5 kd_0) ?_
    refine me_aload_n (pc' := 18) (i := 0) dX10_writeBatches_17 rfl rfl rfl ?_
    refine me_getR (pc' := 21) (q' := 347) dX10_writeBatches_18 rfl fkX10_72 kd_0 (mm_ltq kd_0) rfl (mrX10_10 kd_0) ?_
    refine me_iload_n (pc' := 22) (i := 1) dX10_writeBatches_21 rfl rfl rfl ?_
    refine me_callV (As := [.ref 347, .int p0]) (st := []) (F' := (mm_Sq q)) (G' := (mm_Sq q)) (F'' := (mm_Sq q)) (pc' := 25) dX10_writeBatches_22 rfl mfX7_collectInStock rfl lkX10_385 kd_21 rfl (mm_ltq kd_21) ⟨Nat.le_of_ble_eq_true rfl, Nat.le_of_ble_eq_true rfl⟩ (Nat.le_of_ble_eq_true rfl) (fun z => z) (rX7_collectInStock (q := q) 21 p0 h6 kd_21) (fun h8 e9 => Or.inl ⟨_, _, rfl, fun z => z, ?_⟩)
    show mm_E2 _ _ _ _ _ [] h8 _ _
    refine me_iconst (pc' := 26) (v := 0) dX10_writeBatches_25 rfl kc_i0 ?_
    refine me_istore_n (pc' := 27) (i := 2) (L' := [some (.ref 0), some (.int p0), some (.int 0)]) dX10_writeBatches_26 rfl rfl (Nat.le_of_ble_eq_true rfl) (Nat.le_of_ble_eq_true rfl) rfl ?_
    exact mm_maskB [true, false, true] (rX10_writeBatches_L27 (q := q) mm_F 0 h8)
  · exact Or.inr ⟨_, _, rfl, rfl, fun z => z, fun y9 hy9 => by rw [← Option.some.inj hy9]; rfl⟩
def gX10_outputByte (p0 : Int32) (h : mm_H) : Option ((Int32 ⊕ String) × mm_H) :=
(gX10_isOutside p0 0 (((mh_I h 3 1) - 1)) h).bind (fun (x1 : Bool) =>
if x1 = true then
some (.inr "java/lang/IndexOutOfBoundsException", ms_X h)
else
(gX8_byteAt 3 p0 h).bind (fun (x4 : Int32) =>
some (.inl x4, h)))
theorem rX10_outputByte {q : Nat × Nat} (p0 : Int32) (h : mm_H) : mm_R2 (mm_Sq q) (mm_Sq q) mX10_outputByte [.ref 0, .int p0] h (gX10_outputByte p0 h) lf_it := by
  refine mm_body (L := [some (.ref 0), some (.int p0)]) rfl (by decide +kernel) (Nat.le_of_ble_eq_true rfl) rfl ?_
  unfold gX10_outputByte
  refine me_iload_n (pc' := 1) (i := 1) dX10_outputByte_0 rfl rfl rfl ?_
  refine me_iconst (pc' := 2) (v := 0) dX10_outputByte_1 rfl kc_i0 ?_
  refine me_aload_n (pc' := 3) (i := 0) dX10_outputByte_2 rfl rfl rfl ?_
  refine me_getR (pc' := 6) (q' := 3) dX10_outputByte_3 rfl fkX10_18 kd_0 (mm_ltq kd_0) rfl (mrX10_1 kd_0) ?_
  refine me_getI (pc' := 9) dX10_outputByte_6 rfl fkX10_90 kd_3 (mm_ltq kd_3) rfl ?_
  refine me_iconst (pc' := 10) (v := 1) dX10_outputByte_9 rfl kc_i1 ?_
  refine me_isub (pc' := 11) dX10_outputByte_10 rfl ?_
  refine me_callS (As := [.int p0, .int 0, .int ((mh_I h 3 1) - 1)]) (st := []) (F' := (mm_Sq q)) (G' := (mm_Sq q)) (F'' := (mm_Sq q)) (pc' := 14) dX10_outputByte_11 rfl mfX10_isOutside rfl lkX10_158 ⟨Nat.le_of_ble_eq_true rfl, Nat.le_of_ble_eq_true rfl⟩ (Nat.le_of_ble_eq_true rfl) (fun z => z) (rX10_isOutside (q := q) p0 0 (((mh_I h 3 1) - 1)) h ) (fun x1 e2 => Or.inl ⟨_, _, rfl, fun z => z, ?_⟩)
  show mm_E2 _ _ _ _ _ [.int (mx_bi x1)] h _ _
  refine me_ifB_eq (pc' := 17) (tgt := 28) dX10_outputByte_14 (by decide) rfl (fun c3 => ?_) (fun c3 => ?_)
  · refine me_aload_n (pc' := 29) (i := 0) dX10_outputByte_28 rfl rfl rfl ?_
    refine me_getR (pc' := 32) (q' := 3) dX10_outputByte_29 rfl fkX10_18 kd_0 (mm_ltq kd_0) rfl (mrX10_1 kd_0) ?_
    refine me_iload_n (pc' := 33) (i := 1) dX10_outputByte_32 rfl rfl rfl ?_
    refine me_callV (As := [.int p0]) (st := []) (F' := (mm_Sq q)) (G' := (mm_Sq q)) (F'' := (mm_Sq q)) (pc' := 36) dX10_outputByte_33 rfl mfX8_byteAt rfl lkX10_397 kd_3 rfl (mm_ltq kd_3) ⟨Nat.le_of_ble_eq_true rfl, Nat.le_of_ble_eq_true rfl⟩ (Nat.le_of_ble_eq_true rfl) (fun z => z) (rX8_byteAt (q := q) 3 p0 h kd_3) (fun x4 e5 => Or.inl ⟨_, _, rfl, fun z => z, ?_⟩)
    show mm_E2 _ _ _ _ _ [.int x4] h _ _
    exact me_iret dX10_outputByte_36 rfl (fun z => z) rfl
  · exact me_throwW dX10_outputByte_17 dX10_outputByte_20 dX10_outputByte_21 dX10_outputByte_24 dX10_outputByte_27 rfl rfl (fun z => z) twX10_166 sr_29 (Nat.le_of_ble_eq_true rfl) (Nat.le_of_ble_eq_true rfl)
end MMWC

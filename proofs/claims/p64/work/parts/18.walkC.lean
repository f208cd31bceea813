section MMWC
/-! printed walks (gen16.py, dec.py) -/
def gX10_missing (p0 : Int32) (h : mm_H) : Option ((Int32 ⊕ String) × mm_H) :=
(gX10_checkReservation p0 h).bind (fun (x1 : ((Unit ⊕ String) × mm_H)) => match x1 with
| (.inl _, h4) =>
(gX7_missingUnits 21 p0 h4).bind (fun (x6 : Int32) =>
some (.inl x6, h4))
| (.inr E5, h4) => some (.inr E5, h4))
theorem rX10_missing {q : mm_q} (p0 : Int32) (h : mm_H) : mm_R2 (mm_Sq q) (mm_Sq q) mX10_missing [.ref 0, .int p0] h (gX10_missing p0 h) lf_it := by
  refine mm_body (L := [some (.ref 0), some (.int p0)]) rfl (by decide +kernel) (Nat.le_of_ble_eq_true rfl) rfl ?_
  unfold gX10_missing
  refine me_aload_n (pc' := 1) (i := 0) dX10_missing_0 rfl rfl rfl ?_
  refine me_iload_n (pc' := 2) (i := 1) dX10_missing_1 rfl rfl rfl ?_
  refine me_callV (As := [.int p0]) (st := []) (F' := (mm_Sq q)) (G' := (mm_Sq q)) (F'' := (mm_Sq q)) (pc' := 5) dX10_missing_2 rfl mfX10_checkReservation rfl lkX10_243 (mm_ks kd_0) rfl (mm_ltq kd_0) ⟨Nat.le_of_ble_eq_true rfl, Nat.le_of_ble_eq_true rfl⟩ (Nat.le_of_ble_eq_true rfl) (fun z => z) (rX10_checkReservation (q := q) p0 h ) (fun x1 e2 => ?_)
  rcases x1 with ⟨v3 | E5, h4⟩
  · refine Or.inl ⟨_, _, rfl, fun z => z, ?_⟩
    show mm_E2 _ _ _ _ _ [] h4 _ _
    try dsimp only
    refine me_aload_n (pc' := 6) (i := 0) dX10_missing_5 rfl rfl rfl ?_
    refine me_getR (pc' := 9) (q' := 21) dX10_missing_6 rfl fkX10_45 (mm_ks kd_0) (mm_ltq kd_0) rfl (mrX10_5 kd_0) ?_
    refine me_iload_n (pc' := 10) (i := 1) dX10_missing_9 rfl rfl rfl ?_
    refine me_callV (As := [.int p0]) (st := []) (F' := (mm_Sq q)) (G' := (mm_Sq q)) (F'' := (mm_Sq q)) (pc' := 13) dX10_missing_10 rfl mfX7_missingUnits rfl lkX10_255 (mm_ks kd_21) rfl (mm_ltq kd_21) ⟨Nat.le_of_ble_eq_true rfl, Nat.le_of_ble_eq_true rfl⟩ (Nat.le_of_ble_eq_true rfl) (fun z => z) (rX7_missingUnits (q := q) 21 p0 h4 kd_21) (fun x6 e7 => Or.inl ⟨_, _, rfl, fun z => z, ?_⟩)
    show mm_E2 _ _ _ _ _ [.int x6] h4 _ _
    exact me_iret dX10_missing_13 rfl (fun z => z) rfl
  · exact Or.inr ⟨_, _, rfl, rfl, fun z => z, fun y9 hy9 => by rw [← Option.some.inj hy9]; rfl⟩
def gX10_allocation (p0 : Int32) (p1 : Int32) (h : mm_H) : Option ((Int32 ⊕ String) × mm_H) :=
(gX10_checkReservation p0 h).bind (fun (x1 : ((Unit ⊕ String) × mm_H)) => match x1 with
| (.inl _, h4) =>
(gX10_checkBatch p1 h4).bind (fun (x6 : ((Unit ⊕ String) × mm_H)) => match x6 with
| (.inl _, h9) =>
(gX7_allocatedUnits 21 p0 p1 h9).bind (fun (x11 : Int32) =>
some (.inl x11, h9))
| (.inr E10, h9) => some (.inr E10, h9))
| (.inr E5, h4) => some (.inr E5, h4))
theorem rX10_allocation {q : mm_q} (p0 : Int32) (p1 : Int32) (h : mm_H) : mm_R2 (mm_Sq q) (mm_Sq q) mX10_allocation [.ref 0, .int p0, .int p1] h (gX10_allocation p0 p1 h) lf_it := by
  refine mm_body (L := [some (.ref 0), some (.int p0), some (.int p1)]) rfl (by decide +kernel) (Nat.le_of_ble_eq_true rfl) rfl ?_
  unfold gX10_allocation
  refine me_aload_n (pc' := 1) (i := 0) dX10_allocation_0 rfl rfl rfl ?_
  refine me_iload_n (pc' := 2) (i := 1) dX10_allocation_1 rfl rfl rfl ?_
  refine me_callV (As := [.int p0]) (st := []) (F' := (mm_Sq q)) (G' := (mm_Sq q)) (F'' := (mm_Sq q)) (pc' := 5) dX10_allocation_2 rfl mfX10_checkReservation rfl lkX10_243 (mm_ks kd_0) rfl (mm_ltq kd_0) ⟨Nat.le_of_ble_eq_true rfl, Nat.le_of_ble_eq_true rfl⟩ (Nat.le_of_ble_eq_true rfl) (fun z => z) (rX10_checkReservation (q := q) p0 h ) (fun x1 e2 => ?_)
  rcases x1 with ⟨v3 | E5, h4⟩
  · refine Or.inl ⟨_, _, rfl, fun z => z, ?_⟩
    show mm_E2 _ _ _ _ _ [] h4 _ _
    try dsimp only
    refine me_aload_n (pc' := 6) (i := 0) dX10_allocation_5 rfl rfl rfl ?_
    refine me_iload_n (pc' := 7) (i := 2) dX10_allocation_6 rfl rfl rfl ?_
    refine me_callV (As := [.int p1]) (st := []) (F' := (mm_Sq q)) (G' := (mm_Sq q)) (F'' := (mm_Sq q)) (pc' := 10) dX10_allocation_7 rfl mfX10_checkBatch rfl lkX10_205 (mm_ks kd_0) rfl (mm_ltq kd_0) ⟨Nat.le_of_ble_eq_true rfl, Nat.le_of_ble_eq_true rfl⟩ (Nat.le_of_ble_eq_true rfl) (fun z => z) (rX10_checkBatch (q := q) p1 h4 ) (fun x6 e7 => ?_)
    rcases x6 with ⟨v8 | E10, h9⟩
    · refine Or.inl ⟨_, _, rfl, fun z => z, ?_⟩
      show mm_E2 _ _ _ _ _ [] h9 _ _
      try dsimp only
      refine me_aload_n (pc' := 11) (i := 0) dX10_allocation_10 rfl rfl rfl ?_
      refine me_getR (pc' := 14) (q' := 21) dX10_allocation_11 rfl fkX10_45 (mm_ks kd_0) (mm_ltq kd_0) rfl (mrX10_5 kd_0) ?_
      refine me_iload_n (pc' := 15) (i := 1) dX10_allocation_14 rfl rfl rfl ?_
      refine me_iload_n (pc' := 16) (i := 2) dX10_allocation_15 rfl rfl rfl ?_
      refine me_callV (As := [.int p0, .int p1]) (st := []) (F' := (mm_Sq q)) (G' := (mm_Sq q)) (F'' := (mm_Sq q)) (pc' := 19) dX10_allocation_16 rfl mfX7_allocatedUnits rfl lkX10_258 (mm_ks kd_21) rfl (mm_ltq kd_21) ⟨Nat.le_of_ble_eq_true rfl, Nat.le_of_ble_eq_true rfl⟩ (Nat.le_of_ble_eq_true rfl) (fun z => z) (rX7_allocatedUnits (q := q) 21 p0 p1 h9 kd_21) (fun x11 e12 => Or.inl ⟨_, _, rfl, fun z => z, ?_⟩)
      show mm_E2 _ _ _ _ _ [.int x11] h9 _ _
      exact me_iret dX10_allocation_19 rfl (fun z => z) rfl
    · exact Or.inr ⟨_, _, rfl, rfl, fun z => z, fun y9 hy9 => by rw [← Option.some.inj hy9]; rfl⟩
  · exact Or.inr ⟨_, _, rfl, rfl, fun z => z, fun y9 hy9 => by rw [← Option.some.inj hy9]; rfl⟩
def gX10_whyNotShipped (p0 : Int32) (h : mm_H) : Option ((Int32 ⊕ String) × mm_H) :=
(gX10_checkReservation p0 h).bind (fun (x1 : ((Unit ⊕ String) × mm_H)) => match x1 with
| (.inl _, h4) =>
(gX7_shippingObstacle 21 p0 h4).bind (fun (x6 : Int32) =>
some (.inl x6, h4))
| (.inr E5, h4) => some (.inr E5, h4))
theorem rX10_whyNotShipped {q : mm_q} (p0 : Int32) (h : mm_H) : mm_R2 (mm_Sq q) (mm_Sq q) mX10_whyNotShipped [.ref 0, .int p0] h (gX10_whyNotShipped p0 h) lf_it := by
  refine mm_body (L := [some (.ref 0), some (.int p0)]) rfl (by decide +kernel) (Nat.le_of_ble_eq_true rfl) rfl ?_
  unfold gX10_whyNotShipped
  refine me_aload_n (pc' := 1) (i := 0) dX10_whyNotShipped_0 rfl rfl rfl ?_
  refine me_iload_n (pc' := 2) (i := 1) dX10_whyNotShipped_1 rfl rfl rfl ?_
  refine me_callV (As := [.int p0]) (st := []) (F' := (mm_Sq q)) (G' := (mm_Sq q)) (F'' := (mm_Sq q)) (pc' := 5) dX10_whyNotShipped_2 rfl mfX10_checkReservation rfl lkX10_243 (mm_ks kd_0) rfl (mm_ltq kd_0) ⟨Nat.le_of_ble_eq_true rfl, Nat.le_of_ble_eq_true rfl⟩ (Nat.le_of_ble_eq_true rfl) (fun z => z) (rX10_checkReservation (q := q) p0 h ) (fun x1 e2 => ?_)
  rcases x1 with ⟨v3 | E5, h4⟩
  · refine Or.inl ⟨_, _, rfl, fun z => z, ?_⟩
    show mm_E2 _ _ _ _ _ [] h4 _ _
    try dsimp only
    refine me_aload_n (pc' := 6) (i := 0) dX10_whyNotShipped_5 rfl rfl rfl ?_
    refine me_getR (pc' := 9) (q' := 21) dX10_whyNotShipped_6 rfl fkX10_45 (mm_ks kd_0) (mm_ltq kd_0) rfl (mrX10_5 kd_0) ?_
    refine me_iload_n (pc' := 10) (i := 1) dX10_whyNotShipped_9 rfl rfl rfl ?_
    refine me_callV (As := [.int p0]) (st := []) (F' := (mm_Sq q)) (G' := (mm_Sq q)) (F'' := (mm_Sq q)) (pc' := 13) dX10_whyNotShipped_10 rfl mfX7_shippingObstacle rfl lkX10_261 (mm_ks kd_21) rfl (mm_ltq kd_21) ⟨Nat.le_of_ble_eq_true rfl, Nat.le_of_ble_eq_true rfl⟩ (Nat.le_of_ble_eq_true rfl) (fun z => z) (rX7_shippingObstacle (q := q) 21 p0 h4 kd_21) (fun x6 e7 => Or.inl ⟨_, _, rfl, fun z => z, ?_⟩)
    show mm_E2 _ _ _ _ _ [.int x6] h4 _ _
    exact me_iret dX10_whyNotShipped_13 rfl (fun z => z) rfl
  · exact Or.inr ⟨_, _, rfl, rfl, fun z => z, fun y9 hy9 => by rw [← Option.some.inj hy9]; rfl⟩
def gX10_inconsistencies_L45 (h : mm_H) : Nat → Int32 → Int32 → Option Int32
  | 0, _, _ => none
  | n + 1, w4, w5 =>
    if w5 < (mh_I h 21 1) then
    (gX7_freeUnitsIn 21 w5 h).bind (fun (x7 : Int32) =>
    mm_jn (fun (y9 : Int32) =>
    (some (w5 + 1)).bind (fun (x11 : Int32) =>
    gX10_inconsistencies_L45 h n y9 x11)) (fun (j10 : Int32 → Option Int32) =>
    if x7 < 0 then
    (some (w4 + 1)).bind (fun (x13 : Int32) =>
    j10 x13)
    else
    j10 w4))
    else
    some w4
def gX10_inconsistencies_L4 (h : mm_H) : Nat → Int32 → Int32 → Option Int32
  | 0, _, _ => none
  | n + 1, w1, w2 =>
    if w2 < (mh_I h 14 0) then
    (gX7_unitsOf 21 w2 h).bind (fun (x14 : Int32) =>
    (gX7_unitsByAccounts 21 w2 h).bind (fun (x16 : Int32) =>
    mm_jn (fun (y18 : Int32) =>
    (some (w2 + 1)).bind (fun (x20 : Int32) =>
    gX10_inconsistencies_L4 h n y18 x20)) (fun (j19 : Int32 → Option Int32) =>
    if x14 = x16 then
    j19 w1
    else
    (some (w1 + 1)).bind (fun (x22 : Int32) =>
    j19 x22))))
    else
    gX10_inconsistencies_L45 h mm_F w1 0
def gX10_inconsistencies (h : mm_H) : Option Int32 :=
gX10_inconsistencies_L4 h mm_F 0 0
theorem rX10_inconsistencies_L45 {q : mm_q}    (h : mm_H) : ∀ (n : Nat) (w4 : Int32) (w5 : Int32), mm_E2 (mm_Sq q) (mm_Sq q) mX10_inconsistencies 45 [some (.ref 0), some (.int w4), some (.int w5)] [] h (gX10_inconsistencies_L45 h n w4 w5) (lf_i h) := by
  intro n
  induction n with
  | zero =>
    intro w4 w5
    exact mm_none
  | succ n ih =>
    intro w4 w5
    rw [gX10_inconsistencies_L45]
    refine me_iload_n (pc' := 46) (i := 2) dX10_inconsistencies_45 rfl rfl rfl ?_
    refine me_aload_n (pc' := 47) (i := 0) dX10_inconsistencies_46 rfl rfl rfl ?_
    refine me_getR (pc' := 50) (q' := 21) dX10_inconsistencies_47 rfl fkX10_45 (mm_ks kd_0) (mm_ltq kd_0) rfl (mrX10_5 kd_0) ?_
    refine me_getI (pc' := 53) dX10_inconsistencies_50 rfl fkX10_202 (mm_ks kd_21) (mm_ltq kd_21) rfl ?_
    refine me_icmp_ge (pc' := 56) (tgt := 76) dX10_inconsistencies_53 (by decide) rfl (fun c6 => ?_) (fun c6 => ?_)
    · refine me_iload_n (pc' := 77) (i := 1) dX10_inconsistencies_76 rfl rfl rfl ?_
      exact me_iret dX10_inconsistencies_77 rfl (fun z => z) rfl
    · refine me_aload_n (pc' := 57) (i := 0) dX10_inconsistencies_56 rfl rfl rfl ?_
      refine me_getR (pc' := 60) (q' := 21) dX10_inconsistencies_57 rfl fkX10_45 (mm_ks kd_0) (mm_ltq kd_0) rfl (mrX10_5 kd_0) ?_
      refine me_iload_n (pc' := 61) (i := 2) dX10_inconsistencies_60 rfl rfl rfl ?_
      refine me_callV (As := [.int w5]) (st := []) (F' := (mm_Sq q)) (G' := (mm_Sq q)) (F'' := (mm_Sq q)) (pc' := 64) dX10_inconsistencies_61 rfl mfX7_freeUnitsIn rfl lkX10_285 (mm_ks kd_21) rfl (mm_ltq kd_21) ⟨Nat.le_of_ble_eq_true rfl, Nat.le_of_ble_eq_true rfl⟩ (Nat.le_of_ble_eq_true rfl) (fun z => z) (rX7_freeUnitsIn (q := q) 21 w5 h kd_21) (fun x7 e8 => Or.inl ⟨_, _, rfl, fun z => z, ?_⟩)
      show mm_E2 _ _ _ _ _ [.int x7] h _ _
      refine mm_jnI (fun (j109 : Int32 → Option Int32) => ∀ (y9 : Int32), mm_E2 (mm_Sq q) (mm_Sq q) mX10_inconsistencies 70 [some (.ref 0), some (.int y9), some (.int w5)] [] h (j109 y9) (lf_i h)) ?_ (fun j10 j10p => ?_)
      · intro y9
        refine me_iinc (pc' := 73) (i := 2) (x := w5) (y := w5 + 1) (L' := [some (.ref 0), some (.int y9), some (.int (w5 + 1))]) dX10_inconsistencies_70 rfl (Nat.le_of_ble_eq_true rfl) (Nat.le_of_ble_eq_true rfl) rfl (kc_plus kc_i1) rfl ?_
        refine mm_bnd (w5 + 1) (fun x11 => [some (.ref 0), some (.int y9), some (.int x11)]) (fun _ => []) (fun _ => h) (fun x11 => ?_)
        refine me_goto (tgt := 45) dX10_inconsistencies_73 (by decide) ?_
        exact ih y9 x11
      refine me_if_ge (pc' := 67) (tgt := 70) dX10_inconsistencies_64 (by decide) rfl (fun c12 => ?_) (fun c12 => ?_)
      · exact j10p w4
      · refine me_iinc (pc' := 70) (i := 1) (x := w4) (y := w4 + 1) (L' := [some (.ref 0), some (.int (w4 + 1)), some (.int w5)]) dX10_inconsistencies_67 rfl (Nat.le_of_ble_eq_true rfl) (Nat.le_of_ble_eq_true rfl) rfl (kc_plus kc_i1) rfl ?_
        refine mm_bnd (w4 + 1) (fun x13 => [some (.ref 0), some (.int x13), some (.int w5)]) (fun _ => []) (fun _ => h) (fun x13 => ?_)
        exact j10p x13
theorem rX10_inconsistencies_L4 {q : mm_q}    (h : mm_H) : ∀ (n : Nat) (w1 : Int32) (w2 : Int32), mm_E2 (mm_Sq q) (mm_Sq q) mX10_inconsistencies 4 [some (.ref 0), some (.int w1), some (.int w2)] [] h (gX10_inconsistencies_L4 h n w1 w2) (lf_i h) := by
  intro n
  induction n with
  | zero =>
    intro w1 w2
    exact mm_none
  | succ n ih =>
    intro w1 w2
    rw [gX10_inconsistencies_L4]
    refine me_iload_n (pc' := 5) (i := 2) dX10_inconsistencies_4 rfl rfl rfl ?_
    refine me_aload_n (pc' := 6) (i := 0) dX10_inconsistencies_5 rfl rfl rfl ?_
    refine me_getR (pc' := 9) (q' := 14) dX10_inconsistencies_6 rfl fkX10_38 (mm_ks kd_0) (mm_ltq kd_0) rfl (mrX10_4 kd_0) ?_
    refine me_getI (pc' := 12) dX10_inconsistencies_9 rfl fkX10_133 (mm_ks kd_14) (mm_ltq kd_14) rfl ?_
    refine me_icmp_ge (pc' := 15) (tgt := 43) dX10_inconsistencies_12 (by decide) rfl (fun c3 => ?_) (fun c3 => ?_)
    · refine me_iconst (pc' := 44) (v := 0) dX10_inconsistencies_43 rfl kc_i0 ?_
      refine me_istore_n (pc' := 45) (i := 2) (L' := [some (.ref 0), some (.int w1), some (.int 0)]) dX10_inconsistencies_44 rfl rfl (Nat.le_of_ble_eq_true rfl) (Nat.le_of_ble_eq_true rfl) rfl ?_
      exact rX10_inconsistencies_L45 (q := q) h mm_F w1 0
    · refine me_aload_n (pc' := 16) (i := 0) dX10_inconsistencies_15 rfl rfl rfl ?_
      refine me_getR (pc' := 19) (q' := 21) dX10_inconsistencies_16 rfl fkX10_45 (mm_ks kd_0) (mm_ltq kd_0) rfl (mrX10_5 kd_0) ?_
      refine me_iload_n (pc' := 20) (i := 2) dX10_inconsistencies_19 rfl rfl rfl ?_
      refine me_callV (As := [.int w2]) (st := []) (F' := (mm_Sq q)) (G' := (mm_Sq q)) (F'' := (mm_Sq q)) (pc' := 23) dX10_inconsistencies_20 rfl mfX7_unitsOf rfl lkX10_183 (mm_ks kd_21) rfl (mm_ltq kd_21) ⟨Nat.le_of_ble_eq_true rfl, Nat.le_of_ble_eq_true rfl⟩ (Nat.le_of_ble_eq_true rfl) (fun z => z) (rX7_unitsOf (q := q) 21 w2 h kd_21) (fun x14 e15 => Or.inl ⟨_, _, rfl, fun z => z, ?_⟩)
      show mm_E2 _ _ _ _ _ [.int x14] h _ _
      refine me_aload_n (pc' := 24) (i := 0) dX10_inconsistencies_23 rfl rfl rfl ?_
      refine me_getR (pc' := 27) (q' := 21) dX10_inconsistencies_24 rfl fkX10_45 (mm_ks kd_0) (mm_ltq kd_0) rfl (mrX10_5 kd_0) ?_
      refine me_iload_n (pc' := 28) (i := 2) dX10_inconsistencies_27 rfl rfl rfl ?_
      refine me_callV (As := [.int w2]) (st := [.int x14]) (F' := (mm_Sq q)) (G' := (mm_Sq q)) (F'' := (mm_Sq q)) (pc' := 31) dX10_inconsistencies_28 rfl mfX7_unitsByAccounts rfl lkX10_282 (mm_ks kd_21) rfl (mm_ltq kd_21) ⟨Nat.le_of_ble_eq_true rfl, Nat.le_of_ble_eq_true rfl⟩ (Nat.le_of_ble_eq_true rfl) (fun z => z) (rX7_unitsByAccounts (q := q) 21 w2 h kd_21) (fun x16 e17 => Or.inl ⟨_, _, rfl, fun z => z, ?_⟩)
      show mm_E2 _ _ _ _ _ [.int x16, .int x14] h _ _
      refine mm_jnI (fun (j199 : Int32 → Option Int32) => ∀ (y18 : Int32), mm_E2 (mm_Sq q) (mm_Sq q) mX10_inconsistencies 37 [some (.ref 0), some (.int y18), some (.int w2)] [] h (j199 y18) (lf_i h)) ?_ (fun j19 j19p => ?_)
      · intro y18
        refine me_iinc (pc' := 40) (i := 2) (x := w2) (y := w2 + 1) (L' := [some (.ref 0), some (.int y18), some (.int (w2 + 1))]) dX10_inconsistencies_37 rfl (Nat.le_of_ble_eq_true rfl) (Nat.le_of_ble_eq_true rfl) rfl (kc_plus kc_i1) rfl ?_
        refine mm_bnd (w2 + 1) (fun x20 => [some (.ref 0), some (.int y18), some (.int x20)]) (fun _ => []) (fun _ => h) (fun x20 => ?_)
        refine me_goto (tgt := 4) dX10_inconsistencies_40 (by decide) ?_
        exact ih y18 x20
      refine me_icmp_eq (pc' := 34) (tgt := 37) dX10_inconsistencies_31 (by decide) rfl (fun c21 => ?_) (fun c21 => ?_)
      · exact j19p w1
      · refine me_iinc (pc' := 37) (i := 1) (x := w1) (y := w1 + 1) (L' := [some (.ref 0), some (.int (w1 + 1)), some (.int w2)]) dX10_inconsistencies_34 rfl (Nat.le_of_ble_eq_true rfl) (Nat.le_of_ble_eq_true rfl) rfl (kc_plus kc_i1) rfl ?_
        refine mm_bnd (w1 + 1) (fun x22 => [some (.ref 0), some (.int x22), some (.int w2)]) (fun _ => []) (fun _ => h) (fun x22 => ?_)
        exact j19p x22
theorem rX10_inconsistencies {q : mm_q} (h : mm_H) : mm_R2 (mm_Sq q) (mm_Sq q) mX10_inconsistencies [.ref 0] h (gX10_inconsistencies h) (lf_i h) := by
  refine mm_body (L := [some (.ref 0), none, none]) rfl (by decide +kernel) (Nat.le_of_ble_eq_true rfl) rfl ?_
  unfold gX10_inconsistencies
  refine me_iconst (pc' := 1) (v := 0) dX10_inconsistencies_0 rfl kc_i0 ?_
  refine me_istore_n (pc' := 2) (i := 1) (L' := [some (.ref 0), some (.int 0), none]) dX10_inconsistencies_1 rfl rfl (Nat.le_of_ble_eq_true rfl) (Nat.le_of_ble_eq_true rfl) rfl ?_
  refine me_iconst (pc' := 3) (v := 0) dX10_inconsistencies_2 rfl kc_i0 ?_
  refine me_istore_n (pc' := 4) (i := 2) (L' := [some (.ref 0), some (.int 0), some (.int 0)]) dX10_inconsistencies_3 rfl rfl (Nat.le_of_ble_eq_true rfl) (Nat.le_of_ble_eq_true rfl) rfl ?_
  exact rX10_inconsistencies_L4 (q := q) h mm_F 0 0
def gX10_refusalOfReceive (p0 : Int32) (p1 : Int32) (p2 : Int32) (p3 : Int32) (h : mm_H) : Option Int32 :=
(gX1_hasProduct 14 p0 h).bind (fun (x1 : Bool) =>
if x1 = true then
(gX10_isOutside p1 1 999 h).bind (fun (x4 : Bool) =>
if x4 = true then
some 2
else
(gX10_isOutside p2 0 9999 h).bind (fun (x7 : Bool) =>
if x7 = true then
some 2
else
(gX10_isOutside p3 1 999 h).bind (fun (x10 : Bool) =>
if x10 = true then
some 2
else
if (mh_I h 21 1) < 20 then
some 0
else
some 3)))
else
some 1)
theorem rX10_refusalOfReceive {q : mm_q} (p0 : Int32) (p1 : Int32) (p2 : Int32) (p3 : Int32) (h : mm_H) : mm_R2 (mm_Sq q) (mm_Sq q) mX10_refusalOfReceive [.ref 0, .int p0, .int p1, .int p2, .int p3] h (gX10_refusalOfReceive p0 p1 p2 p3 h) (lf_i h) := by
  refine mm_body (L := [some (.ref 0), some (.int p0), some (.int p1), some (.int p2), some (.int p3)]) rfl (by decide +kernel) (Nat.le_of_ble_eq_true rfl) rfl ?_
  unfold gX10_refusalOfReceive
  refine me_aload_n (pc' := 1) (i := 0) dX10_refusalOfReceive_0 rfl rfl rfl ?_
  refine me_getR (pc' := 4) (q' := 14) dX10_refusalOfReceive_1 rfl fkX10_38 (mm_ks kd_0) (mm_ltq kd_0) rfl (mrX10_4 kd_0) ?_
  refine me_iload_n (pc' := 5) (i := 1) dX10_refusalOfReceive_4 rfl rfl rfl ?_
  refine me_callV (As := [.int p0]) (st := []) (F' := (mm_Sq q)) (G' := (mm_Sq q)) (F'' := (mm_Sq q)) (pc' := 8) dX10_refusalOfReceive_5 rfl mfX1_hasProduct rfl lkX10_402 (mm_ks kd_14) rfl (mm_ltq kd_14) ⟨Nat.le_of_ble_eq_true rfl, Nat.le_of_ble_eq_true rfl⟩ (Nat.le_of_ble_eq_true rfl) (fun z => z) (rX1_hasProduct (q := q) 14 p0 h kd_14) (fun x1 e2 => Or.inl ⟨_, _, rfl, fun z => z, ?_⟩)
  show mm_E2 _ _ _ _ _ [.int (mx_bi x1)] h _ _
  refine me_ifB_ne (pc' := 11) (tgt := 13) dX10_refusalOfReceive_8 (by decide) rfl (fun c3 => ?_) (fun c3 => ?_)
  · refine me_iload_n (pc' := 14) (i := 2) dX10_refusalOfReceive_13 rfl rfl rfl ?_
    refine me_iconst (pc' := 15) (v := 1) dX10_refusalOfReceive_14 rfl kc_i1 ?_
    refine me_sipush (pc' := 18) (v := 999) dX10_refusalOfReceive_15 rfl kc_s999 ?_
    refine me_callS (As := [.int p1, .int 1, .int 999]) (st := []) (F' := (mm_Sq q)) (G' := (mm_Sq q)) (F'' := (mm_Sq q)) (pc' := 21) dX10_refusalOfReceive_18 rfl mfX10_isOutside rfl lkX10_158 ⟨Nat.le_of_ble_eq_true rfl, Nat.le_of_ble_eq_true rfl⟩ (Nat.le_of_ble_eq_true rfl) (fun z => z) (rX10_isOutside (q := q) p1 1 999 h ) (fun x4 e5 => Or.inl ⟨_, _, rfl, fun z => z, ?_⟩)
    show mm_E2 _ _ _ _ _ [.int (mx_bi x4)] h _ _
    refine me_ifB_ne (pc' := 24) (tgt := 47) dX10_refusalOfReceive_21 (by decide) rfl (fun c6 => ?_) (fun c6 => ?_)
    · refine me_iconst (pc' := 48) (v := 2) dX10_refusalOfReceive_47 rfl kc_i2 ?_
      exact me_iret dX10_refusalOfReceive_48 rfl (fun z => z) rfl
    · refine me_iload_n (pc' := 25) (i := 3) dX10_refusalOfReceive_24 rfl rfl rfl ?_
      refine me_iconst (pc' := 26) (v := 0) dX10_refusalOfReceive_25 rfl kc_i0 ?_
      refine me_sipush (pc' := 29) (v := 9999) dX10_refusalOfReceive_26 rfl kc_s9999 ?_
      refine me_callS (As := [.int p2, .int 0, .int 9999]) (st := []) (F' := (mm_Sq q)) (G' := (mm_Sq q)) (F'' := (mm_Sq q)) (pc' := 32) dX10_refusalOfReceive_29 rfl mfX10_isOutside rfl lkX10_158 ⟨Nat.le_of_ble_eq_true rfl, Nat.le_of_ble_eq_true rfl⟩ (Nat.le_of_ble_eq_true rfl) (fun z => z) (rX10_isOutside (q := q) p2 0 9999 h ) (fun x7 e8 => Or.inl ⟨_, _, rfl, fun z => z, ?_⟩)
      show mm_E2 _ _ _ _ _ [.int (mx_bi x7)] h _ _
      refine me_ifB_ne (pc' := 35) (tgt := 47) dX10_refusalOfReceive_32 (by decide) rfl (fun c9 => ?_) (fun c9 => ?_)
      · refine me_iconst (pc' := 48) (v := 2) dX10_refusalOfReceive_47 rfl kc_i2 ?_
        exact me_iret dX10_refusalOfReceive_48 rfl (fun z => z) rfl
      · refine me_iload (pc' := 37) (i := 4) dX10_refusalOfReceive_35 rfl rfl ?_
        refine me_iconst (pc' := 38) (v := 1) dX10_refusalOfReceive_37 rfl kc_i1 ?_
        refine me_sipush (pc' := 41) (v := 999) dX10_refusalOfReceive_38 rfl kc_s999 ?_
        refine me_callS (As := [.int p3, .int 1, .int 999]) (st := []) (F' := (mm_Sq q)) (G' := (mm_Sq q)) (F'' := (mm_Sq q)) (pc' := 44) dX10_refusalOfReceive_41 rfl mfX10_isOutside rfl lkX10_158 ⟨Nat.le_of_ble_eq_true rfl, Nat.le_of_ble_eq_true rfl⟩ (Nat.le_of_ble_eq_true rfl) (fun z => z) (rX10_isOutside (q := q) p3 1 999 h ) (fun x10 e11 => Or.inl ⟨_, _, rfl, fun z => z, ?_⟩)
        show mm_E2 _ _ _ _ _ [.int (mx_bi x10)] h _ _
        refine me_ifB_eq (pc' := 47) (tgt := 49) dX10_refusalOfReceive_44 (by decide) rfl (fun c12 => ?_) (fun c12 => ?_)
        · refine me_aload_n (pc' := 50) (i := 0) dX10_refusalOfReceive_49 rfl rfl rfl ?_
          refine me_getR (pc' := 53) (q' := 21) dX10_refusalOfReceive_50 rfl fkX10_45 (mm_ks kd_0) (mm_ltq kd_0) rfl (mrX10_5 kd_0) ?_
          refine me_getI (pc' := 56) dX10_refusalOfReceive_53 rfl fkX10_202 (mm_ks kd_21) (mm_ltq kd_21) rfl ?_
          refine me_bipush (pc' := 58) (v := 20) dX10_refusalOfReceive_56 rfl kc_b20 ?_
          refine me_icmp_ge (pc' := 61) (tgt := 65) dX10_refusalOfReceive_58 (by decide) rfl (fun c13 => ?_) (fun c13 => ?_)
          · refine me_iconst (pc' := 66) (v := 3) dX10_refusalOfReceive_65 rfl kc_i3 ?_
            exact me_iret dX10_refusalOfReceive_66 rfl (fun z => z) rfl
          · refine me_iconst (pc' := 62) (v := 0) dX10_refusalOfReceive_61 rfl kc_i0 ?_
            refine me_goto (tgt := 66) dX10_refusalOfReceive_62 (by decide) ?_
            exact me_iret dX10_refusalOfReceive_66 rfl (fun z => z) rfl
        · refine me_iconst (pc' := 48) (v := 2) dX10_refusalOfReceive_47 rfl kc_i2 ?_
          exact me_iret dX10_refusalOfReceive_48 rfl (fun z => z) rfl
  · refine me_iconst (pc' := 12) (v := 1) dX10_refusalOfReceive_11 rfl kc_i1 ?_
    exact me_iret dX10_refusalOfReceive_12 rfl (fun z => z) rfl
def gX10_refuse (p0 : Int32) (h : mm_H) : Option ((Unit ⊕ String) × mm_H) :=
if p0 = 1 then
some (.inr "java/lang/IndexOutOfBoundsException", ms_X h)
else
if p0 = 2 then
some (.inr "java/lang/IllegalArgumentException", ms_X h)
else
if p0 = 3 then
some (.inr "java/lang/IllegalStateException", ms_X h)
else
some (.inl (), h)
theorem rX10_refuse {q : mm_q} (p0 : Int32) (h : mm_H) : mm_R2 (mm_Sq q) (mm_Sq q) mX10_refuse [.int p0] h (gX10_refuse p0 h) lf_vt := by
  refine mm_body (L := [some (.int p0)]) rfl (by decide +kernel) (Nat.le_of_ble_eq_true rfl) rfl ?_
  unfold gX10_refuse
  refine me_iload_n (pc' := 1) (i := 0) dX10_refuse_0 rfl rfl rfl ?_
  refine me_iconst (pc' := 2) (v := 1) dX10_refuse_1 rfl kc_i1 ?_
  refine me_icmp_ne (pc' := 5) (tgt := 16) dX10_refuse_2 (by decide) rfl (fun c1 => ?_) (fun c1 => ?_)
  · refine me_iload_n (pc' := 17) (i := 0) dX10_refuse_16 rfl rfl rfl ?_
    refine me_iconst (pc' := 18) (v := 2) dX10_refuse_17 rfl kc_i2 ?_
    refine me_icmp_ne (pc' := 21) (tgt := 32) dX10_refuse_18 (by decide) rfl (fun c2 => ?_) (fun c2 => ?_)
    · refine me_iload_n (pc' := 33) (i := 0) dX10_refuse_32 rfl rfl rfl ?_
      refine me_iconst (pc' := 34) (v := 3) dX10_refuse_33 rfl kc_i3 ?_
      refine me_icmp_ne (pc' := 37) (tgt := 48) dX10_refuse_34 (by decide) rfl (fun c3 => ?_) (fun c3 => ?_)
      · exact me_vret dX10_refuse_48 rfl (fun z => z) rfl
      · exact me_throwW dX10_refuse_37 dX10_refuse_40 dX10_refuse_41 dX10_refuse_44 dX10_refuse_47 rfl rfl (fun z => z) twX10_98 sr_12 (Nat.le_of_ble_eq_true rfl) (Nat.le_of_ble_eq_true rfl)
    · exact me_throwW dX10_refuse_21 dX10_refuse_24 dX10_refuse_25 dX10_refuse_28 dX10_refuse_31 rfl rfl (fun z => z) twX10_119 sr_9 (Nat.le_of_ble_eq_true rfl) (Nat.le_of_ble_eq_true rfl)
  · exact me_throwW dX10_refuse_5 dX10_refuse_8 dX10_refuse_9 dX10_refuse_12 dX10_refuse_15 rfl rfl (fun z => z) twX10_166 sr_11 (Nat.le_of_ble_eq_true rfl) (Nat.le_of_ble_eq_true rfl)
def gX10_receive (p0 : Int32) (p1 : Int32) (p2 : Int32) (p3 : Int32) (h : mm_H) : Option ((Int32 ⊕ String) × mm_H) :=
(gX10_refusalOfReceive p0 p1 p2 p3 h).bind (fun (x1 : Int32) =>
(gX10_refuse x1 h).bind (fun (x3 : ((Unit ⊕ String) × mm_H)) => match x3 with
| (.inl _, h6) =>
(gX2_remember 21 h6).bind (fun (h8 : mm_H) =>
(gX7_addBatch 21 p0 p1 p2 p3 h8).bind (fun (x10 : (Int32 × mm_H)) =>
some (.inl x10.1, x10.2)))
| (.inr E7, h6) => some (.inr E7, h6)))
theorem rX10_receive {q : mm_q} (p0 : Int32) (p1 : Int32) (p2 : Int32) (p3 : Int32) (h : mm_H) : mm_R2 (mm_Sq q) (mm_Sq q) mX10_receive [.ref 0, .int p0, .int p1, .int p2, .int p3] h (gX10_receive p0 p1 p2 p3 h) lf_it := by
  refine mm_body (L := [some (.ref 0), some (.int p0), some (.int p1), some (.int p2), some (.int p3)]) rfl (by decide +kernel) (Nat.le_of_ble_eq_true rfl) rfl ?_
  unfold gX10_receive
  refine me_aload_n (pc' := 1) (i := 0) dX10_receive_0 rfl rfl rfl ?_
  refine me_iload_n (pc' := 2) (i := 1) dX10_receive_1 rfl rfl rfl ?_
  refine me_iload_n (pc' := 3) (i := 2) dX10_receive_2 rfl rfl rfl ?_
  refine me_iload_n (pc' := 4) (i := 3) dX10_receive_3 rfl rfl rfl ?_
  refine me_iload (pc' := 6) (i := 4) dX10_receive_4 rfl rfl ?_
  refine me_callV (As := [.int p0, .int p1, .int p2, .int p3]) (st := []) (F' := (mm_Sq q)) (G' := (mm_Sq q)) (F'' := (mm_Sq q)) (pc' := 9) dX10_receive_6 rfl mfX10_refusalOfReceive rfl lkX10_299 (mm_ks kd_0) rfl (mm_ltq kd_0) ⟨Nat.le_of_ble_eq_true rfl, Nat.le_of_ble_eq_true rfl⟩ (Nat.le_of_ble_eq_true rfl) (fun z => z) (rX10_refusalOfReceive (q := q) p0 p1 p2 p3 h ) (fun x1 e2 => Or.inl ⟨_, _, rfl, fun z => z, ?_⟩)
  show mm_E2 _ _ _ _ _ [.int x1] h _ _
  refine me_callS (As := [.int x1]) (st := []) (F' := (mm_Sq q)) (G' := (mm_Sq q)) (F'' := (mm_Sq q)) (pc' := 12) dX10_receive_9 rfl mfX10_refuse rfl lkX10_302 ⟨Nat.le_of_ble_eq_true rfl, Nat.le_of_ble_eq_true rfl⟩ (Nat.le_of_ble_eq_true rfl) (fun z => z) (rX10_refuse (q := q) x1 h ) (fun x3 e4 => ?_)
  rcases x3 with ⟨v5 | E7, h6⟩
  · refine Or.inl ⟨_, _, rfl, fun z => z, ?_⟩
    show mm_E2 _ _ _ _ _ [] h6 _ _
    try dsimp only
    refine me_aload_n (pc' := 13) (i := 0) dX10_receive_12 rfl rfl rfl ?_
    refine me_getR (pc' := 16) (q' := 90) dX10_receive_13 rfl fkX10_58 (mm_ks kd_0) (mm_ltq kd_0) rfl (mrX10_8 kd_0) ?_
    refine me_aload_n (pc' := 17) (i := 0) dX10_receive_16 rfl rfl rfl ?_
    refine me_getR (pc' := 20) (q' := 21) dX10_receive_17 rfl fkX10_45 (mm_ks kd_0) (mm_ltq kd_0) rfl (mrX10_5 kd_0) ?_
    refine me_callV (As := [.ref 21]) (st := []) (F' := (mm_Sq q)) (G' := (mm_Sq q)) (F'' := (mm_Sq q)) (pc' := 23) dX10_receive_20 rfl mfX2_remember rfl lkX10_305 (mm_ks kd_90) rfl (mm_ltq kd_90) ⟨Nat.le_of_ble_eq_true rfl, Nat.le_of_ble_eq_true rfl⟩ (Nat.le_of_ble_eq_true rfl) (fun z => z) (rX2_remember (q := q) 21 h6 kd_21) (fun h8 e9 => Or.inl ⟨_, _, rfl, fun z => z, ?_⟩)
    show mm_E2 _ _ _ _ _ [] h8 _ _
    refine me_aload_n (pc' := 24) (i := 0) dX10_receive_23 rfl rfl rfl ?_
    refine me_getR (pc' := 27) (q' := 21) dX10_receive_24 rfl fkX10_45 (mm_ks kd_0) (mm_ltq kd_0) rfl (mrX10_5 kd_0) ?_
    refine me_iload_n (pc' := 28) (i := 1) dX10_receive_27 rfl rfl rfl ?_
    refine me_iload_n (pc' := 29) (i := 2) dX10_receive_28 rfl rfl rfl ?_
    refine me_iload_n (pc' := 30) (i := 3) dX10_receive_29 rfl rfl rfl ?_
    refine me_iload (pc' := 32) (i := 4) dX10_receive_30 rfl rfl ?_
    refine me_callV (As := [.int p0, .int p1, .int p2, .int p3]) (st := []) (F' := (mm_Sq q)) (G' := (mm_Sq q)) (F'' := (mm_Sq q)) (pc' := 35) dX10_receive_32 rfl mfX7_addBatch rfl lkX10_86 (mm_ks kd_21) rfl (mm_ltq kd_21) ⟨Nat.le_of_ble_eq_true rfl, Nat.le_of_ble_eq_true rfl⟩ (Nat.le_of_ble_eq_true rfl) (fun z => z) (rX7_addBatch (q := q) 21 p0 p1 p2 p3 h8 kd_21) (fun x10 e11 => Or.inl ⟨_, _, rfl, fun z => z, ?_⟩)
    show mm_E2 _ _ _ _ _ [.int x10.1] x10.2 _ _
    exact me_iret dX10_receive_35 rfl (fun z => z) rfl
  · exact Or.inr ⟨_, _, rfl, rfl, fun z => z, fun y9 hy9 => by rw [← Option.some.inj hy9]; rfl⟩
def gX10_refusalOfIssue (p0 : Int32) (p1 : Int32) (h : mm_H) : Option Int32 :=
(gX1_hasProduct 14 p0 h).bind (fun (x1 : Bool) =>
if x1 = true then
(gX10_isOutside p1 1 9999 h).bind (fun (x4 : Bool) =>
if x4 = true then
some 2
else
(gX7_availableUnits 21 p0 ((mh_I h 21 0)) h).bind (fun (x7 : Int32) =>
if x7 < p1 then
some 3
else
some 0))
else
some 1)
theorem rX10_refusalOfIssue {q : mm_q} (p0 : Int32) (p1 : Int32) (h : mm_H) : mm_R2 (mm_Sq q) (mm_Sq q) mX10_refusalOfIssue [.ref 0, .int p0, .int p1] h (gX10_refusalOfIssue p0 p1 h) (lf_i h) := by
  refine mm_body (L := [some (.ref 0), some (.int p0), some (.int p1)]) rfl (by decide +kernel) (Nat.le_of_ble_eq_true rfl) rfl ?_
  unfold gX10_refusalOfIssue
  refine me_aload_n (pc' := 1) (i := 0) dX10_refusalOfIssue_0 rfl rfl rfl ?_
  refine me_getR (pc' := 4) (q' := 14) dX10_refusalOfIssue_1 rfl fkX10_38 (mm_ks kd_0) (mm_ltq kd_0) rfl (mrX10_4 kd_0) ?_
  refine me_iload_n (pc' := 5) (i := 1) dX10_refusalOfIssue_4 rfl rfl rfl ?_
  refine me_callV (As := [.int p0]) (st := []) (F' := (mm_Sq q)) (G' := (mm_Sq q)) (F'' := (mm_Sq q)) (pc' := 8) dX10_refusalOfIssue_5 rfl mfX1_hasProduct rfl lkX10_402 (mm_ks kd_14) rfl (mm_ltq kd_14) ⟨Nat.le_of_ble_eq_true rfl, Nat.le_of_ble_eq_true rfl⟩ (Nat.le_of_ble_eq_true rfl) (fun z => z) (rX1_hasProduct (q := q) 14 p0 h kd_14) (fun x1 e2 => Or.inl ⟨_, _, rfl, fun z => z, ?_⟩)
  show mm_E2 _ _ _ _ _ [.int (mx_bi x1)] h _ _
  refine me_ifB_ne (pc' := 11) (tgt := 13) dX10_refusalOfIssue_8 (by decide) rfl (fun c3 => ?_) (fun c3 => ?_)
  · refine me_iload_n (pc' := 14) (i := 2) dX10_refusalOfIssue_13 rfl rfl rfl ?_
    refine me_iconst (pc' := 15) (v := 1) dX10_refusalOfIssue_14 rfl kc_i1 ?_
    refine me_sipush (pc' := 18) (v := 9999) dX10_refusalOfIssue_15 rfl kc_s9999 ?_
    refine me_callS (As := [.int p1, .int 1, .int 9999]) (st := []) (F' := (mm_Sq q)) (G' := (mm_Sq q)) (F'' := (mm_Sq q)) (pc' := 21) dX10_refusalOfIssue_18 rfl mfX10_isOutside rfl lkX10_158 ⟨Nat.le_of_ble_eq_true rfl, Nat.le_of_ble_eq_true rfl⟩ (Nat.le_of_ble_eq_true rfl) (fun z => z) (rX10_isOutside (q := q) p1 1 9999 h ) (fun x4 e5 => Or.inl ⟨_, _, rfl, fun z => z, ?_⟩)
    show mm_E2 _ _ _ _ _ [.int (mx_bi x4)] h _ _
    refine me_ifB_eq (pc' := 24) (tgt := 26) dX10_refusalOfIssue_21 (by decide) rfl (fun c6 => ?_) (fun c6 => ?_)
    · refine me_aload_n (pc' := 27) (i := 0) dX10_refusalOfIssue_26 rfl rfl rfl ?_
      refine me_getR (pc' := 30) (q' := 21) dX10_refusalOfIssue_27 rfl fkX10_45 (mm_ks kd_0) (mm_ltq kd_0) rfl (mrX10_5 kd_0) ?_
      refine me_iload_n (pc' := 31) (i := 1) dX10_refusalOfIssue_30 rfl rfl rfl ?_
      refine me_aload_n (pc' := 32) (i := 0) dX10_refusalOfIssue_31 rfl rfl rfl ?_
      refine me_getR (pc' := 35) (q' := 21) dX10_refusalOfIssue_32 rfl fkX10_45 (mm_ks kd_0) (mm_ltq kd_0) rfl (mrX10_5 kd_0) ?_
      refine me_getI (pc' := 38) dX10_refusalOfIssue_35 rfl fkX10_142 (mm_ks kd_21) (mm_ltq kd_21) rfl ?_
      refine me_callV (As := [.int p0, .int (mh_I h 21 0)]) (st := []) (F' := (mm_Sq q)) (G' := (mm_Sq q)) (F'' := (mm_Sq q)) (pc' := 41) dX10_refusalOfIssue_38 rfl mfX7_availableUnits rfl lkX10_189 (mm_ks kd_21) rfl (mm_ltq kd_21) ⟨Nat.le_of_ble_eq_true rfl, Nat.le_of_ble_eq_true rfl⟩ (Nat.le_of_ble_eq_true rfl) (fun z => z) (rX7_availableUnits (q := q) 21 p0 ((mh_I h 21 0)) h kd_21) (fun x7 e8 => Or.inl ⟨_, _, rfl, fun z => z, ?_⟩)
      show mm_E2 _ _ _ _ _ [.int x7] h _ _
      refine me_iload_n (pc' := 42) (i := 2) dX10_refusalOfIssue_41 rfl rfl rfl ?_
      refine me_icmp_lt (pc' := 45) (tgt := 49) dX10_refusalOfIssue_42 (by decide) rfl (fun c9 => ?_) (fun c9 => ?_)
      · refine me_iconst (pc' := 50) (v := 3) dX10_refusalOfIssue_49 rfl kc_i3 ?_
        exact me_iret dX10_refusalOfIssue_50 rfl (fun z => z) rfl
      · refine me_iconst (pc' := 46) (v := 0) dX10_refusalOfIssue_45 rfl kc_i0 ?_
        refine me_goto (tgt := 50) dX10_refusalOfIssue_46 (by decide) ?_
        exact me_iret dX10_refusalOfIssue_50 rfl (fun z => z) rfl
    · refine me_iconst (pc' := 25) (v := 2) dX10_refusalOfIssue_24 rfl kc_i2 ?_
      exact me_iret dX10_refusalOfIssue_25 rfl (fun z => z) rfl
  · refine me_iconst (pc' := 12) (v := 1) dX10_refusalOfIssue_11 rfl kc_i1 ?_
    exact me_iret dX10_refusalOfIssue_12 rfl (fun z => z) rfl
def gX10_issue (p0 : Int32) (p1 : Int32) (h : mm_H) : Option ((Int32 ⊕ String) × mm_H) :=
(gX10_refusalOfIssue p0 p1 h).bind (fun (x1 : Int32) =>
(gX10_refuse x1 h).bind (fun (x3 : ((Unit ⊕ String) × mm_H)) => match x3 with
| (.inl _, h6) =>
(gX2_remember 21 h6).bind (fun (h8 : mm_H) =>
(gX7_issueUnits 21 p0 p1 h8).bind (fun (x10 : (Int32 × mm_H)) =>
some (.inl x10.1, x10.2)))
| (.inr E7, h6) => some (.inr E7, h6)))
theorem rX10_issue {q : mm_q} (p0 : Int32) (p1 : Int32) (h : mm_H) : mm_R2 (mm_Sq q) (mm_Sq q) mX10_issue [.ref 0, .int p0, .int p1] h (gX10_issue p0 p1 h) lf_it := by
  refine mm_body (L := [some (.ref 0), some (.int p0), some (.int p1)]) rfl (by decide +kernel) (Nat.le_of_ble_eq_true rfl) rfl ?_
  unfold gX10_issue
  refine me_aload_n (pc' := 1) (i := 0) dX10_issue_0 rfl rfl rfl ?_
  refine me_iload_n (pc' := 2) (i := 1) dX10_issue_1 rfl rfl rfl ?_
  refine me_iload_n (pc' := 3) (i := 2) dX10_issue_2 rfl rfl rfl ?_
  refine me_callV (As := [.int p0, .int p1]) (st := []) (F' := (mm_Sq q)) (G' := (mm_Sq q)) (F'' := (mm_Sq q)) (pc' := 6) dX10_issue_3 rfl mfX10_refusalOfIssue rfl lkX10_308 (mm_ks kd_0) rfl (mm_ltq kd_0) ⟨Nat.le_of_ble_eq_true rfl, Nat.le_of_ble_eq_true rfl⟩ (Nat.le_of_ble_eq_true rfl) (fun z => z) (rX10_refusalOfIssue (q := q) p0 p1 h ) (fun x1 e2 => Or.inl ⟨_, _, rfl, fun z => z, ?_⟩)
  show mm_E2 _ _ _ _ _ [.int x1] h _ _
  refine me_callS (As := [.int x1]) (st := []) (F' := (mm_Sq q)) (G' := (mm_Sq q)) (F'' := (mm_Sq q)) (pc' := 9) dX10_issue_6 rfl mfX10_refuse rfl lkX10_302 ⟨Nat.le_of_ble_eq_true rfl, Nat.le_of_ble_eq_true rfl⟩ (Nat.le_of_ble_eq_true rfl) (fun z => z) (rX10_refuse (q := q) x1 h ) (fun x3 e4 => ?_)
  rcases x3 with ⟨v5 | E7, h6⟩
  · refine Or.inl ⟨_, _, rfl, fun z => z, ?_⟩
    show mm_E2 _ _ _ _ _ [] h6 _ _
    try dsimp only
    refine me_aload_n (pc' := 10) (i := 0) dX10_issue_9 rfl rfl rfl ?_
    refine me_getR (pc' := 13) (q' := 90) dX10_issue_10 rfl fkX10_58 (mm_ks kd_0) (mm_ltq kd_0) rfl (mrX10_8 kd_0) ?_
    refine me_aload_n (pc' := 14) (i := 0) dX10_issue_13 rfl rfl rfl ?_
    refine me_getR (pc' := 17) (q' := 21) dX10_issue_14 rfl fkX10_45 (mm_ks kd_0) (mm_ltq kd_0) rfl (mrX10_5 kd_0) ?_
    refine me_callV (As := [.ref 21]) (st := []) (F' := (mm_Sq q)) (G' := (mm_Sq q)) (F'' := (mm_Sq q)) (pc' := 20) dX10_issue_17 rfl mfX2_remember rfl lkX10_305 (mm_ks kd_90) rfl (mm_ltq kd_90) ⟨Nat.le_of_ble_eq_true rfl, Nat.le_of_ble_eq_true rfl⟩ (Nat.le_of_ble_eq_true rfl) (fun z => z) (rX2_remember (q := q) 21 h6 kd_21) (fun h8 e9 => Or.inl ⟨_, _, rfl, fun z => z, ?_⟩)
    show mm_E2 _ _ _ _ _ [] h8 _ _
    refine me_aload_n (pc' := 21) (i := 0) dX10_issue_20 rfl rfl rfl ?_
    refine me_getR (pc' := 24) (q' := 21) dX10_issue_21 rfl fkX10_45 (mm_ks kd_0) (mm_ltq kd_0) rfl (mrX10_5 kd_0) ?_
    refine me_aload_n (pc' := 25) (i := 0) dX10_issue_24 rfl rfl rfl ?_
    refine me_getR (pc' := 28) (q' := 347) dX10_issue_25 rfl fkX10_72 (mm_ks kd_0) (mm_ltq kd_0) rfl (mrX10_10 kd_0) ?_
    refine me_iload_n (pc' := 29) (i := 1) dX10_issue_28 rfl rfl rfl ?_
    refine me_iload_n (pc' := 30) (i := 2) dX10_issue_29 rfl rfl rfl ?_
    refine me_callV (As := [.ref 347, .int p0, .int p1]) (st := []) (F' := (mm_Sq q)) (G' := (mm_Sq q)) (F'' := (mm_Sq q)) (pc' := 33) dX10_issue_30 rfl mfX7_issueUnits rfl lkX10_311 (mm_ks kd_21) rfl (mm_ltq kd_21) ⟨Nat.le_of_ble_eq_true rfl, Nat.le_of_ble_eq_true rfl⟩ (Nat.le_of_ble_eq_true rfl) (fun z => z) (rX7_issueUnits (q := q) 21 p0 p1 h8 kd_21) (fun x10 e11 => Or.inl ⟨_, _, rfl, fun z => z, ?_⟩)
    show mm_E2 _ _ _ _ _ [.int x10.1] x10.2 _ _
    exact me_iret dX10_issue_33 rfl (fun z => z) rfl
  · exact Or.inr ⟨_, _, rfl, rfl, fun z => z, fun y9 hy9 => by rw [← Option.some.inj hy9]; rfl⟩
def gX10_refusalOfReserve (p0 : Int32) (p1 : Int32) (p2 : Int32) (h : mm_H) : Option Int32 :=
(gX1_hasProduct 14 p0 h).bind (fun (x1 : Bool) =>
if x1 = true then
(gX10_isOutside p1 1 9999 h).bind (fun (x4 : Bool) =>
if x4 = true then
some 2
else
(gX10_isOutside p2 ((mh_I h 21 0)) 9999 h).bind (fun (x7 : Bool) =>
if x7 = true then
some 2
else
mm_jn (fun (y10 : Int32) =>
if y10 = 0 then
some 3
else
some 0) (fun (j11 : Int32 → Option Int32) =>
mm_jn (fun (_ : Unit) =>
j11 0) (fun (j13 : Unit → Option Int32) =>
if (mh_I h 21 7) < 10 then
(gX7_availableUnits 21 p0 p2 h).bind (fun (x15 : Int32) =>
if x15 < p1 then
j13 ()
else
j11 1)
else
j13 ()))))
else
some 1)
theorem rX10_refusalOfReserve {q : mm_q} (p0 : Int32) (p1 : Int32) (p2 : Int32) (h : mm_H) : mm_R2 (mm_Sq q) (mm_Sq q) mX10_refusalOfReserve [.ref 0, .int p0, .int p1, .int p2] h (gX10_refusalOfReserve p0 p1 p2 h) (lf_i h) := by
  refine mm_body (L := [some (.ref 0), some (.int p0), some (.int p1), some (.int p2), none]) rfl (by decide +kernel) (Nat.le_of_ble_eq_true rfl) rfl ?_
  unfold gX10_refusalOfReserve
  refine me_aload_n (pc' := 1) (i := 0) dX10_refusalOfReserve_0 rfl rfl rfl ?_
  refine me_getR (pc' := 4) (q' := 14) dX10_refusalOfReserve_1 rfl fkX10_38 (mm_ks kd_0) (mm_ltq kd_0) rfl (mrX10_4 kd_0) ?_
  refine me_iload_n (pc' := 5) (i := 1) dX10_refusalOfReserve_4 rfl rfl rfl ?_
  refine me_callV (As := [.int p0]) (st := []) (F' := (mm_Sq q)) (G' := (mm_Sq q)) (F'' := (mm_Sq q)) (pc' := 8) dX10_refusalOfReserve_5 rfl mfX1_hasProduct rfl lkX10_402 (mm_ks kd_14) rfl (mm_ltq kd_14) ⟨Nat.le_of_ble_eq_true rfl, Nat.le_of_ble_eq_true rfl⟩ (Nat.le_of_ble_eq_true rfl) (fun z => z) (rX1_hasProduct (q := q) 14 p0 h kd_14) (fun x1 e2 => Or.inl ⟨_, _, rfl, fun z => z, ?_⟩)
  show mm_E2 _ _ _ _ _ [.int (mx_bi x1)] h _ _
  refine me_ifB_ne (pc' := 11) (tgt := 13) dX10_refusalOfReserve_8 (by decide) rfl (fun c3 => ?_) (fun c3 => ?_)
  · refine me_iload_n (pc' := 14) (i := 2) dX10_refusalOfReserve_13 rfl rfl rfl ?_
    refine me_iconst (pc' := 15) (v := 1) dX10_refusalOfReserve_14 rfl kc_i1 ?_
    refine me_sipush (pc' := 18) (v := 9999) dX10_refusalOfReserve_15 rfl kc_s9999 ?_
    refine me_callS (As := [.int p1, .int 1, .int 9999]) (st := []) (F' := (mm_Sq q)) (G' := (mm_Sq q)) (F'' := (mm_Sq q)) (pc' := 21) dX10_refusalOfReserve_18 rfl mfX10_isOutside rfl lkX10_158 ⟨Nat.le_of_ble_eq_true rfl, Nat.le_of_ble_eq_true rfl⟩ (Nat.le_of_ble_eq_true rfl) (fun z => z) (rX10_isOutside (q := q) p1 1 9999 h ) (fun x4 e5 => Or.inl ⟨_, _, rfl, fun z => z, ?_⟩)
    show mm_E2 _ _ _ _ _ [.int (mx_bi x4)] h _ _
    refine me_ifB_ne (pc' := 24) (tgt := 41) dX10_refusalOfReserve_21 (by decide) rfl (fun c6 => ?_) (fun c6 => ?_)
    · refine me_iconst (pc' := 42) (v := 2) dX10_refusalOfReserve_41 rfl kc_i2 ?_
      exact me_iret dX10_refusalOfReserve_42 rfl (fun z => z) rfl
    · refine me_iload_n (pc' := 25) (i := 3) dX10_refusalOfReserve_24 rfl rfl rfl ?_
      refine me_aload_n (pc' := 26) (i := 0) dX10_refusalOfReserve_25 rfl rfl rfl ?_
      refine me_getR (pc' := 29) (q' := 21) dX10_refusalOfReserve_26 rfl fkX10_45 (mm_ks kd_0) (mm_ltq kd_0) rfl (mrX10_5 kd_0) ?_
      refine me_getI (pc' := 32) dX10_refusalOfReserve_29 rfl fkX10_142 (mm_ks kd_21) (mm_ltq kd_21) rfl ?_
      refine me_sipush (pc' := 35) (v := 9999) dX10_refusalOfReserve_32 rfl kc_s9999 ?_
      refine me_callS (As := [.int p2, .int (mh_I h 21 0), .int 9999]) (st := []) (F' := (mm_Sq q)) (G' := (mm_Sq q)) (F'' := (mm_Sq q)) (pc' := 38) dX10_refusalOfReserve_35 rfl mfX10_isOutside rfl lkX10_158 ⟨Nat.le_of_ble_eq_true rfl, Nat.le_of_ble_eq_true rfl⟩ (Nat.le_of_ble_eq_true rfl) (fun z => z) (rX10_isOutside (q := q) p2 ((mh_I h 21 0)) 9999 h ) (fun x7 e8 => Or.inl ⟨_, _, rfl, fun z => z, ?_⟩)
      show mm_E2 _ _ _ _ _ [.int (mx_bi x7)] h _ _
      refine me_ifB_eq (pc' := 41) (tgt := 43) dX10_refusalOfReserve_38 (by decide) rfl (fun c9 => ?_) (fun c9 => ?_)
      · refine me_aload_n (pc' := 44) (i := 0) dX10_refusalOfReserve_43 rfl rfl rfl ?_
        refine me_getR (pc' := 47) (q' := 21) dX10_refusalOfReserve_44 rfl fkX10_45 (mm_ks kd_0) (mm_ltq kd_0) rfl (mrX10_5 kd_0) ?_
        refine me_getI (pc' := 50) dX10_refusalOfReserve_47 rfl fkX10_240 (mm_ks kd_21) (mm_ltq kd_21) rfl ?_
        refine me_bipush (pc' := 52) (v := 10) dX10_refusalOfReserve_50 rfl kc_b10 ?_
        refine mm_jnI (fun (j119 : Int32 → Option Int32) => ∀ (y10 : Int32), mm_E2 (mm_Sq q) (mm_Sq q) mX10_refusalOfReserve 73 [none, none, none, none, none] [.int y10] h (j119 y10) (lf_i h)) ?_ (fun j11 j11p => ?_)
        · intro y10
          refine me_istore (pc' := 75) (i := 4) (L' := [none, none, none, none, some (.int y10)]) dX10_refusalOfReserve_73 rfl (Nat.le_of_ble_eq_true rfl) (Nat.le_of_ble_eq_true rfl) rfl ?_
          refine me_iload (pc' := 77) (i := 4) dX10_refusalOfReserve_75 rfl rfl ?_
          refine me_if_eq (pc' := 80) (tgt := 84) dX10_refusalOfReserve_77 (by decide) rfl (fun c12 => ?_) (fun c12 => ?_)
          · refine me_iconst (pc' := 85) (v := 3) dX10_refusalOfReserve_84 rfl kc_i3 ?_
            exact me_iret dX10_refusalOfReserve_85 rfl (fun z => z) rfl
          · refine me_iconst (pc' := 81) (v := 0) dX10_refusalOfReserve_80 rfl kc_i0 ?_
            refine me_goto (tgt := 85) dX10_refusalOfReserve_81 (by decide) ?_
            exact me_iret dX10_refusalOfReserve_85 rfl (fun z => z) rfl
        refine mm_jnI (fun (j139 : Unit → Option Int32) => ∀ (_ : Unit), mm_E2 (mm_Sq q) (mm_Sq q) mX10_refusalOfReserve 72 [none, none, none, none, none] [] h (j139 ()) (lf_i h)) ?_ (fun j13 j13p => ?_)
        · intro _
          refine me_iconst (pc' := 73) (v := 0) dX10_refusalOfReserve_72 rfl kc_i0 ?_
          exact j11p 0
        refine me_icmp_ge (pc' := 55) (tgt := 72) dX10_refusalOfReserve_52 (by decide) rfl (fun c14 => ?_) (fun c14 => ?_)
        · exact mm_maskB [false, false, false, false, false] (j13p ())
        · refine me_aload_n (pc' := 56) (i := 0) dX10_refusalOfReserve_55 rfl rfl rfl ?_
          refine me_getR (pc' := 59) (q' := 21) dX10_refusalOfReserve_56 rfl fkX10_45 (mm_ks kd_0) (mm_ltq kd_0) rfl (mrX10_5 kd_0) ?_
          refine me_iload_n (pc' := 60) (i := 1) dX10_refusalOfReserve_59 rfl rfl rfl ?_
          refine me_iload_n (pc' := 61) (i := 3) dX10_refusalOfReserve_60 rfl rfl rfl ?_
          refine me_callV (As := [.int p0, .int p2]) (st := []) (F' := (mm_Sq q)) (G' := (mm_Sq q)) (F'' := (mm_Sq q)) (pc' := 64) dX10_refusalOfReserve_61 rfl mfX7_availableUnits rfl lkX10_189 (mm_ks kd_21) rfl (mm_ltq kd_21) ⟨Nat.le_of_ble_eq_true rfl, Nat.le_of_ble_eq_true rfl⟩ (Nat.le_of_ble_eq_true rfl) (fun z => z) (rX7_availableUnits (q := q) 21 p0 p2 h kd_21) (fun x15 e16 => Or.inl ⟨_, _, rfl, fun z => z, ?_⟩)
          show mm_E2 _ _ _ _ _ [.int x15] h _ _
          refine me_iload_n (pc' := 65) (i := 2) dX10_refusalOfReserve_64 rfl rfl rfl ?_
          refine me_icmp_lt (pc' := 68) (tgt := 72) dX10_refusalOfReserve_65 (by decide) rfl (fun c17 => ?_) (fun c17 => ?_)
          · exact mm_maskB [false, false, false, false, false] (j13p ())
          · refine me_iconst (pc' := 69) (v := 1) dX10_refusalOfReserve_68 rfl kc_i1 ?_
            refine me_goto (tgt := 73) dX10_refusalOfReserve_69 (by decide) ?_
            exact mm_maskB [false, false, false, false, false] (j11p 1)
      · refine me_iconst (pc' := 42) (v := 2) dX10_refusalOfReserve_41 rfl kc_i2 ?_
        exact me_iret dX10_refusalOfReserve_42 rfl (fun z => z) rfl
  · refine me_iconst (pc' := 12) (v := 1) dX10_refusalOfReserve_11 rfl kc_i1 ?_
    exact me_iret dX10_refusalOfReserve_12 rfl (fun z => z) rfl
def gX10_reserve (p0 : Int32) (p1 : Int32) (p2 : Int32) (h : mm_H) : Option ((Int32 ⊕ String) × mm_H) :=
(gX10_refusalOfReserve p0 p1 p2 h).bind (fun (x1 : Int32) =>
(gX10_refuse x1 h).bind (fun (x3 : ((Unit ⊕ String) × mm_H)) => match x3 with
| (.inl _, h6) =>
(gX2_remember 21 h6).bind (fun (h8 : mm_H) =>
(gX7_addReservation 21 p0 p1 p2 h8).bind (fun (x10 : (Int32 × mm_H)) =>
some (.inl x10.1, x10.2)))
| (.inr E7, h6) => some (.inr E7, h6)))
theorem rX10_reserve {q : mm_q} (p0 : Int32) (p1 : Int32) (p2 : Int32) (h : mm_H) : mm_R2 (mm_Sq q) (mm_Sq q) mX10_reserve [.ref 0, .int p0, .int p1, .int p2] h (gX10_reserve p0 p1 p2 h) lf_it := by
  refine mm_body (L := [some (.ref 0), some (.int p0), some (.int p1), some (.int p2)]) rfl (by decide +kernel) (Nat.le_of_ble_eq_true rfl) rfl ?_
  unfold gX10_reserve
  refine me_aload_n (pc' := 1) (i := 0) dX10_reserve_0 rfl rfl rfl ?_
  refine me_iload_n (pc' := 2) (i := 1) dX10_reserve_1 rfl rfl rfl ?_
  refine me_iload_n (pc' := 3) (i := 2) dX10_reserve_2 rfl rfl rfl ?_
  refine me_iload_n (pc' := 4) (i := 3) dX10_reserve_3 rfl rfl rfl ?_
  refine me_callV (As := [.int p0, .int p1, .int p2]) (st := []) (F' := (mm_Sq q)) (G' := (mm_Sq q)) (F'' := (mm_Sq q)) (pc' := 7) dX10_reserve_4 rfl mfX10_refusalOfReserve rfl lkX10_314 (mm_ks kd_0) rfl (mm_ltq kd_0) ⟨Nat.le_of_ble_eq_true rfl, Nat.le_of_ble_eq_true rfl⟩ (Nat.le_of_ble_eq_true rfl) (fun z => z) (rX10_refusalOfReserve (q := q) p0 p1 p2 h ) (fun x1 e2 => Or.inl ⟨_, _, rfl, fun z => z, ?_⟩)
  show mm_E2 _ _ _ _ _ [.int x1] h _ _
  refine me_callS (As := [.int x1]) (st := []) (F' := (mm_Sq q)) (G' := (mm_Sq q)) (F'' := (mm_Sq q)) (pc' := 10) dX10_reserve_7 rfl mfX10_refuse rfl lkX10_302 ⟨Nat.le_of_ble_eq_true rfl, Nat.le_of_ble_eq_true rfl⟩ (Nat.le_of_ble_eq_true rfl) (fun z => z) (rX10_refuse (q := q) x1 h ) (fun x3 e4 => ?_)
  rcases x3 with ⟨v5 | E7, h6⟩
  · refine Or.inl ⟨_, _, rfl, fun z => z, ?_⟩
    show mm_E2 _ _ _ _ _ [] h6 _ _
    try dsimp only
    refine me_aload_n (pc' := 11) (i := 0) dX10_reserve_10 rfl rfl rfl ?_
    refine me_getR (pc' := 14) (q' := 90) dX10_reserve_11 rfl fkX10_58 (mm_ks kd_0) (mm_ltq kd_0) rfl (mrX10_8 kd_0) ?_
    refine me_aload_n (pc' := 15) (i := 0) dX10_reserve_14 rfl rfl rfl ?_
    refine me_getR (pc' := 18) (q' := 21) dX10_reserve_15 rfl fkX10_45 (mm_ks kd_0) (mm_ltq kd_0) rfl (mrX10_5 kd_0) ?_
    refine me_callV (As := [.ref 21]) (st := []) (F' := (mm_Sq q)) (G' := (mm_Sq q)) (F'' := (mm_Sq q)) (pc' := 21) dX10_reserve_18 rfl mfX2_remember rfl lkX10_305 (mm_ks kd_90) rfl (mm_ltq kd_90) ⟨Nat.le_of_ble_eq_true rfl, Nat.le_of_ble_eq_true rfl⟩ (Nat.le_of_ble_eq_true rfl) (fun z => z) (rX2_remember (q := q) 21 h6 kd_21) (fun h8 e9 => Or.inl ⟨_, _, rfl, fun z => z, ?_⟩)
    show mm_E2 _ _ _ _ _ [] h8 _ _
    refine me_aload_n (pc' := 22) (i := 0) dX10_reserve_21 rfl rfl rfl ?_
    refine me_getR (pc' := 25) (q' := 21) dX10_reserve_22 rfl fkX10_45 (mm_ks kd_0) (mm_ltq kd_0) rfl (mrX10_5 kd_0) ?_
    refine me_aload_n (pc' := 26) (i := 0) dX10_reserve_25 rfl rfl rfl ?_
    refine me_getR (pc' := 29) (q' := 347) dX10_reserve_26 rfl fkX10_72 (mm_ks kd_0) (mm_ltq kd_0) rfl (mrX10_10 kd_0) ?_
    refine me_iload_n (pc' := 30) (i := 1) dX10_reserve_29 rfl rfl rfl ?_
    refine me_iload_n (pc' := 31) (i := 2) dX10_reserve_30 rfl rfl rfl ?_
    refine me_iload_n (pc' := 32) (i := 3) dX10_reserve_31 rfl rfl rfl ?_
    refine me_callV (As := [.ref 347, .int p0, .int p1, .int p2]) (st := []) (F' := (mm_Sq q)) (G' := (mm_Sq q)) (F'' := (mm_Sq q)) (pc' := 35) dX10_reserve_32 rfl mfX7_addReservation rfl lkX10_317 (mm_ks kd_21) rfl (mm_ltq kd_21) ⟨Nat.le_of_ble_eq_true rfl, Nat.le_of_ble_eq_true rfl⟩ (Nat.le_of_ble_eq_true rfl) (fun z => z) (rX7_addReservation (q := q) 21 p0 p1 p2 h8 kd_21) (fun x10 e11 => Or.inl ⟨_, _, rfl, fun z => z, ?_⟩)
    show mm_E2 _ _ _ _ _ [.int x10.1] x10.2 _ _
    exact me_iret dX10_reserve_35 rfl (fun z => z) rfl
  · exact Or.inr ⟨_, _, rfl, rfl, fun z => z, fun y9 hy9 => by rw [← Option.some.inj hy9]; rfl⟩
def gX10_refusalOfShip (p0 : Int32) (h : mm_H) : Option Int32 :=
(gX7_hasReservation 21 p0 h).bind (fun (x1 : Bool) =>
if x1 = true then
(gX7_shippingObstacle 21 p0 h).bind (fun (x4 : Int32) =>
if x4 = 0 then
some 0
else
some 3)
else
some 1)
theorem rX10_refusalOfShip {q : mm_q} (p0 : Int32) (h : mm_H) : mm_R2 (mm_Sq q) (mm_Sq q) mX10_refusalOfShip [.ref 0, .int p0] h (gX10_refusalOfShip p0 h) (lf_i h) := by
  refine mm_body (L := [some (.ref 0), some (.int p0)]) rfl (by decide +kernel) (Nat.le_of_ble_eq_true rfl) rfl ?_
  unfold gX10_refusalOfShip
  refine me_aload_n (pc' := 1) (i := 0) dX10_refusalOfShip_0 rfl rfl rfl ?_
  refine me_getR (pc' := 4) (q' := 21) dX10_refusalOfShip_1 rfl fkX10_45 (mm_ks kd_0) (mm_ltq kd_0) rfl (mrX10_5 kd_0) ?_
  refine me_iload_n (pc' := 5) (i := 1) dX10_refusalOfShip_4 rfl rfl rfl ?_
  refine me_callV (As := [.int p0]) (st := []) (F' := (mm_Sq q)) (G' := (mm_Sq q)) (F'' := (mm_Sq q)) (pc' := 8) dX10_refusalOfShip_5 rfl mfX7_hasReservation rfl lkX10_412 (mm_ks kd_21) rfl (mm_ltq kd_21) ⟨Nat.le_of_ble_eq_true rfl, Nat.le_of_ble_eq_true rfl⟩ (Nat.le_of_ble_eq_true rfl) (fun z => z) (rX7_hasReservation (q := q) 21 p0 h kd_21) (fun x1 e2 => Or.inl ⟨_, _, rfl, fun z => z, ?_⟩)
  show mm_E2 _ _ _ _ _ [.int (mx_bi x1)] h _ _
  refine me_ifB_ne (pc' := 11) (tgt := 13) dX10_refusalOfShip_8 (by decide) rfl (fun c3 => ?_) (fun c3 => ?_)
  · refine me_aload_n (pc' := 14) (i := 0) dX10_refusalOfShip_13 rfl rfl rfl ?_
    refine me_getR (pc' := 17) (q' := 21) dX10_refusalOfShip_14 rfl fkX10_45 (mm_ks kd_0) (mm_ltq kd_0) rfl (mrX10_5 kd_0) ?_
    refine me_iload_n (pc' := 18) (i := 1) dX10_refusalOfShip_17 rfl rfl rfl ?_
    refine me_callV (As := [.int p0]) (st := []) (F' := (mm_Sq q)) (G' := (mm_Sq q)) (F'' := (mm_Sq q)) (pc' := 21) dX10_refusalOfShip_18 rfl mfX7_shippingObstacle rfl lkX10_261 (mm_ks kd_21) rfl (mm_ltq kd_21) ⟨Nat.le_of_ble_eq_true rfl, Nat.le_of_ble_eq_true rfl⟩ (Nat.le_of_ble_eq_true rfl) (fun z => z) (rX7_shippingObstacle (q := q) 21 p0 h kd_21) (fun x4 e5 => Or.inl ⟨_, _, rfl, fun z => z, ?_⟩)
    show mm_E2 _ _ _ _ _ [.int x4] h _ _
    refine me_if_ne (pc' := 24) (tgt := 28) dX10_refusalOfShip_21 (by decide) rfl (fun c6 => ?_) (fun c6 => ?_)
    · refine me_iconst (pc' := 29) (v := 3) dX10_refusalOfShip_28 rfl kc_i3 ?_
      exact me_iret dX10_refusalOfShip_29 rfl (fun z => z) rfl
    · refine me_iconst (pc' := 25) (v := 0) dX10_refusalOfShip_24 rfl kc_i0 ?_
      refine me_goto (tgt := 29) dX10_refusalOfShip_25 (by decide) ?_
      exact me_iret dX10_refusalOfShip_29 rfl (fun z => z) rfl
  · refine me_iconst (pc' := 12) (v := 1) dX10_refusalOfShip_11 rfl kc_i1 ?_
    exact me_iret dX10_refusalOfShip_12 rfl (fun z => z) rfl
def gX10_ship (p0 : Int32) (h : mm_H) : Option ((Int32 ⊕ String) × mm_H) :=
(gX10_refusalOfShip p0 h).bind (fun (x1 : Int32) =>
(gX10_refuse x1 h).bind (fun (x3 : ((Unit ⊕ String) × mm_H)) => match x3 with
| (.inl _, h6) =>
(gX2_remember 21 h6).bind (fun (h8 : mm_H) =>
(gX7_shipReservation 21 p0 h8).bind (fun (x10 : (Int32 × mm_H)) =>
some (.inl x10.1, x10.2)))
| (.inr E7, h6) => some (.inr E7, h6)))
theorem rX10_ship {q : mm_q} (p0 : Int32) (h : mm_H) : mm_R2 (mm_Sq q) (mm_Sq q) mX10_ship [.ref 0, .int p0] h (gX10_ship p0 h) lf_it := by
  refine mm_body (L := [some (.ref 0), some (.int p0)]) rfl (by decide +kernel) (Nat.le_of_ble_eq_true rfl) rfl ?_
  unfold gX10_ship
  refine me_aload_n (pc' := 1) (i := 0) dX10_ship_0 rfl rfl rfl ?_
  refine me_iload_n (pc' := 2) (i := 1) dX10_ship_1 rfl rfl rfl ?_
  refine me_callV (As := [.int p0]) (st := []) (F' := (mm_Sq q)) (G' := (mm_Sq q)) (F'' := (mm_Sq q)) (pc' := 5) dX10_ship_2 rfl mfX10_refusalOfShip rfl lkX10_320 (mm_ks kd_0) rfl (mm_ltq kd_0) ⟨Nat.le_of_ble_eq_true rfl, Nat.le_of_ble_eq_true rfl⟩ (Nat.le_of_ble_eq_true rfl) (fun z => z) (rX10_refusalOfShip (q := q) p0 h ) (fun x1 e2 => Or.inl ⟨_, _, rfl, fun z => z, ?_⟩)
  show mm_E2 _ _ _ _ _ [.int x1] h _ _
  refine me_callS (As := [.int x1]) (st := []) (F' := (mm_Sq q)) (G' := (mm_Sq q)) (F'' := (mm_Sq q)) (pc' := 8) dX10_ship_5 rfl mfX10_refuse rfl lkX10_302 ⟨Nat.le_of_ble_eq_true rfl, Nat.le_of_ble_eq_true rfl⟩ (Nat.le_of_ble_eq_true rfl) (fun z => z) (rX10_refuse (q := q) x1 h ) (fun x3 e4 => ?_)
  rcases x3 with ⟨v5 | E7, h6⟩
  · refine Or.inl ⟨_, _, rfl, fun z => z, ?_⟩
    show mm_E2 _ _ _ _ _ [] h6 _ _
    try dsimp only
    refine me_aload_n (pc' := 9) (i := 0) dX10_ship_8 rfl rfl rfl ?_
    refine me_getR (pc' := 12) (q' := 90) dX10_ship_9 rfl fkX10_58 (mm_ks kd_0) (mm_ltq kd_0) rfl (mrX10_8 kd_0) ?_
    refine me_aload_n (pc' := 13) (i := 0) dX10_ship_12 rfl rfl rfl ?_
    refine me_getR (pc' := 16) (q' := 21) dX10_ship_13 rfl fkX10_45 (mm_ks kd_0) (mm_ltq kd_0) rfl (mrX10_5 kd_0) ?_
    refine me_callV (As := [.ref 21]) (st := []) (F' := (mm_Sq q)) (G' := (mm_Sq q)) (F'' := (mm_Sq q)) (pc' := 19) dX10_ship_16 rfl mfX2_remember rfl lkX10_305 (mm_ks kd_90) rfl (mm_ltq kd_90) ⟨Nat.le_of_ble_eq_true rfl, Nat.le_of_ble_eq_true rfl⟩ (Nat.le_of_ble_eq_true rfl) (fun z => z) (rX2_remember (q := q) 21 h6 kd_21) (fun h8 e9 => Or.inl ⟨_, _, rfl, fun z => z, ?_⟩)
    show mm_E2 _ _ _ _ _ [] h8 _ _
    refine me_aload_n (pc' := 20) (i := 0) dX10_ship_19 rfl rfl rfl ?_
    refine me_getR (pc' := 23) (q' := 21) dX10_ship_20 rfl fkX10_45 (mm_ks kd_0) (mm_ltq kd_0) rfl (mrX10_5 kd_0) ?_
    refine me_iload_n (pc' := 24) (i := 1) dX10_ship_23 rfl rfl rfl ?_
    refine me_callV (As := [.int p0]) (st := []) (F' := (mm_Sq q)) (G' := (mm_Sq q)) (F'' := (mm_Sq q)) (pc' := 27) dX10_ship_24 rfl mfX7_shipReservation rfl lkX10_323 (mm_ks kd_21) rfl (mm_ltq kd_21) ⟨Nat.le_of_ble_eq_true rfl, Nat.le_of_ble_eq_true rfl⟩ (Nat.le_of_ble_eq_true rfl) (fun z => z) (rX7_shipReservation (q := q) 21 p0 h8 kd_21) (fun x10 e11 => Or.inl ⟨_, _, rfl, fun z => z, ?_⟩)
    show mm_E2 _ _ _ _ _ [.int x10.1] x10.2 _ _
    exact me_iret dX10_ship_27 rfl (fun z => z) rfl
  · exact Or.inr ⟨_, _, rfl, rfl, fun z => z, fun y9 hy9 => by rw [← Option.some.inj hy9]; rfl⟩
def gX10_refusalOfOpenOnly (p0 : Int32) (h : mm_H) : Option Int32 :=
(gX7_hasReservation 21 p0 h).bind (fun (x1 : Bool) =>
if x1 = true then
(gX7_isPending 21 p0 h).bind (fun (x4 : Bool) =>
if x4 = true then
some 0
else
some 3)
else
some 1)
theorem rX10_refusalOfOpenOnly {q : mm_q} (p0 : Int32) (h : mm_H) : mm_R2 (mm_Sq q) (mm_Sq q) mX10_refusalOfOpenOnly [.ref 0, .int p0] h (gX10_refusalOfOpenOnly p0 h) (lf_i h) := by
  refine mm_body (L := [some (.ref 0), some (.int p0)]) rfl (by decide +kernel) (Nat.le_of_ble_eq_true rfl) rfl ?_
  unfold gX10_refusalOfOpenOnly
  refine me_aload_n (pc' := 1) (i := 0) dX10_refusalOfOpenOnly_0 rfl rfl rfl ?_
  refine me_getR (pc' := 4) (q' := 21) dX10_refusalOfOpenOnly_1 rfl fkX10_45 (mm_ks kd_0) (mm_ltq kd_0) rfl (mrX10_5 kd_0) ?_
  refine me_iload_n (pc' := 5) (i := 1) dX10_refusalOfOpenOnly_4 rfl rfl rfl ?_
  refine me_callV (As := [.int p0]) (st := []) (F' := (mm_Sq q)) (G' := (mm_Sq q)) (F'' := (mm_Sq q)) (pc' := 8) dX10_refusalOfOpenOnly_5 rfl mfX7_hasReservation rfl lkX10_412 (mm_ks kd_21) rfl (mm_ltq kd_21) ⟨Nat.le_of_ble_eq_true rfl, Nat.le_of_ble_eq_true rfl⟩ (Nat.le_of_ble_eq_true rfl) (fun z => z) (rX7_hasReservation (q := q) 21 p0 h kd_21) (fun x1 e2 => Or.inl ⟨_, _, rfl, fun z => z, ?_⟩)
  show mm_E2 _ _ _ _ _ [.int (mx_bi x1)] h _ _
  refine me_ifB_ne (pc' := 11) (tgt := 13) dX10_refusalOfOpenOnly_8 (by decide) rfl (fun c3 => ?_) (fun c3 => ?_)
  · refine me_aload_n (pc' := 14) (i := 0) dX10_refusalOfOpenOnly_13 rfl rfl rfl ?_
    refine me_getR (pc' := 17) (q' := 21) dX10_refusalOfOpenOnly_14 rfl fkX10_45 (mm_ks kd_0) (mm_ltq kd_0) rfl (mrX10_5 kd_0) ?_
    refine me_iload_n (pc' := 18) (i := 1) dX10_refusalOfOpenOnly_17 rfl rfl rfl ?_
    refine me_callV (As := [.int p0]) (st := []) (F' := (mm_Sq q)) (G' := (mm_Sq q)) (F'' := (mm_Sq q)) (pc' := 21) dX10_refusalOfOpenOnly_18 rfl mfX7_isPending rfl lkX10_252 (mm_ks kd_21) rfl (mm_ltq kd_21) ⟨Nat.le_of_ble_eq_true rfl, Nat.le_of_ble_eq_true rfl⟩ (Nat.le_of_ble_eq_true rfl) (fun z => z) (rX7_isPending (q := q) 21 p0 h kd_21) (fun x4 e5 => Or.inl ⟨_, _, rfl, fun z => z, ?_⟩)
    show mm_E2 _ _ _ _ _ [.int (mx_bi x4)] h _ _
    refine me_ifB_eq (pc' := 24) (tgt := 28) dX10_refusalOfOpenOnly_21 (by decide) rfl (fun c6 => ?_) (fun c6 => ?_)
    · refine me_iconst (pc' := 29) (v := 3) dX10_refusalOfOpenOnly_28 rfl kc_i3 ?_
      exact me_iret dX10_refusalOfOpenOnly_29 rfl (fun z => z) rfl
    · refine me_iconst (pc' := 25) (v := 0) dX10_refusalOfOpenOnly_24 rfl kc_i0 ?_
      refine me_goto (tgt := 29) dX10_refusalOfOpenOnly_25 (by decide) ?_
      exact me_iret dX10_refusalOfOpenOnly_29 rfl (fun z => z) rfl
  · refine me_iconst (pc' := 12) (v := 1) dX10_refusalOfOpenOnly_11 rfl kc_i1 ?_
    exact me_iret dX10_refusalOfOpenOnly_12 rfl (fun z => z) rfl
def gX10_cancel (p0 : Int32) (h : mm_H) : Option ((Int32 ⊕ String) × mm_H) :=
(gX10_refusalOfOpenOnly p0 h).bind (fun (x1 : Int32) =>
(gX10_refuse x1 h).bind (fun (x3 : ((Unit ⊕ String) × mm_H)) => match x3 with
| (.inl _, h6) =>
(gX2_remember 21 h6).bind (fun (h8 : mm_H) =>
(gX7_cancelReservation 21 p0 h8).bind (fun (x10 : (Int32 × mm_H)) =>
some (.inl x10.1, x10.2)))
| (.inr E7, h6) => some (.inr E7, h6)))
theorem rX10_cancel {q : mm_q} (p0 : Int32) (h : mm_H) : mm_R2 (mm_Sq q) (mm_Sq q) mX10_cancel [.ref 0, .int p0] h (gX10_cancel p0 h) lf_it := by
  refine mm_body (L := [some (.ref 0), some (.int p0)]) rfl (by decide +kernel) (Nat.le_of_ble_eq_true rfl) rfl ?_
  unfold gX10_cancel
  refine me_aload_n (pc' := 1) (i := 0) dX10_cancel_0 rfl rfl rfl ?_
  refine me_iload_n (pc' := 2) (i := 1) dX10_cancel_1 rfl rfl rfl ?_
  refine me_callV (As := [.int p0]) (st := []) (F' := (mm_Sq q)) (G' := (mm_Sq q)) (F'' := (mm_Sq q)) (pc' := 5) dX10_cancel_2 rfl mfX10_refusalOfOpenOnly rfl lkX10_326 (mm_ks kd_0) rfl (mm_ltq kd_0) ⟨Nat.le_of_ble_eq_true rfl, Nat.le_of_ble_eq_true rfl⟩ (Nat.le_of_ble_eq_true rfl) (fun z => z) (rX10_refusalOfOpenOnly (q := q) p0 h ) (fun x1 e2 => Or.inl ⟨_, _, rfl, fun z => z, ?_⟩)
  show mm_E2 _ _ _ _ _ [.int x1] h _ _
  refine me_callS (As := [.int x1]) (st := []) (F' := (mm_Sq q)) (G' := (mm_Sq q)) (F'' := (mm_Sq q)) (pc' := 8) dX10_cancel_5 rfl mfX10_refuse rfl lkX10_302 ⟨Nat.le_of_ble_eq_true rfl, Nat.le_of_ble_eq_true rfl⟩ (Nat.le_of_ble_eq_true rfl) (fun z => z) (rX10_refuse (q := q) x1 h ) (fun x3 e4 => ?_)
  rcases x3 with ⟨v5 | E7, h6⟩
  · refine Or.inl ⟨_, _, rfl, fun z => z, ?_⟩
    show mm_E2 _ _ _ _ _ [] h6 _ _
    try dsimp only
    refine me_aload_n (pc' := 9) (i := 0) dX10_cancel_8 rfl rfl rfl ?_
    refine me_getR (pc' := 12) (q' := 90) dX10_cancel_9 rfl fkX10_58 (mm_ks kd_0) (mm_ltq kd_0) rfl (mrX10_8 kd_0) ?_
    refine me_aload_n (pc' := 13) (i := 0) dX10_cancel_12 rfl rfl rfl ?_
    refine me_getR (pc' := 16) (q' := 21) dX10_cancel_13 rfl fkX10_45 (mm_ks kd_0) (mm_ltq kd_0) rfl (mrX10_5 kd_0) ?_
    refine me_callV (As := [.ref 21]) (st := []) (F' := (mm_Sq q)) (G' := (mm_Sq q)) (F'' := (mm_Sq q)) (pc' := 19) dX10_cancel_16 rfl mfX2_remember rfl lkX10_305 (mm_ks kd_90) rfl (mm_ltq kd_90) ⟨Nat.le_of_ble_eq_true rfl, Nat.le_of_ble_eq_true rfl⟩ (Nat.le_of_ble_eq_true rfl) (fun z => z) (rX2_remember (q := q) 21 h6 kd_21) (fun h8 e9 => Or.inl ⟨_, _, rfl, fun z => z, ?_⟩)
    show mm_E2 _ _ _ _ _ [] h8 _ _
    refine me_aload_n (pc' := 20) (i := 0) dX10_cancel_19 rfl rfl rfl ?_
    refine me_getR (pc' := 23) (q' := 21) dX10_cancel_20 rfl fkX10_45 (mm_ks kd_0) (mm_ltq kd_0) rfl (mrX10_5 kd_0) ?_
    refine me_iload_n (pc' := 24) (i := 1) dX10_cancel_23 rfl rfl rfl ?_
    refine me_callV (As := [.int p0]) (st := []) (F' := (mm_Sq q)) (G' := (mm_Sq q)) (F'' := (mm_Sq q)) (pc' := 27) dX10_cancel_24 rfl mfX7_cancelReservation rfl lkX10_329 (mm_ks kd_21) rfl (mm_ltq kd_21) ⟨Nat.le_of_ble_eq_true rfl, Nat.le_of_ble_eq_true rfl⟩ (Nat.le_of_ble_eq_true rfl) (fun z => z) (rX7_cancelReservation (q := q) 21 p0 h8 kd_21) (fun x10 e11 => Or.inl ⟨_, _, rfl, fun z => z, ?_⟩)
    show mm_E2 _ _ _ _ _ [.int x10.1] x10.2 _ _
    exact me_iret dX10_cancel_27 rfl (fun z => z) rfl
  · exact Or.inr ⟨_, _, rfl, rfl, fun z => z, fun y9 hy9 => by rw [← Option.some.inj hy9]; rfl⟩
def gX10_refill (p0 : Int32) (h : mm_H) : Option ((Int32 ⊕ String) × mm_H) :=
(gX10_refusalOfOpenOnly p0 h).bind (fun (x1 : Int32) =>
(gX10_refuse x1 h).bind (fun (x3 : ((Unit ⊕ String) × mm_H)) => match x3 with
| (.inl _, h6) =>
(gX2_remember 21 h6).bind (fun (h8 : mm_H) =>
(gX7_refillReservation 21 p0 h8).bind (fun (x10 : (Int32 × mm_H)) =>
some (.inl x10.1, x10.2)))
| (.inr E7, h6) => some (.inr E7, h6)))
theorem rX10_refill {q : mm_q} (p0 : Int32) (h : mm_H) : mm_R2 (mm_Sq q) (mm_Sq q) mX10_refill [.ref 0, .int p0] h (gX10_refill p0 h) lf_it := by
  refine mm_body (L := [some (.ref 0), some (.int p0)]) rfl (by decide +kernel) (Nat.le_of_ble_eq_true rfl) rfl ?_
  unfold gX10_refill
  refine me_aload_n (pc' := 1) (i := 0) dX10_refill_0 rfl rfl rfl ?_
  refine me_iload_n (pc' := 2) (i := 1) dX10_refill_1 rfl rfl rfl ?_
  refine me_callV (As := [.int p0]) (st := []) (F' := (mm_Sq q)) (G' := (mm_Sq q)) (F'' := (mm_Sq q)) (pc' := 5) dX10_refill_2 rfl mfX10_refusalOfOpenOnly rfl lkX10_326 (mm_ks kd_0) rfl (mm_ltq kd_0) ⟨Nat.le_of_ble_eq_true rfl, Nat.le_of_ble_eq_true rfl⟩ (Nat.le_of_ble_eq_true rfl) (fun z => z) (rX10_refusalOfOpenOnly (q := q) p0 h ) (fun x1 e2 => Or.inl ⟨_, _, rfl, fun z => z, ?_⟩)
  show mm_E2 _ _ _ _ _ [.int x1] h _ _
  refine me_callS (As := [.int x1]) (st := []) (F' := (mm_Sq q)) (G' := (mm_Sq q)) (F'' := (mm_Sq q)) (pc' := 8) dX10_refill_5 rfl mfX10_refuse rfl lkX10_302 ⟨Nat.le_of_ble_eq_true rfl, Nat.le_of_ble_eq_true rfl⟩ (Nat.le_of_ble_eq_true rfl) (fun z => z) (rX10_refuse (q := q) x1 h ) (fun x3 e4 => ?_)
  rcases x3 with ⟨v5 | E7, h6⟩
  · refine Or.inl ⟨_, _, rfl, fun z => z, ?_⟩
    show mm_E2 _ _ _ _ _ [] h6 _ _
    try dsimp only
    refine me_aload_n (pc' := 9) (i := 0) dX10_refill_8 rfl rfl rfl ?_
    refine me_getR (pc' := 12) (q' := 90) dX10_refill_9 rfl fkX10_58 (mm_ks kd_0) (mm_ltq kd_0) rfl (mrX10_8 kd_0) ?_
    refine me_aload_n (pc' := 13) (i := 0) dX10_refill_12 rfl rfl rfl ?_
    refine me_getR (pc' := 16) (q' := 21) dX10_refill_13 rfl fkX10_45 (mm_ks kd_0) (mm_ltq kd_0) rfl (mrX10_5 kd_0) ?_
    refine me_callV (As := [.ref 21]) (st := []) (F' := (mm_Sq q)) (G' := (mm_Sq q)) (F'' := (mm_Sq q)) (pc' := 19) dX10_refill_16 rfl mfX2_remember rfl lkX10_305 (mm_ks kd_90) rfl (mm_ltq kd_90) ⟨Nat.le_of_ble_eq_true rfl, Nat.le_of_ble_eq_true rfl⟩ (Nat.le_of_ble_eq_true rfl) (fun z => z) (rX2_remember (q := q) 21 h6 kd_21) (fun h8 e9 => Or.inl ⟨_, _, rfl, fun z => z, ?_⟩)
    show mm_E2 _ _ _ _ _ [] h8 _ _
    refine me_aload_n (pc' := 20) (i := 0) dX10_refill_19 rfl rfl rfl ?_
    refine me_getR (pc' := 23) (q' := 21) dX10_refill_20 rfl fkX10_45 (mm_ks kd_0) (mm_ltq kd_0) rfl (mrX10_5 kd_0) ?_
    refine me_aload_n (pc' := 24) (i := 0) dX10_refill_23 rfl rfl rfl ?_
    refine me_getR (pc' := 27) (q' := 347) dX10_refill_24 rfl fkX10_72 (mm_ks kd_0) (mm_ltq kd_0) rfl (mrX10_10 kd_0) ?_
    refine me_iload_n (pc' := 28) (i := 1) dX10_refill_27 rfl rfl rfl ?_
    refine me_callV (As := [.ref 347, .int p0]) (st := []) (F' := (mm_Sq q)) (G' := (mm_Sq q)) (F'' := (mm_Sq q)) (pc' := 31) dX10_refill_28 rfl mfX7_refillReservation rfl lkX10_332 (mm_ks kd_21) rfl (mm_ltq kd_21) ⟨Nat.le_of_ble_eq_true rfl, Nat.le_of_ble_eq_true rfl⟩ (Nat.le_of_ble_eq_true rfl) (fun z => z) (rX7_refillReservation (q := q) 21 p0 h8 kd_21) (fun x10 e11 => Or.inl ⟨_, _, rfl, fun z => z, ?_⟩)
    show mm_E2 _ _ _ _ _ [.int x10.1] x10.2 _ _
    exact me_iret dX10_refill_31 rfl (fun z => z) rfl
  · exact Or.inr ⟨_, _, rfl, rfl, fun z => z, fun y9 hy9 => by rw [← Option.some.inj hy9]; rfl⟩
def gX10_refusalOfCount (p0 : Int32) (p1 : Int32) (h : mm_H) : Option Int32 :=
(gX7_hasBatch 21 p0 h).bind (fun (x1 : Bool) =>
if x1 = true then
(gX10_isOutside p1 0 999 h).bind (fun (x4 : Bool) =>
if x4 = true then
some 2
else
(gX4_get 26 p0 h).bind (fun (x7 : Int32) =>
if p1 < x7 then
some 3
else
some 0))
else
some 1)
theorem rX10_refusalOfCount {q : mm_q} (p0 : Int32) (p1 : Int32) (h : mm_H) : mm_R2 (mm_Sq q) (mm_Sq q) mX10_refusalOfCount [.ref 0, .int p0, .int p1] h (gX10_refusalOfCount p0 p1 h) (lf_i h) := by
  refine mm_body (L := [some (.ref 0), some (.int p0), some (.int p1)]) rfl (by decide +kernel) (Nat.le_of_ble_eq_true rfl) rfl ?_
  unfold gX10_refusalOfCount
  refine me_aload_n (pc' := 1) (i := 0) dX10_refusalOfCount_0 rfl rfl rfl ?_
  refine me_getR (pc' := 4) (q' := 21) dX10_refusalOfCount_1 rfl fkX10_45 (mm_ks kd_0) (mm_ltq kd_0) rfl (mrX10_5 kd_0) ?_
  refine me_iload_n (pc' := 5) (i := 1) dX10_refusalOfCount_4 rfl rfl rfl ?_
  refine me_callV (As := [.int p0]) (st := []) (F' := (mm_Sq q)) (G' := (mm_Sq q)) (F'' := (mm_Sq q)) (pc' := 8) dX10_refusalOfCount_5 rfl mfX7_hasBatch rfl lkX10_407 (mm_ks kd_21) rfl (mm_ltq kd_21) ⟨Nat.le_of_ble_eq_true rfl, Nat.le_of_ble_eq_true rfl⟩ (Nat.le_of_ble_eq_true rfl) (fun z => z) (rX7_hasBatch (q := q) 21 p0 h kd_21) (fun x1 e2 => Or.inl ⟨_, _, rfl, fun z => z, ?_⟩)
  show mm_E2 _ _ _ _ _ [.int (mx_bi x1)] h _ _
  refine me_ifB_ne (pc' := 11) (tgt := 13) dX10_refusalOfCount_8 (by decide) rfl (fun c3 => ?_) (fun c3 => ?_)
  · refine me_iload_n (pc' := 14) (i := 2) dX10_refusalOfCount_13 rfl rfl rfl ?_
    refine me_iconst (pc' := 15) (v := 0) dX10_refusalOfCount_14 rfl kc_i0 ?_
    refine me_sipush (pc' := 18) (v := 999) dX10_refusalOfCount_15 rfl kc_s999 ?_
    refine me_callS (As := [.int p1, .int 0, .int 999]) (st := []) (F' := (mm_Sq q)) (G' := (mm_Sq q)) (F'' := (mm_Sq q)) (pc' := 21) dX10_refusalOfCount_18 rfl mfX10_isOutside rfl lkX10_158 ⟨Nat.le_of_ble_eq_true rfl, Nat.le_of_ble_eq_true rfl⟩ (Nat.le_of_ble_eq_true rfl) (fun z => z) (rX10_isOutside (q := q) p1 0 999 h ) (fun x4 e5 => Or.inl ⟨_, _, rfl, fun z => z, ?_⟩)
    show mm_E2 _ _ _ _ _ [.int (mx_bi x4)] h _ _
    refine me_ifB_eq (pc' := 24) (tgt := 26) dX10_refusalOfCount_21 (by decide) rfl (fun c6 => ?_) (fun c6 => ?_)
    · refine me_iload_n (pc' := 27) (i := 2) dX10_refusalOfCount_26 rfl rfl rfl ?_
      refine me_aload_n (pc' := 28) (i := 0) dX10_refusalOfCount_27 rfl rfl rfl ?_
      refine me_getR (pc' := 31) (q' := 21) dX10_refusalOfCount_28 rfl fkX10_45 (mm_ks kd_0) (mm_ltq kd_0) rfl (mrX10_5 kd_0) ?_
      refine me_getR (pc' := 34) (q' := 26) dX10_refusalOfCount_31 rfl fkX10_214 (mm_ks kd_21) (mm_ltq kd_21) rfl (mrX7_4 kd_21) ?_
      refine me_iload_n (pc' := 35) (i := 1) dX10_refusalOfCount_34 rfl rfl rfl ?_
      refine me_callV (As := [.int p0]) (st := [.int p1]) (F' := (mm_Sq q)) (G' := (mm_Sq q)) (F'' := (mm_Sq q)) (pc' := 38) dX10_refusalOfCount_35 rfl mfX4_get rfl lkX10_152 (mm_ks kd_26) rfl (mm_ltq kd_26) ⟨Nat.le_of_ble_eq_true rfl, Nat.le_of_ble_eq_true rfl⟩ (Nat.le_of_ble_eq_true rfl) (fun z => z) (rX4_get (q := q) 26 p0 h kd_26) (fun x7 e8 => Or.inl ⟨_, _, rfl, fun z => z, ?_⟩)
      show mm_E2 _ _ _ _ _ [.int x7, .int p1] h _ _
      refine me_icmp_lt (pc' := 41) (tgt := 45) dX10_refusalOfCount_38 (by decide) rfl (fun c9 => ?_) (fun c9 => ?_)
      · refine me_iconst (pc' := 46) (v := 3) dX10_refusalOfCount_45 rfl kc_i3 ?_
        exact me_iret dX10_refusalOfCount_46 rfl (fun z => z) rfl
      · refine me_iconst (pc' := 42) (v := 0) dX10_refusalOfCount_41 rfl kc_i0 ?_
        refine me_goto (tgt := 46) dX10_refusalOfCount_42 (by decide) ?_
        exact me_iret dX10_refusalOfCount_46 rfl (fun z => z) rfl
    · refine me_iconst (pc' := 25) (v := 2) dX10_refusalOfCount_24 rfl kc_i2 ?_
      exact me_iret dX10_refusalOfCount_25 rfl (fun z => z) rfl
  · refine me_iconst (pc' := 12) (v := 1) dX10_refusalOfCount_11 rfl kc_i1 ?_
    exact me_iret dX10_refusalOfCount_12 rfl (fun z => z) rfl
def gX10_takeStock (p0 : Int32) (p1 : Int32) (h : mm_H) : Option ((Int32 ⊕ String) × mm_H) :=
(gX10_refusalOfCount p0 p1 h).bind (fun (x1 : Int32) =>
(gX10_refuse x1 h).bind (fun (x3 : ((Unit ⊕ String) × mm_H)) => match x3 with
| (.inl _, h6) =>
(gX2_remember 21 h6).bind (fun (h8 : mm_H) =>
(gX7_countBatch 21 p0 p1 h8).bind (fun (x10 : (Int32 × mm_H)) =>
some (.inl x10.1, x10.2)))
| (.inr E7, h6) => some (.inr E7, h6)))
theorem rX10_takeStock {q : mm_q} (p0 : Int32) (p1 : Int32) (h : mm_H) : mm_R2 (mm_Sq q) (mm_Sq q) mX10_takeStock [.ref 0, .int p0, .int p1] h (gX10_takeStock p0 p1 h) lf_it := by
  refine mm_body (L := [some (.ref 0), some (.int p0), some (.int p1)]) rfl (by decide +kernel) (Nat.le_of_ble_eq_true rfl) rfl ?_
  unfold gX10_takeStock
  refine me_aload_n (pc' := 1) (i := 0) dX10_takeStock_0 rfl rfl rfl ?_
  refine me_iload_n (pc' := 2) (i := 1) dX10_takeStock_1 rfl rfl rfl ?_
  refine me_iload_n (pc' := 3) (i := 2) dX10_takeStock_2 rfl rfl rfl ?_
  refine me_callV (As := [.int p0, .int p1]) (st := []) (F' := (mm_Sq q)) (G' := (mm_Sq q)) (F'' := (mm_Sq q)) (pc' := 6) dX10_takeStock_3 rfl mfX10_refusalOfCount rfl lkX10_335 (mm_ks kd_0) rfl (mm_ltq kd_0) ⟨Nat.le_of_ble_eq_true rfl, Nat.le_of_ble_eq_true rfl⟩ (Nat.le_of_ble_eq_true rfl) (fun z => z) (rX10_refusalOfCount (q := q) p0 p1 h ) (fun x1 e2 => Or.inl ⟨_, _, rfl, fun z => z, ?_⟩)
  show mm_E2 _ _ _ _ _ [.int x1] h _ _
  refine me_callS (As := [.int x1]) (st := []) (F' := (mm_Sq q)) (G' := (mm_Sq q)) (F'' := (mm_Sq q)) (pc' := 9) dX10_takeStock_6 rfl mfX10_refuse rfl lkX10_302 ⟨Nat.le_of_ble_eq_true rfl, Nat.le_of_ble_eq_true rfl⟩ (Nat.le_of_ble_eq_true rfl) (fun z => z) (rX10_refuse (q := q) x1 h ) (fun x3 e4 => ?_)
  rcases x3 with ⟨v5 | E7, h6⟩
  · refine Or.inl ⟨_, _, rfl, fun z => z, ?_⟩
    show mm_E2 _ _ _ _ _ [] h6 _ _
    try dsimp only
    refine me_aload_n (pc' := 10) (i := 0) dX10_takeStock_9 rfl rfl rfl ?_
    refine me_getR (pc' := 13) (q' := 90) dX10_takeStock_10 rfl fkX10_58 (mm_ks kd_0) (mm_ltq kd_0) rfl (mrX10_8 kd_0) ?_
    refine me_aload_n (pc' := 14) (i := 0) dX10_takeStock_13 rfl rfl rfl ?_
    refine me_getR (pc' := 17) (q' := 21) dX10_takeStock_14 rfl fkX10_45 (mm_ks kd_0) (mm_ltq kd_0) rfl (mrX10_5 kd_0) ?_
    refine me_callV (As := [.ref 21]) (st := []) (F' := (mm_Sq q)) (G' := (mm_Sq q)) (F'' := (mm_Sq q)) (pc' := 20) dX10_takeStock_17 rfl mfX2_remember rfl lkX10_305 (mm_ks kd_90) rfl (mm_ltq kd_90) ⟨Nat.le_of_ble_eq_true rfl, Nat.le_of_ble_eq_true rfl⟩ (Nat.le_of_ble_eq_true rfl) (fun z => z) (rX2_remember (q := q) 21 h6 kd_21) (fun h8 e9 => Or.inl ⟨_, _, rfl, fun z => z, ?_⟩)
    show mm_E2 _ _ _ _ _ [] h8 _ _
    refine me_aload_n (pc' := 21) (i := 0) dX10_takeStock_20 rfl rfl rfl ?_
    refine me_getR (pc' := 24) (q' := 21) dX10_takeStock_21 rfl fkX10_45 (mm_ks kd_0) (mm_ltq kd_0) rfl (mrX10_5 kd_0) ?_
    refine me_iload_n (pc' := 25) (i := 1) dX10_takeStock_24 rfl rfl rfl ?_
    refine me_iload_n (pc' := 26) (i := 2) dX10_takeStock_25 rfl rfl rfl ?_
    refine me_callV (As := [.int p0, .int p1]) (st := []) (F' := (mm_Sq q)) (G' := (mm_Sq q)) (F'' := (mm_Sq q)) (pc' := 29) dX10_takeStock_26 rfl mfX7_countBatch rfl lkX10_338 (mm_ks kd_21) rfl (mm_ltq kd_21) ⟨Nat.le_of_ble_eq_true rfl, Nat.le_of_ble_eq_true rfl⟩ (Nat.le_of_ble_eq_true rfl) (fun z => z) (rX7_countBatch (q := q) 21 p0 p1 h8 kd_21) (fun x10 e11 => Or.inl ⟨_, _, rfl, fun z => z, ?_⟩)
    show mm_E2 _ _ _ _ _ [.int x10.1] x10.2 _ _
    exact me_iret dX10_takeStock_29 rfl (fun z => z) rfl
  · exact Or.inr ⟨_, _, rfl, rfl, fun z => z, fun y9 hy9 => by rw [← Option.some.inj hy9]; rfl⟩
def gX10_writeOffExpired (h : mm_H) : Option (Int32 × mm_H) :=
(gX2_remember 21 h).bind (fun (h1 : mm_H) =>
(gX7_writeOffExpiredBatches 21 h1).bind (fun (x3 : (Int32 × mm_H)) =>
some (x3.1, x3.2)))
theorem rX10_writeOffExpired {q : mm_q} (h : mm_H) : mm_R2 (mm_Sq q) (mm_Sq q) mX10_writeOffExpired [.ref 0] h (gX10_writeOffExpired h) lf_ie := by
  refine mm_body (L := [some (.ref 0)]) rfl (by decide +kernel) (Nat.le_of_ble_eq_true rfl) rfl ?_
  unfold gX10_writeOffExpired
  refine me_aload_n (pc' := 1) (i := 0) dX10_writeOffExpired_0 rfl rfl rfl ?_
  refine me_getR (pc' := 4) (q' := 90) dX10_writeOffExpired_1 rfl fkX10_58 (mm_ks kd_0) (mm_ltq kd_0) rfl (mrX10_8 kd_0) ?_
  refine me_aload_n (pc' := 5) (i := 0) dX10_writeOffExpired_4 rfl rfl rfl ?_
  refine me_getR (pc' := 8) (q' := 21) dX10_writeOffExpired_5 rfl fkX10_45 (mm_ks kd_0) (mm_ltq kd_0) rfl (mrX10_5 kd_0) ?_
  refine me_callV (As := [.ref 21]) (st := []) (F' := (mm_Sq q)) (G' := (mm_Sq q)) (F'' := (mm_Sq q)) (pc' := 11) dX10_writeOffExpired_8 rfl mfX2_remember rfl lkX10_305 (mm_ks kd_90) rfl (mm_ltq kd_90) ⟨Nat.le_of_ble_eq_true rfl, Nat.le_of_ble_eq_true rfl⟩ (Nat.le_of_ble_eq_true rfl) (fun z => z) (rX2_remember (q := q) 21 h kd_21) (fun h1 e2 => Or.inl ⟨_, _, rfl, fun z => z, ?_⟩)
  show mm_E2 _ _ _ _ _ [] h1 _ _
  refine me_aload_n (pc' := 12) (i := 0) dX10_writeOffExpired_11 rfl rfl rfl ?_
  refine me_getR (pc' := 15) (q' := 21) dX10_writeOffExpired_12 rfl fkX10_45 (mm_ks kd_0) (mm_ltq kd_0) rfl (mrX10_5 kd_0) ?_
  refine me_callV (As := []) (st := []) (F' := (mm_Sq q)) (G' := (mm_Sq q)) (F'' := (mm_Sq q)) (pc' := 18) dX10_writeOffExpired_15 rfl mfX7_writeOffExpiredBatches rfl lkX10_341 (mm_ks kd_21) rfl (mm_ltq kd_21) ⟨Nat.le_of_ble_eq_true rfl, Nat.le_of_ble_eq_true rfl⟩ (Nat.le_of_ble_eq_true rfl) (fun z => z) (rX7_writeOffExpiredBatches (q := q) 21 h1 kd_21) (fun x3 e4 => Or.inl ⟨_, _, rfl, fun z => z, ?_⟩)
  show mm_E2 _ _ _ _ _ [.int x3.1] x3.2 _ _
  exact me_iret dX10_writeOffExpired_18 rfl (fun z => z) rfl
def gX10_refusalOfDays (p0 : Int32) (h : mm_H) : Option Int32 :=
(gX10_isOutside p0 1 999 h).bind (fun (x1 : Bool) =>
if x1 = true then
some 2
else
if 9999 < ((mh_I h 21 0) + p0) then
some 3
else
some 0)
theorem rX10_refusalOfDays {q : mm_q} (p0 : Int32) (h : mm_H) : mm_R2 (mm_Sq q) (mm_Sq q) mX10_refusalOfDays [.ref 0, .int p0] h (gX10_refusalOfDays p0 h) (lf_i h) := by
  refine mm_body (L := [some (.ref 0), some (.int p0)]) rfl (by decide +kernel) (Nat.le_of_ble_eq_true rfl) rfl ?_
  unfold gX10_refusalOfDays
  refine me_iload_n (pc' := 1) (i := 1) dX10_refusalOfDays_0 rfl rfl rfl ?_
  refine me_iconst (pc' := 2) (v := 1) dX10_refusalOfDays_1 rfl kc_i1 ?_
  refine me_sipush (pc' := 5) (v := 999) dX10_refusalOfDays_2 rfl kc_s999 ?_
  refine me_callS (As := [.int p0, .int 1, .int 999]) (st := []) (F' := (mm_Sq q)) (G' := (mm_Sq q)) (F'' := (mm_Sq q)) (pc' := 8) dX10_refusalOfDays_5 rfl mfX10_isOutside rfl lkX10_158 ⟨Nat.le_of_ble_eq_true rfl, Nat.le_of_ble_eq_true rfl⟩ (Nat.le_of_ble_eq_true rfl) (fun z => z) (rX10_isOutside (q := q) p0 1 999 h ) (fun x1 e2 => Or.inl ⟨_, _, rfl, fun z => z, ?_⟩)
  show mm_E2 _ _ _ _ _ [.int (mx_bi x1)] h _ _
  refine me_ifB_eq (pc' := 11) (tgt := 13) dX10_refusalOfDays_8 (by decide) rfl (fun c3 => ?_) (fun c3 => ?_)
  · refine me_aload_n (pc' := 14) (i := 0) dX10_refusalOfDays_13 rfl rfl rfl ?_
    refine me_getR (pc' := 17) (q' := 21) dX10_refusalOfDays_14 rfl fkX10_45 (mm_ks kd_0) (mm_ltq kd_0) rfl (mrX10_5 kd_0) ?_
    refine me_getI (pc' := 20) dX10_refusalOfDays_17 rfl fkX10_142 (mm_ks kd_21) (mm_ltq kd_21) rfl ?_
    refine me_iload_n (pc' := 21) (i := 1) dX10_refusalOfDays_20 rfl rfl rfl ?_
    refine me_iadd (pc' := 22) dX10_refusalOfDays_21 rfl ?_
    refine me_sipush (pc' := 25) (v := 9999) dX10_refusalOfDays_22 rfl kc_s9999 ?_
    refine me_icmp_gt (pc' := 28) (tgt := 32) dX10_refusalOfDays_25 (by decide) rfl (fun c4 => ?_) (fun c4 => ?_)
    · refine me_iconst (pc' := 33) (v := 3) dX10_refusalOfDays_32 rfl kc_i3 ?_
      exact me_iret dX10_refusalOfDays_33 rfl (fun z => z) rfl
    · refine me_iconst (pc' := 29) (v := 0) dX10_refusalOfDays_28 rfl kc_i0 ?_
      refine me_goto (tgt := 33) dX10_refusalOfDays_29 (by decide) ?_
      exact me_iret dX10_refusalOfDays_33 rfl (fun z => z) rfl
  · refine me_iconst (pc' := 12) (v := 2) dX10_refusalOfDays_11 rfl kc_i2 ?_
    exact me_iret dX10_refusalOfDays_12 rfl (fun z => z) rfl
def gX10_passDays (p0 : Int32) (h : mm_H) : Option ((Int32 ⊕ String) × mm_H) :=
(gX10_refusalOfDays p0 h).bind (fun (x1 : Int32) =>
(gX10_refuse x1 h).bind (fun (x3 : ((Unit ⊕ String) × mm_H)) => match x3 with
| (.inl _, h6) =>
(gX2_remember 21 h6).bind (fun (h8 : mm_H) =>
(gX7_advance 21 p0 h8).bind (fun (x10 : (Int32 × mm_H)) =>
some (.inl x10.1, x10.2)))
| (.inr E7, h6) => some (.inr E7, h6)))
theorem rX10_passDays {q : mm_q} (p0 : Int32) (h : mm_H) : mm_R2 (mm_Sq q) (mm_Sq q) mX10_passDays [.ref 0, .int p0] h (gX10_passDays p0 h) lf_it := by
  refine mm_body (L := [some (.ref 0), some (.int p0)]) rfl (by decide +kernel) (Nat.le_of_ble_eq_true rfl) rfl ?_
  unfold gX10_passDays
  refine me_aload_n (pc' := 1) (i := 0) dX10_passDays_0 rfl rfl rfl ?_
  refine me_iload_n (pc' := 2) (i := 1) dX10_passDays_1 rfl rfl rfl ?_
  refine me_callV (As := [.int p0]) (st := []) (F' := (mm_Sq q)) (G' := (mm_Sq q)) (F'' := (mm_Sq q)) (pc' := 5) dX10_passDays_2 rfl mfX10_refusalOfDays rfl lkX10_345 (mm_ks kd_0) rfl (mm_ltq kd_0) ⟨Nat.le_of_ble_eq_true rfl, Nat.le_of_ble_eq_true rfl⟩ (Nat.le_of_ble_eq_true rfl) (fun z => z) (rX10_refusalOfDays (q := q) p0 h ) (fun x1 e2 => Or.inl ⟨_, _, rfl, fun z => z, ?_⟩)
  show mm_E2 _ _ _ _ _ [.int x1] h _ _
  refine me_callS (As := [.int x1]) (st := []) (F' := (mm_Sq q)) (G' := (mm_Sq q)) (F'' := (mm_Sq q)) (pc' := 8) dX10_passDays_5 rfl mfX10_refuse rfl lkX10_302 ⟨Nat.le_of_ble_eq_true rfl, Nat.le_of_ble_eq_true rfl⟩ (Nat.le_of_ble_eq_true rfl) (fun z => z) (rX10_refuse (q := q) x1 h ) (fun x3 e4 => ?_)
  rcases x3 with ⟨v5 | E7, h6⟩
  · refine Or.inl ⟨_, _, rfl, fun z => z, ?_⟩
    show mm_E2 _ _ _ _ _ [] h6 _ _
    try dsimp only
    refine me_aload_n (pc' := 9) (i := 0) dX10_passDays_8 rfl rfl rfl ?_
    refine me_getR (pc' := 12) (q' := 90) dX10_passDays_9 rfl fkX10_58 (mm_ks kd_0) (mm_ltq kd_0) rfl (mrX10_8 kd_0) ?_
    refine me_aload_n (pc' := 13) (i := 0) dX10_passDays_12 rfl rfl rfl ?_
    refine me_getR (pc' := 16) (q' := 21) dX10_passDays_13 rfl fkX10_45 (mm_ks kd_0) (mm_ltq kd_0) rfl (mrX10_5 kd_0) ?_
    refine me_callV (As := [.ref 21]) (st := []) (F' := (mm_Sq q)) (G' := (mm_Sq q)) (F'' := (mm_Sq q)) (pc' := 19) dX10_passDays_16 rfl mfX2_remember rfl lkX10_305 (mm_ks kd_90) rfl (mm_ltq kd_90) ⟨Nat.le_of_ble_eq_true rfl, Nat.le_of_ble_eq_true rfl⟩ (Nat.le_of_ble_eq_true rfl) (fun z => z) (rX2_remember (q := q) 21 h6 kd_21) (fun h8 e9 => Or.inl ⟨_, _, rfl, fun z => z, ?_⟩)
    show mm_E2 _ _ _ _ _ [] h8 _ _
    refine me_aload_n (pc' := 20) (i := 0) dX10_passDays_19 rfl rfl rfl ?_
    refine me_getR (pc' := 23) (q' := 21) dX10_passDays_20 rfl fkX10_45 (mm_ks kd_0) (mm_ltq kd_0) rfl (mrX10_5 kd_0) ?_
    refine me_iload_n (pc' := 24) (i := 1) dX10_passDays_23 rfl rfl rfl ?_
    refine me_callV (As := [.int p0]) (st := []) (F' := (mm_Sq q)) (G' := (mm_Sq q)) (F'' := (mm_Sq q)) (pc' := 27) dX10_passDays_24 rfl mfX7_advance rfl lkX10_348 (mm_ks kd_21) rfl (mm_ltq kd_21) ⟨Nat.le_of_ble_eq_true rfl, Nat.le_of_ble_eq_true rfl⟩ (Nat.le_of_ble_eq_true rfl) (fun z => z) (rX7_advance (q := q) 21 p0 h8 kd_21) (fun x10 e11 => Or.inl ⟨_, _, rfl, fun z => z, ?_⟩)
    show mm_E2 _ _ _ _ _ [.int x10.1] x10.2 _ _
    exact me_iret dX10_passDays_27 rfl (fun z => z) rfl
  · exact Or.inr ⟨_, _, rfl, rfl, fun z => z, fun y9 hy9 => by rw [← Option.some.inj hy9]; rfl⟩
end MMWC

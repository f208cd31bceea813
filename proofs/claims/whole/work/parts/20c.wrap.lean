section MMV
/-! the law's wrappers (gen20.py) -/
theorem clL_13 : Cond.classLink RL 13 "java/lang/IllegalStateException" ∈ mm_gw := (mm_gw_of (List.mem_of_getElem? (i := 654) (by decide +kernel)) rfl)
theorem ctL_13 : Cond.castable "java/lang/IllegalStateException" "java/lang/IllegalStateException" ∈ lw_tbl := (List.mem_of_getElem? (i := 661) (by decide +kernel))
theorem clL_19 : Cond.classLink RL 19 "java/lang/IllegalArgumentException" ∈ mm_gw := (mm_gw_of (List.mem_of_getElem? (i := 738) (by decide +kernel)) rfl)
theorem ctL_19 : Cond.castable "java/lang/IllegalArgumentException" "java/lang/IllegalArgumentException" ∈ lw_tbl := (List.mem_of_getElem? (i := 751) (by decide +kernel))
theorem clL_29 : Cond.classLink RL 29 "java/lang/IndexOutOfBoundsException" ∈ mm_gw := (mm_gw_of (List.mem_of_getElem? (i := 907) (by decide +kernel)) rfl)
theorem ctL_29 : Cond.castable "java/lang/IndexOutOfBoundsException" "java/lang/IndexOutOfBoundsException" ∈ lw_tbl := (List.mem_of_getElem? (i := 922) (by decide +kernel))
theorem clL_34 : Cond.classLink RL 34 "java/util/NoSuchElementException" ∈ mm_gw := (mm_gw_of (List.mem_of_getElem? (i := 944) (by decide +kernel)) rfl)
theorem ctL_34 : Cond.castable "java/util/NoSuchElementException" "java/util/NoSuchElementException" ∈ lw_tbl := (List.mem_of_getElem? (i := 952) (by decide +kernel))
def gL_append (p1 : Int32) (p2 : Int32) (p3 : Int32) (p4 : Int32) (p5 : Int32) (h : mm_H) : Option (Int32 × mm_H) :=
(gX10_append p1 p2 p3 p4 p5 h).bind (fun (x1 : ((Int32 ⊕ String) × mm_H)) => match x1 with
| (.inl v3, h4) =>
if mm_ibd 0 1 = true then
(some (ms_J h4 358 (Int32.toNatClampNeg (0)) ((v3).toInt64))).bind (fun (h7 : mm_H) =>
some (0, h7)) else none
| (.inr E5, h4) =>
if E5 = "java/lang/IllegalStateException" then
some (1, h4)
else
none)
theorem rL_append {q : Nat × Nat} (p1 : Int32) (p2 : Int32) (p3 : Int32) (p4 : Int32) (p5 : Int32) (h : mm_H) (hN : 360 ≤ q.1) : mm_R2 (mm_Sq q) (mm_Sq q) mL_append [.ref 0, .int p1, .int p2, .int p3, .int p4, .int p5, .ref 358] h (gL_append p1 p2 p3 p4 p5 h) lf_ie := by
  refine mm_bodyH (L := [some (.ref 0), some (.int p1), some (.int p2), some (.int p3), some (.int p4), some (.int p5), some (.ref 358), none]) (by decide) (by decide +kernel) (Nat.le_of_ble_eq_true rfl) rfl ?_
  unfold gL_append
  refine me_aload (pc' := 2) (i := 6) dL_append_0 rfl rfl ?_
  refine me_iconst (pc' := 3) (v := 0) dL_append_2 rfl kc_i0 ?_
  refine me_aload_n (pc' := 4) (i := 0) dL_append_3 rfl rfl rfl ?_
  refine me_iload_n (pc' := 5) (i := 1) dL_append_4 rfl rfl rfl ?_
  refine me_iload_n (pc' := 6) (i := 2) dL_append_5 rfl rfl rfl ?_
  refine me_iload_n (pc' := 7) (i := 3) dL_append_6 rfl rfl rfl ?_
  refine me_iload (pc' := 9) (i := 4) dL_append_7 rfl rfl ?_
  refine me_iload (pc' := 11) (i := 5) dL_append_9 rfl rfl ?_
  refine me_callVH (As := [.int p1, .int p2, .int p3, .int p4, .int p5]) (st := [.int 0, .ref 358]) (F' := (mm_Sq q)) (G' := (mm_Sq q)) (F'' := (mm_Sq q)) (pc' := 14) dL_append_11 rfl mfX10_append rfl lkL_7 kd_0 rfl (mm_ltq kd_0) ⟨Nat.le_of_ble_eq_true rfl, Nat.le_of_ble_eq_true rfl⟩ (Nat.le_of_ble_eq_true rfl) (by decide) (fun z => z) (rX10_append (q := q) p1 p2 p3 p4 p5 h ) (fun x1 e2 => ?_)
  rcases x1 with ⟨v3 | E5, h4⟩
  · refine Or.inl ⟨_, _, rfl, fun z => z, ?_⟩
    show mm_E2 _ _ _ _ _ [.int v3, .int 0, .ref 358] h4 _ _
    try dsimp only
    refine me_i2l (pc' := 15) dL_append_14 rfl ?_
    refine mm_guard (fun c6 => ?_)
    refine me_last (F' := (mm_Sq q)) (pc' := 16) dL_append_15 rfl kd_358 (mm_ltw kd_358 hN) (mm_ibd_of c6) (fun z => z) ?_
    refine mm_bnd (ms_J h4 358 (Int32.toNatClampNeg (0)) ((v3).toInt64)) (fun _ => [some (.ref 0), some (.int p1), some (.int p2), some (.int p3), some (.int p4), some (.int p5), some (.ref 358), none]) (fun _ => []) (fun h7 => h7) (fun h7 => ?_)
    refine me_goto (tgt := 23) dL_append_16 (by decide) ?_
    refine me_iconst (pc' := 24) (v := 0) dL_append_23 rfl kc_i0 ?_
    exact me_iret dL_append_24 rfl (fun z => z) rfl
  · refine Or.inr ⟨_, _, rfl, fun y9 hy9 => ?_⟩
    dsimp only at hy9
    by_cases c8 : E5 = "java/lang/IllegalStateException"
    · rw [if_pos c8] at hy9
      rw [c8]
      refine ⟨19, 21, ⟨[], ⟨0, 16, 19, 13⟩, [], rfl, fun _ h9 => absurd h9 List.not_mem_nil, by decide, by decide, rfl, clL_13, ctL_13⟩, Or.inl ⟨7, dL_append_19, Nat.le_of_ble_eq_true rfl, rfl⟩, fun z => z, ?_⟩
      rw [← hy9]
      refine me_iconst (pc' := 22) (v := 1) dL_append_21 rfl kc_i1 ?_
      exact me_iret dL_append_22 rfl (fun z => z) rfl
    · rw [if_neg c8] at hy9
      cases hy9
def gL_truncate (p1 : Int32) (h : mm_H) : Option (Int32 × mm_H) :=
(gX10_truncate p1 h).bind (fun (x1 : ((Int32 ⊕ String) × mm_H)) => match x1 with
| (.inl v3, h4) =>
if mm_ibd 0 1 = true then
(some (ms_J h4 358 (Int32.toNatClampNeg (0)) ((v3).toInt64))).bind (fun (h7 : mm_H) =>
some (0, h7)) else none
| (.inr E5, h4) =>
if E5 = "java/lang/IllegalArgumentException" then
some (1, h4)
else
none)
theorem rL_truncate {q : Nat × Nat} (p1 : Int32) (h : mm_H) (hN : 360 ≤ q.1) : mm_R2 (mm_Sq q) (mm_Sq q) mL_truncate [.ref 0, .int p1, .ref 358] h (gL_truncate p1 h) lf_ie := by
  refine mm_bodyH (L := [some (.ref 0), some (.int p1), some (.ref 358), none]) (by decide) (by decide +kernel) (Nat.le_of_ble_eq_true rfl) rfl ?_
  unfold gL_truncate
  refine me_aload_n (pc' := 1) (i := 2) dL_truncate_0 rfl rfl rfl ?_
  refine me_iconst (pc' := 2) (v := 0) dL_truncate_1 rfl kc_i0 ?_
  refine me_aload_n (pc' := 3) (i := 0) dL_truncate_2 rfl rfl rfl ?_
  refine me_iload_n (pc' := 4) (i := 1) dL_truncate_3 rfl rfl rfl ?_
  refine me_callVH (As := [.int p1]) (st := [.int 0, .ref 358]) (F' := (mm_Sq q)) (G' := (mm_Sq q)) (F'' := (mm_Sq q)) (pc' := 7) dL_truncate_4 rfl mfX10_truncate rfl lkL_15 kd_0 rfl (mm_ltq kd_0) ⟨Nat.le_of_ble_eq_true rfl, Nat.le_of_ble_eq_true rfl⟩ (Nat.le_of_ble_eq_true rfl) (by decide) (fun z => z) (rX10_truncate (q := q) p1 h ) (fun x1 e2 => ?_)
  rcases x1 with ⟨v3 | E5, h4⟩
  · refine Or.inl ⟨_, _, rfl, fun z => z, ?_⟩
    show mm_E2 _ _ _ _ _ [.int v3, .int 0, .ref 358] h4 _ _
    try dsimp only
    refine me_i2l (pc' := 8) dL_truncate_7 rfl ?_
    refine mm_guard (fun c6 => ?_)
    refine me_last (F' := (mm_Sq q)) (pc' := 9) dL_truncate_8 rfl kd_358 (mm_ltw kd_358 hN) (mm_ibd_of c6) (fun z => z) ?_
    refine mm_bnd (ms_J h4 358 (Int32.toNatClampNeg (0)) ((v3).toInt64)) (fun _ => [some (.ref 0), some (.int p1), some (.ref 358), none]) (fun _ => []) (fun h7 => h7) (fun h7 => ?_)
    refine me_goto (tgt := 15) dL_truncate_9 (by decide) ?_
    refine me_iconst (pc' := 16) (v := 0) dL_truncate_15 rfl kc_i0 ?_
    exact me_iret dL_truncate_16 rfl (fun z => z) rfl
  · refine Or.inr ⟨_, _, rfl, fun y9 hy9 => ?_⟩
    dsimp only at hy9
    by_cases c8 : E5 = "java/lang/IllegalArgumentException"
    · rw [if_pos c8] at hy9
      rw [c8]
      refine ⟨12, 13, ⟨[], ⟨0, 9, 12, 19⟩, [], rfl, fun _ h9 => absurd h9 List.not_mem_nil, by decide, by decide, rfl, clL_19, ctL_19⟩, Or.inr ⟨3, dL_truncate_12, Nat.le_of_ble_eq_true rfl, rfl⟩, fun z => z, ?_⟩
      rw [← hy9]
      refine me_iconst (pc' := 14) (v := 1) dL_truncate_13 rfl kc_i1 ?_
      exact me_iret dL_truncate_14 rfl (fun z => z) rfl
    · rw [if_neg c8] at hy9
      cases hy9
def gL_load (h : mm_H) : Option (Int32 × mm_H) :=
(gX10_load h).bind (fun (x1 : ((Int32 ⊕ String) × mm_H)) => match x1 with
| (.inl v3, h4) =>
if mm_ibd 0 1 = true then
(some (ms_J h4 358 (Int32.toNatClampNeg (0)) ((v3).toInt64))).bind (fun (h7 : mm_H) =>
some (0, h7)) else none
| (.inr E5, h4) =>
if E5 = "java/lang/IllegalArgumentException" then
some (1, h4)
else
none)
theorem rL_load {q : Nat × Nat} (h : mm_H) (hN : 360 ≤ q.1) : mm_R2 (mm_Sq q) (mm_Sq (q.1, 1)) mL_load [.ref 0, .ref 358] h (gL_load h) lf_ie := by
  refine mm_bodyH (L := [some (.ref 0), some (.ref 358), none]) (by decide) (by decide +kernel) (Nat.le_of_ble_eq_true rfl) rfl ?_
  unfold gL_load
  refine me_aload_n (pc' := 1) (i := 1) dL_load_0 rfl rfl rfl ?_
  refine me_iconst (pc' := 2) (v := 0) dL_load_1 rfl kc_i0 ?_
  refine me_aload_n (pc' := 3) (i := 0) dL_load_2 rfl rfl rfl ?_
  refine me_callVH (As := []) (st := [.int 0, .ref 358]) (F' := (mm_Sq q)) (G' := (mm_Sq (q.1, 1))) (F'' := (mm_Sq (q.1, 1))) (pc' := 6) dL_load_3 rfl mfX10_load rfl lkL_21 kd_0 rfl (mm_ltq kd_0) ⟨Nat.le_of_ble_eq_true rfl, Nat.le_of_ble_eq_true rfl⟩ (Nat.le_of_ble_eq_true rfl) (by decide) (fun z => z) (rX10_load (q := q) h ) (fun x1 e2 => ?_)
  rcases x1 with ⟨v3 | E5, h4⟩
  · refine Or.inl ⟨_, _, rfl, fun z => z, ?_⟩
    show mm_E2 _ _ _ _ _ [.int v3, .int 0, .ref 358] h4 _ _
    try dsimp only
    refine me_i2l (pc' := 7) dL_load_6 rfl ?_
    refine mm_guard (fun c6 => ?_)
    refine me_last (F' := (mm_Sq (q.1, 1))) (pc' := 8) dL_load_7 rfl kd_358 (mm_ltw kd_358 hN) (mm_ibd_of c6) (fun z => z) ?_
    refine mm_bnd (ms_J h4 358 (Int32.toNatClampNeg (0)) ((v3).toInt64)) (fun _ => [some (.ref 0), some (.ref 358), none]) (fun _ => []) (fun h7 => h7) (fun h7 => ?_)
    refine me_goto (tgt := 14) dL_load_8 (by decide) ?_
    refine me_iconst (pc' := 15) (v := 0) dL_load_14 rfl kc_i0 ?_
    exact me_iret dL_load_15 rfl (fun z => z) rfl
  · refine Or.inr ⟨_, _, rfl, fun y9 hy9 => ?_⟩
    dsimp only at hy9
    by_cases c8 : E5 = "java/lang/IllegalArgumentException"
    · rw [if_pos c8] at hy9
      rw [c8]
      refine ⟨11, 12, ⟨[], ⟨0, 8, 11, 19⟩, [], rfl, fun _ h9 => absurd h9 List.not_mem_nil, by decide, by decide, rfl, clL_19, ctL_19⟩, Or.inr ⟨2, dL_load_11, Nat.le_of_ble_eq_true rfl, rfl⟩, fun z => z, ?_⟩
      rw [← hy9]
      refine me_iconst (pc' := 13) (v := 1) dL_load_12 rfl kc_i1 ?_
      exact me_iret dL_load_13 rfl (fun z => z) rfl
    · rw [if_neg c8] at hy9
      cases hy9
def gL_nameByte (p1 : Int32) (p2 : Int32) (h : mm_H) : Option (Int32 × mm_H) :=
(gX10_nameByte p1 p2 h).bind (fun (x1 : ((Int32 ⊕ String) × mm_H)) => match x1 with
| (.inl v3, h4) =>
if mm_ibd 0 1 = true then
(some (ms_J h4 358 (Int32.toNatClampNeg (0)) ((v3).toInt64))).bind (fun (h7 : mm_H) =>
some (0, h7)) else none
| (.inr E5, h4) =>
if E5 = "java/lang/IndexOutOfBoundsException" then
some (1, h4)
else
none)
theorem rL_nameByte {q : Nat × Nat} (p1 : Int32) (p2 : Int32) (h : mm_H) (hN : 360 ≤ q.1) : mm_R2 (mm_Sq q) (mm_Sq q) mL_nameByte [.ref 0, .int p1, .int p2, .ref 358] h (gL_nameByte p1 p2 h) lf_ie := by
  refine mm_bodyH (L := [some (.ref 0), some (.int p1), some (.int p2), some (.ref 358), none]) (by decide) (by decide +kernel) (Nat.le_of_ble_eq_true rfl) rfl ?_
  unfold gL_nameByte
  refine me_aload_n (pc' := 1) (i := 3) dL_nameByte_0 rfl rfl rfl ?_
  refine me_iconst (pc' := 2) (v := 0) dL_nameByte_1 rfl kc_i0 ?_
  refine me_aload_n (pc' := 3) (i := 0) dL_nameByte_2 rfl rfl rfl ?_
  refine me_iload_n (pc' := 4) (i := 1) dL_nameByte_3 rfl rfl rfl ?_
  refine me_iload_n (pc' := 5) (i := 2) dL_nameByte_4 rfl rfl rfl ?_
  refine me_callVH (As := [.int p1, .int p2]) (st := [.int 0, .ref 358]) (F' := (mm_Sq q)) (G' := (mm_Sq q)) (F'' := (mm_Sq q)) (pc' := 8) dL_nameByte_5 rfl mfX10_nameByte rfl lkL_25 kd_0 rfl (mm_ltq kd_0) ⟨Nat.le_of_ble_eq_true rfl, Nat.le_of_ble_eq_true rfl⟩ (Nat.le_of_ble_eq_true rfl) (by decide) (fun z => z) (rX10_nameByte (q := q) p1 p2 h ) (fun x1 e2 => ?_)
  rcases x1 with ⟨v3 | E5, h4⟩
  · refine Or.inl ⟨_, _, rfl, fun z => z, ?_⟩
    show mm_E2 _ _ _ _ _ [.int v3, .int 0, .ref 358] h4 _ _
    try dsimp only
    refine me_i2l (pc' := 9) dL_nameByte_8 rfl ?_
    refine mm_guard (fun c6 => ?_)
    refine me_last (F' := (mm_Sq q)) (pc' := 10) dL_nameByte_9 rfl kd_358 (mm_ltw kd_358 hN) (mm_ibd_of c6) (fun z => z) ?_
    refine mm_bnd (ms_J h4 358 (Int32.toNatClampNeg (0)) ((v3).toInt64)) (fun _ => [some (.ref 0), some (.int p1), some (.int p2), some (.ref 358), none]) (fun _ => []) (fun h7 => h7) (fun h7 => ?_)
    refine me_goto (tgt := 17) dL_nameByte_10 (by decide) ?_
    refine me_iconst (pc' := 18) (v := 0) dL_nameByte_17 rfl kc_i0 ?_
    exact me_iret dL_nameByte_18 rfl (fun z => z) rfl
  · refine Or.inr ⟨_, _, rfl, fun y9 hy9 => ?_⟩
    dsimp only at hy9
    by_cases c8 : E5 = "java/lang/IndexOutOfBoundsException"
    · rw [if_pos c8] at hy9
      rw [c8]
      refine ⟨13, 15, ⟨[], ⟨0, 10, 13, 29⟩, [], rfl, fun _ h9 => absurd h9 List.not_mem_nil, by decide, by decide, rfl, clL_29, ctL_29⟩, Or.inl ⟨4, dL_nameByte_13, Nat.le_of_ble_eq_true rfl, rfl⟩, fun z => z, ?_⟩
      rw [← hy9]
      refine me_iconst (pc' := 16) (v := 1) dL_nameByte_15 rfl kc_i1 ?_
      exact me_iret dL_nameByte_16 rfl (fun z => z) rfl
    · rw [if_neg c8] at hy9
      cases hy9
def gL_findProduct (h : mm_H) : Option (Int32 × mm_H) :=
(gX10_findProduct h).bind (fun (x1 : ((Int32 ⊕ String) × mm_H)) => match x1 with
| (.inl v3, h4) =>
if mm_ibd 0 1 = true then
(some (ms_J h4 358 (Int32.toNatClampNeg (0)) ((v3).toInt64))).bind (fun (h7 : mm_H) =>
some (0, h7)) else none
| (.inr E5, h4) =>
if E5 = "java/util/NoSuchElementException" then
some (1, h4)
else
none)
theorem rL_findProduct {q : Nat × Nat} (h : mm_H) (hN : 360 ≤ q.1) : mm_R2 (mm_Sq q) (mm_Sq q) mL_findProduct [.ref 0, .ref 358] h (gL_findProduct h) lf_ie := by
  refine mm_bodyH (L := [some (.ref 0), some (.ref 358), none]) (by decide) (by decide +kernel) (Nat.le_of_ble_eq_true rfl) rfl ?_
  unfold gL_findProduct
  refine me_aload_n (pc' := 1) (i := 1) dL_findProduct_0 rfl rfl rfl ?_
  refine me_iconst (pc' := 2) (v := 0) dL_findProduct_1 rfl kc_i0 ?_
  refine me_aload_n (pc' := 3) (i := 0) dL_findProduct_2 rfl rfl rfl ?_
  refine me_callVH (As := []) (st := [.int 0, .ref 358]) (F' := (mm_Sq q)) (G' := (mm_Sq q)) (F'' := (mm_Sq q)) (pc' := 6) dL_findProduct_3 rfl mfX10_findProduct rfl lkL_31 kd_0 rfl (mm_ltq kd_0) ⟨Nat.le_of_ble_eq_true rfl, Nat.le_of_ble_eq_true rfl⟩ (Nat.le_of_ble_eq_true rfl) (by decide) (fun z => z) (rX10_findProduct (q := q) h ) (fun x1 e2 => ?_)
  rcases x1 with ⟨v3 | E5, h4⟩
  · refine Or.inl ⟨_, _, rfl, fun z => z, ?_⟩
    show mm_E2 _ _ _ _ _ [.int v3, .int 0, .ref 358] h4 _ _
    try dsimp only
    refine me_i2l (pc' := 7) dL_findProduct_6 rfl ?_
    refine mm_guard (fun c6 => ?_)
    refine me_last (F' := (mm_Sq q)) (pc' := 8) dL_findProduct_7 rfl kd_358 (mm_ltw kd_358 hN) (mm_ibd_of c6) (fun z => z) ?_
    refine mm_bnd (ms_J h4 358 (Int32.toNatClampNeg (0)) ((v3).toInt64)) (fun _ => [some (.ref 0), some (.ref 358), none]) (fun _ => []) (fun h7 => h7) (fun h7 => ?_)
    refine me_goto (tgt := 14) dL_findProduct_8 (by decide) ?_
    refine me_iconst (pc' := 15) (v := 0) dL_findProduct_14 rfl kc_i0 ?_
    exact me_iret dL_findProduct_15 rfl (fun z => z) rfl
  · refine Or.inr ⟨_, _, rfl, fun y9 hy9 => ?_⟩
    dsimp only at hy9
    by_cases c8 : E5 = "java/util/NoSuchElementException"
    · rw [if_pos c8] at hy9
      rw [c8]
      refine ⟨11, 12, ⟨[], ⟨0, 8, 11, 34⟩, [], rfl, fun _ h9 => absurd h9 List.not_mem_nil, by decide, by decide, rfl, clL_34, ctL_34⟩, Or.inr ⟨2, dL_findProduct_11, Nat.le_of_ble_eq_true rfl, rfl⟩, fun z => z, ?_⟩
      rw [← hy9]
      refine me_iconst (pc' := 13) (v := 1) dL_findProduct_12 rfl kc_i1 ?_
      exact me_iret dL_findProduct_13 rfl (fun z => z) rfl
    · rw [if_neg c8] at hy9
      cases hy9
def gL_minimumStock (p1 : Int32) (h : mm_H) : Option (Int32 × mm_H) :=
(gX10_minimumStock p1 h).bind (fun (x1 : ((Int32 ⊕ String) × mm_H)) => match x1 with
| (.inl v3, h4) =>
if mm_ibd 0 1 = true then
(some (ms_J h4 358 (Int32.toNatClampNeg (0)) ((v3).toInt64))).bind (fun (h7 : mm_H) =>
some (0, h7)) else none
| (.inr E5, h4) =>
if E5 = "java/lang/IndexOutOfBoundsException" then
some (1, h4)
else
none)
theorem rL_minimumStock {q : Nat × Nat} (p1 : Int32) (h : mm_H) (hN : 360 ≤ q.1) : mm_R2 (mm_Sq q) (mm_Sq q) mL_minimumStock [.ref 0, .int p1, .ref 358] h (gL_minimumStock p1 h) lf_ie := by
  refine mm_bodyH (L := [some (.ref 0), some (.int p1), some (.ref 358), none]) (by decide) (by decide +kernel) (Nat.le_of_ble_eq_true rfl) rfl ?_
  unfold gL_minimumStock
  refine me_aload_n (pc' := 1) (i := 2) dL_minimumStock_0 rfl rfl rfl ?_
  refine me_iconst (pc' := 2) (v := 0) dL_minimumStock_1 rfl kc_i0 ?_
  refine me_aload_n (pc' := 3) (i := 0) dL_minimumStock_2 rfl rfl rfl ?_
  refine me_iload_n (pc' := 4) (i := 1) dL_minimumStock_3 rfl rfl rfl ?_
  refine me_callVH (As := [.int p1]) (st := [.int 0, .ref 358]) (F' := (mm_Sq q)) (G' := (mm_Sq q)) (F'' := (mm_Sq q)) (pc' := 7) dL_minimumStock_4 rfl mfX10_minimumStock rfl lkL_36 kd_0 rfl (mm_ltq kd_0) ⟨Nat.le_of_ble_eq_true rfl, Nat.le_of_ble_eq_true rfl⟩ (Nat.le_of_ble_eq_true rfl) (by decide) (fun z => z) (rX10_minimumStock (q := q) p1 h ) (fun x1 e2 => ?_)
  rcases x1 with ⟨v3 | E5, h4⟩
  · refine Or.inl ⟨_, _, rfl, fun z => z, ?_⟩
    show mm_E2 _ _ _ _ _ [.int v3, .int 0, .ref 358] h4 _ _
    try dsimp only
    refine me_i2l (pc' := 8) dL_minimumStock_7 rfl ?_
    refine mm_guard (fun c6 => ?_)
    refine me_last (F' := (mm_Sq q)) (pc' := 9) dL_minimumStock_8 rfl kd_358 (mm_ltw kd_358 hN) (mm_ibd_of c6) (fun z => z) ?_
    refine mm_bnd (ms_J h4 358 (Int32.toNatClampNeg (0)) ((v3).toInt64)) (fun _ => [some (.ref 0), some (.int p1), some (.ref 358), none]) (fun _ => []) (fun h7 => h7) (fun h7 => ?_)
    refine me_goto (tgt := 15) dL_minimumStock_9 (by decide) ?_
    refine me_iconst (pc' := 16) (v := 0) dL_minimumStock_15 rfl kc_i0 ?_
    exact me_iret dL_minimumStock_16 rfl (fun z => z) rfl
  · refine Or.inr ⟨_, _, rfl, fun y9 hy9 => ?_⟩
    dsimp only at hy9
    by_cases c8 : E5 = "java/lang/IndexOutOfBoundsException"
    · rw [if_pos c8] at hy9
      rw [c8]
      refine ⟨12, 13, ⟨[], ⟨0, 9, 12, 29⟩, [], rfl, fun _ h9 => absurd h9 List.not_mem_nil, by decide, by decide, rfl, clL_29, ctL_29⟩, Or.inr ⟨3, dL_minimumStock_12, Nat.le_of_ble_eq_true rfl, rfl⟩, fun z => z, ?_⟩
      rw [← hy9]
      refine me_iconst (pc' := 14) (v := 1) dL_minimumStock_13 rfl kc_i1 ?_
      exact me_iret dL_minimumStock_14 rfl (fun z => z) rfl
    · rw [if_neg c8] at hy9
      cases hy9
def gL_onHand (p1 : Int32) (h : mm_H) : Option (Int32 × mm_H) :=
(gX10_onHand p1 h).bind (fun (x1 : ((Int32 ⊕ String) × mm_H)) => match x1 with
| (.inl v3, h4) =>
if mm_ibd 0 1 = true then
(some (ms_J h4 358 (Int32.toNatClampNeg (0)) ((v3).toInt64))).bind (fun (h7 : mm_H) =>
some (0, h7)) else none
| (.inr E5, h4) =>
if E5 = "java/lang/IndexOutOfBoundsException" then
some (1, h4)
else
none)
theorem rL_onHand {q : Nat × Nat} (p1 : Int32) (h : mm_H) (hN : 360 ≤ q.1) : mm_R2 (mm_Sq q) (mm_Sq q) mL_onHand [.ref 0, .int p1, .ref 358] h (gL_onHand p1 h) lf_ie := by
  refine mm_bodyH (L := [some (.ref 0), some (.int p1), some (.ref 358), none]) (by decide) (by decide +kernel) (Nat.le_of_ble_eq_true rfl) rfl ?_
  unfold gL_onHand
  refine me_aload_n (pc' := 1) (i := 2) dL_onHand_0 rfl rfl rfl ?_
  refine me_iconst (pc' := 2) (v := 0) dL_onHand_1 rfl kc_i0 ?_
  refine me_aload_n (pc' := 3) (i := 0) dL_onHand_2 rfl rfl rfl ?_
  refine me_iload_n (pc' := 4) (i := 1) dL_onHand_3 rfl rfl rfl ?_
  refine me_callVH (As := [.int p1]) (st := [.int 0, .ref 358]) (F' := (mm_Sq q)) (G' := (mm_Sq q)) (F'' := (mm_Sq q)) (pc' := 7) dL_onHand_4 rfl mfX10_onHand rfl lkL_39 kd_0 rfl (mm_ltq kd_0) ⟨Nat.le_of_ble_eq_true rfl, Nat.le_of_ble_eq_true rfl⟩ (Nat.le_of_ble_eq_true rfl) (by decide) (fun z => z) (rX10_onHand (q := q) p1 h ) (fun x1 e2 => ?_)
  rcases x1 with ⟨v3 | E5, h4⟩
  · refine Or.inl ⟨_, _, rfl, fun z => z, ?_⟩
    show mm_E2 _ _ _ _ _ [.int v3, .int 0, .ref 358] h4 _ _
    try dsimp only
    refine me_i2l (pc' := 8) dL_onHand_7 rfl ?_
    refine mm_guard (fun c6 => ?_)
    refine me_last (F' := (mm_Sq q)) (pc' := 9) dL_onHand_8 rfl kd_358 (mm_ltw kd_358 hN) (mm_ibd_of c6) (fun z => z) ?_
    refine mm_bnd (ms_J h4 358 (Int32.toNatClampNeg (0)) ((v3).toInt64)) (fun _ => [some (.ref 0), some (.int p1), some (.ref 358), none]) (fun _ => []) (fun h7 => h7) (fun h7 => ?_)
    refine me_goto (tgt := 15) dL_onHand_9 (by decide) ?_
    refine me_iconst (pc' := 16) (v := 0) dL_onHand_15 rfl kc_i0 ?_
    exact me_iret dL_onHand_16 rfl (fun z => z) rfl
  · refine Or.inr ⟨_, _, rfl, fun y9 hy9 => ?_⟩
    dsimp only at hy9
    by_cases c8 : E5 = "java/lang/IndexOutOfBoundsException"
    · rw [if_pos c8] at hy9
      rw [c8]
      refine ⟨12, 13, ⟨[], ⟨0, 9, 12, 29⟩, [], rfl, fun _ h9 => absurd h9 List.not_mem_nil, by decide, by decide, rfl, clL_29, ctL_29⟩, Or.inr ⟨3, dL_onHand_12, Nat.le_of_ble_eq_true rfl, rfl⟩, fun z => z, ?_⟩
      rw [← hy9]
      refine me_iconst (pc' := 14) (v := 1) dL_onHand_13 rfl kc_i1 ?_
      exact me_iret dL_onHand_14 rfl (fun z => z) rfl
    · rw [if_neg c8] at hy9
      cases hy9
def gL_reserved (p1 : Int32) (h : mm_H) : Option (Int32 × mm_H) :=
(gX10_reserved p1 h).bind (fun (x1 : ((Int32 ⊕ String) × mm_H)) => match x1 with
| (.inl v3, h4) =>
if mm_ibd 0 1 = true then
(some (ms_J h4 358 (Int32.toNatClampNeg (0)) ((v3).toInt64))).bind (fun (h7 : mm_H) =>
some (0, h7)) else none
| (.inr E5, h4) =>
if E5 = "java/lang/IndexOutOfBoundsException" then
some (1, h4)
else
none)
theorem rL_reserved {q : Nat × Nat} (p1 : Int32) (h : mm_H) (hN : 360 ≤ q.1) : mm_R2 (mm_Sq q) (mm_Sq q) mL_reserved [.ref 0, .int p1, .ref 358] h (gL_reserved p1 h) lf_ie := by
  refine mm_bodyH (L := [some (.ref 0), some (.int p1), some (.ref 358), none]) (by decide) (by decide +kernel) (Nat.le_of_ble_eq_true rfl) rfl ?_
  unfold gL_reserved
  refine me_aload_n (pc' := 1) (i := 2) dL_reserved_0 rfl rfl rfl ?_
  refine me_iconst (pc' := 2) (v := 0) dL_reserved_1 rfl kc_i0 ?_
  refine me_aload_n (pc' := 3) (i := 0) dL_reserved_2 rfl rfl rfl ?_
  refine me_iload_n (pc' := 4) (i := 1) dL_reserved_3 rfl rfl rfl ?_
  refine me_callVH (As := [.int p1]) (st := [.int 0, .ref 358]) (F' := (mm_Sq q)) (G' := (mm_Sq q)) (F'' := (mm_Sq q)) (pc' := 7) dL_reserved_4 rfl mfX10_reserved rfl lkL_42 kd_0 rfl (mm_ltq kd_0) ⟨Nat.le_of_ble_eq_true rfl, Nat.le_of_ble_eq_true rfl⟩ (Nat.le_of_ble_eq_true rfl) (by decide) (fun z => z) (rX10_reserved (q := q) p1 h ) (fun x1 e2 => ?_)
  rcases x1 with ⟨v3 | E5, h4⟩
  · refine Or.inl ⟨_, _, rfl, fun z => z, ?_⟩
    show mm_E2 _ _ _ _ _ [.int v3, .int 0, .ref 358] h4 _ _
    try dsimp only
    refine me_i2l (pc' := 8) dL_reserved_7 rfl ?_
    refine mm_guard (fun c6 => ?_)
    refine me_last (F' := (mm_Sq q)) (pc' := 9) dL_reserved_8 rfl kd_358 (mm_ltw kd_358 hN) (mm_ibd_of c6) (fun z => z) ?_
    refine mm_bnd (ms_J h4 358 (Int32.toNatClampNeg (0)) ((v3).toInt64)) (fun _ => [some (.ref 0), some (.int p1), some (.ref 358), none]) (fun _ => []) (fun h7 => h7) (fun h7 => ?_)
    refine me_goto (tgt := 15) dL_reserved_9 (by decide) ?_
    refine me_iconst (pc' := 16) (v := 0) dL_reserved_15 rfl kc_i0 ?_
    exact me_iret dL_reserved_16 rfl (fun z => z) rfl
  · refine Or.inr ⟨_, _, rfl, fun y9 hy9 => ?_⟩
    dsimp only at hy9
    by_cases c8 : E5 = "java/lang/IndexOutOfBoundsException"
    · rw [if_pos c8] at hy9
      rw [c8]
      refine ⟨12, 13, ⟨[], ⟨0, 9, 12, 29⟩, [], rfl, fun _ h9 => absurd h9 List.not_mem_nil, by decide, by decide, rfl, clL_29, ctL_29⟩, Or.inr ⟨3, dL_reserved_12, Nat.le_of_ble_eq_true rfl, rfl⟩, fun z => z, ?_⟩
      rw [← hy9]
      refine me_iconst (pc' := 14) (v := 1) dL_reserved_13 rfl kc_i1 ?_
      exact me_iret dL_reserved_14 rfl (fun z => z) rfl
    · rw [if_neg c8] at hy9
      cases hy9
def gL_availableOn (p1 : Int32) (p2 : Int32) (h : mm_H) : Option (Int32 × mm_H) :=
(gX10_availableOn p1 p2 h).bind (fun (x1 : ((Int32 ⊕ String) × mm_H)) => match x1 with
| (.inl v3, h4) =>
if mm_ibd 0 1 = true then
(some (ms_J h4 358 (Int32.toNatClampNeg (0)) ((v3).toInt64))).bind (fun (h7 : mm_H) =>
some (0, h7)) else none
| (.inr E5, h4) =>
if E5 = "java/lang/IndexOutOfBoundsException" then
some (1, h4)
else
if E5 = "java/lang/IllegalArgumentException" then
some (2, h4)
else
none)
theorem rL_availableOn {q : Nat × Nat} (p1 : Int32) (p2 : Int32) (h : mm_H) (hN : 360 ≤ q.1) : mm_R2 (mm_Sq q) (mm_Sq q) mL_availableOn [.ref 0, .int p1, .int p2, .ref 358] h (gL_availableOn p1 p2 h) lf_ie := by
  refine mm_bodyH (L := [some (.ref 0), some (.int p1), some (.int p2), some (.ref 358), none]) (by decide) (by decide +kernel) (Nat.le_of_ble_eq_true rfl) rfl ?_
  unfold gL_availableOn
  refine me_aload_n (pc' := 1) (i := 3) dL_availableOn_0 rfl rfl rfl ?_
  refine me_iconst (pc' := 2) (v := 0) dL_availableOn_1 rfl kc_i0 ?_
  refine me_aload_n (pc' := 3) (i := 0) dL_availableOn_2 rfl rfl rfl ?_
  refine me_iload_n (pc' := 4) (i := 1) dL_availableOn_3 rfl rfl rfl ?_
  refine me_iload_n (pc' := 5) (i := 2) dL_availableOn_4 rfl rfl rfl ?_
  refine me_callVH (As := [.int p1, .int p2]) (st := [.int 0, .ref 358]) (F' := (mm_Sq q)) (G' := (mm_Sq q)) (F'' := (mm_Sq q)) (pc' := 8) dL_availableOn_5 rfl mfX10_availableOn rfl lkL_45 kd_0 rfl (mm_ltq kd_0) ⟨Nat.le_of_ble_eq_true rfl, Nat.le_of_ble_eq_true rfl⟩ (Nat.le_of_ble_eq_true rfl) (by decide) (fun z => z) (rX10_availableOn (q := q) p1 p2 h ) (fun x1 e2 => ?_)
  rcases x1 with ⟨v3 | E5, h4⟩
  · refine Or.inl ⟨_, _, rfl, fun z => z, ?_⟩
    show mm_E2 _ _ _ _ _ [.int v3, .int 0, .ref 358] h4 _ _
    try dsimp only
    refine me_i2l (pc' := 9) dL_availableOn_8 rfl ?_
    refine mm_guard (fun c6 => ?_)
    refine me_last (F' := (mm_Sq q)) (pc' := 10) dL_availableOn_9 rfl kd_358 (mm_ltw kd_358 hN) (mm_ibd_of c6) (fun z => z) ?_
    refine mm_bnd (ms_J h4 358 (Int32.toNatClampNeg (0)) ((v3).toInt64)) (fun _ => [some (.ref 0), some (.int p1), some (.int p2), some (.ref 358), none]) (fun _ => []) (fun h7 => h7) (fun h7 => ?_)
    refine me_goto (tgt := 21) dL_availableOn_10 (by decide) ?_
    refine me_iconst (pc' := 22) (v := 0) dL_availableOn_21 rfl kc_i0 ?_
    exact me_iret dL_availableOn_22 rfl (fun z => z) rfl
  · refine Or.inr ⟨_, _, rfl, fun y9 hy9 => ?_⟩
    dsimp only at hy9
    by_cases c8 : E5 = "java/lang/IndexOutOfBoundsException"
    · rw [if_pos c8] at hy9
      rw [c8]
      refine ⟨13, 15, ⟨[], ⟨0, 10, 13, 29⟩, [⟨0, 10, 17, 19⟩], rfl, fun _ h9 => absurd h9 List.not_mem_nil, by decide, by decide, rfl, clL_29, ctL_29⟩, Or.inl ⟨4, dL_availableOn_13, Nat.le_of_ble_eq_true rfl, rfl⟩, fun z => z, ?_⟩
      rw [← hy9]
      refine me_iconst (pc' := 16) (v := 1) dL_availableOn_15 rfl kc_i1 ?_
      exact me_iret dL_availableOn_16 rfl (fun z => z) rfl
    · rw [if_neg c8] at hy9
      by_cases c9 : E5 = "java/lang/IllegalArgumentException"
      · rw [if_pos c9] at hy9
        rw [c9]
        refine ⟨17, 19, ⟨[⟨0, 10, 13, 29⟩], ⟨0, 10, 17, 19⟩, [], rfl, List.forall_mem_cons.mpr ⟨⟨by decide, _, clL_29, by decide +kernel⟩, fun _ h9 => absurd h9 List.not_mem_nil⟩, by decide, by decide, rfl, clL_19, ctL_19⟩, Or.inl ⟨4, dL_availableOn_17, Nat.le_of_ble_eq_true rfl, rfl⟩, fun z => z, ?_⟩
        rw [← hy9]
        refine me_iconst (pc' := 20) (v := 2) dL_availableOn_19 rfl kc_i2 ?_
        exact me_iret dL_availableOn_20 rfl (fun z => z) rfl
      · rw [if_neg c9] at hy9
        cases hy9
def gL_expired (p1 : Int32) (h : mm_H) : Option (Int32 × mm_H) :=
(gX10_expired p1 h).bind (fun (x1 : ((Int32 ⊕ String) × mm_H)) => match x1 with
| (.inl v3, h4) =>
if mm_ibd 0 1 = true then
(some (ms_J h4 358 (Int32.toNatClampNeg (0)) ((v3).toInt64))).bind (fun (h7 : mm_H) =>
some (0, h7)) else none
| (.inr E5, h4) =>
if E5 = "java/lang/IndexOutOfBoundsException" then
some (1, h4)
else
none)
theorem rL_expired {q : Nat × Nat} (p1 : Int32) (h : mm_H) (hN : 360 ≤ q.1) : mm_R2 (mm_Sq q) (mm_Sq q) mL_expired [.ref 0, .int p1, .ref 358] h (gL_expired p1 h) lf_ie := by
  refine mm_bodyH (L := [some (.ref 0), some (.int p1), some (.ref 358), none]) (by decide) (by decide +kernel) (Nat.le_of_ble_eq_true rfl) rfl ?_
  unfold gL_expired
  refine me_aload_n (pc' := 1) (i := 2) dL_expired_0 rfl rfl rfl ?_
  refine me_iconst (pc' := 2) (v := 0) dL_expired_1 rfl kc_i0 ?_
  refine me_aload_n (pc' := 3) (i := 0) dL_expired_2 rfl rfl rfl ?_
  refine me_iload_n (pc' := 4) (i := 1) dL_expired_3 rfl rfl rfl ?_
  refine me_callVH (As := [.int p1]) (st := [.int 0, .ref 358]) (F' := (mm_Sq q)) (G' := (mm_Sq q)) (F'' := (mm_Sq q)) (pc' := 7) dL_expired_4 rfl mfX10_expired rfl lkL_48 kd_0 rfl (mm_ltq kd_0) ⟨Nat.le_of_ble_eq_true rfl, Nat.le_of_ble_eq_true rfl⟩ (Nat.le_of_ble_eq_true rfl) (by decide) (fun z => z) (rX10_expired (q := q) p1 h ) (fun x1 e2 => ?_)
  rcases x1 with ⟨v3 | E5, h4⟩
  · refine Or.inl ⟨_, _, rfl, fun z => z, ?_⟩
    show mm_E2 _ _ _ _ _ [.int v3, .int 0, .ref 358] h4 _ _
    try dsimp only
    refine me_i2l (pc' := 8) dL_expired_7 rfl ?_
    refine mm_guard (fun c6 => ?_)
    refine me_last (F' := (mm_Sq q)) (pc' := 9) dL_expired_8 rfl kd_358 (mm_ltw kd_358 hN) (mm_ibd_of c6) (fun z => z) ?_
    refine mm_bnd (ms_J h4 358 (Int32.toNatClampNeg (0)) ((v3).toInt64)) (fun _ => [some (.ref 0), some (.int p1), some (.ref 358), none]) (fun _ => []) (fun h7 => h7) (fun h7 => ?_)
    refine me_goto (tgt := 15) dL_expired_9 (by decide) ?_
    refine me_iconst (pc' := 16) (v := 0) dL_expired_15 rfl kc_i0 ?_
    exact me_iret dL_expired_16 rfl (fun z => z) rfl
  · refine Or.inr ⟨_, _, rfl, fun y9 hy9 => ?_⟩
    dsimp only at hy9
    by_cases c8 : E5 = "java/lang/IndexOutOfBoundsException"
    · rw [if_pos c8] at hy9
      rw [c8]
      refine ⟨12, 13, ⟨[], ⟨0, 9, 12, 29⟩, [], rfl, fun _ h9 => absurd h9 List.not_mem_nil, by decide, by decide, rfl, clL_29, ctL_29⟩, Or.inr ⟨3, dL_expired_12, Nat.le_of_ble_eq_true rfl, rfl⟩, fun z => z, ?_⟩
      rw [← hy9]
      refine me_iconst (pc' := 14) (v := 1) dL_expired_13 rfl kc_i1 ?_
      exact me_iret dL_expired_14 rfl (fun z => z) rfl
    · rw [if_neg c8] at hy9
      cases hy9
def gL_expiringWithin (p1 : Int32) (p2 : Int32) (h : mm_H) : Option (Int32 × mm_H) :=
(gX10_expiringWithin p1 p2 h).bind (fun (x1 : ((Int32 ⊕ String) × mm_H)) => match x1 with
| (.inl v3, h4) =>
if mm_ibd 0 1 = true then
(some (ms_J h4 358 (Int32.toNatClampNeg (0)) ((v3).toInt64))).bind (fun (h7 : mm_H) =>
some (0, h7)) else none
| (.inr E5, h4) =>
if E5 = "java/lang/IndexOutOfBoundsException" then
some (1, h4)
else
if E5 = "java/lang/IllegalArgumentException" then
some (2, h4)
else
none)
theorem rL_expiringWithin {q : Nat × Nat} (p1 : Int32) (p2 : Int32) (h : mm_H) (hN : 360 ≤ q.1) : mm_R2 (mm_Sq q) (mm_Sq q) mL_expiringWithin [.ref 0, .int p1, .int p2, .ref 358] h (gL_expiringWithin p1 p2 h) lf_ie := by
  refine mm_bodyH (L := [some (.ref 0), some (.int p1), some (.int p2), some (.ref 358), none]) (by decide) (by decide +kernel) (Nat.le_of_ble_eq_true rfl) rfl ?_
  unfold gL_expiringWithin
  refine me_aload_n (pc' := 1) (i := 3) dL_expiringWithin_0 rfl rfl rfl ?_
  refine me_iconst (pc' := 2) (v := 0) dL_expiringWithin_1 rfl kc_i0 ?_
  refine me_aload_n (pc' := 3) (i := 0) dL_expiringWithin_2 rfl rfl rfl ?_
  refine me_iload_n (pc' := 4) (i := 1) dL_expiringWithin_3 rfl rfl rfl ?_
  refine me_iload_n (pc' := 5) (i := 2) dL_expiringWithin_4 rfl rfl rfl ?_
  refine me_callVH (As := [.int p1, .int p2]) (st := [.int 0, .ref 358]) (F' := (mm_Sq q)) (G' := (mm_Sq q)) (F'' := (mm_Sq q)) (pc' := 8) dL_expiringWithin_5 rfl mfX10_expiringWithin rfl lkL_51 kd_0 rfl (mm_ltq kd_0) ⟨Nat.le_of_ble_eq_true rfl, Nat.le_of_ble_eq_true rfl⟩ (Nat.le_of_ble_eq_true rfl) (by decide) (fun z => z) (rX10_expiringWithin (q := q) p1 p2 h ) (fun x1 e2 => ?_)
  rcases x1 with ⟨v3 | E5, h4⟩
  · refine Or.inl ⟨_, _, rfl, fun z => z, ?_⟩
    show mm_E2 _ _ _ _ _ [.int v3, .int 0, .ref 358] h4 _ _
    try dsimp only
    refine me_i2l (pc' := 9) dL_expiringWithin_8 rfl ?_
    refine mm_guard (fun c6 => ?_)
    refine me_last (F' := (mm_Sq q)) (pc' := 10) dL_expiringWithin_9 rfl kd_358 (mm_ltw kd_358 hN) (mm_ibd_of c6) (fun z => z) ?_
    refine mm_bnd (ms_J h4 358 (Int32.toNatClampNeg (0)) ((v3).toInt64)) (fun _ => [some (.ref 0), some (.int p1), some (.int p2), some (.ref 358), none]) (fun _ => []) (fun h7 => h7) (fun h7 => ?_)
    refine me_goto (tgt := 21) dL_expiringWithin_10 (by decide) ?_
    refine me_iconst (pc' := 22) (v := 0) dL_expiringWithin_21 rfl kc_i0 ?_
    exact me_iret dL_expiringWithin_22 rfl (fun z => z) rfl
  · refine Or.inr ⟨_, _, rfl, fun y9 hy9 => ?_⟩
    dsimp only at hy9
    by_cases c8 : E5 = "java/lang/IndexOutOfBoundsException"
    · rw [if_pos c8] at hy9
      rw [c8]
      refine ⟨13, 15, ⟨[], ⟨0, 10, 13, 29⟩, [⟨0, 10, 17, 19⟩], rfl, fun _ h9 => absurd h9 List.not_mem_nil, by decide, by decide, rfl, clL_29, ctL_29⟩, Or.inl ⟨4, dL_expiringWithin_13, Nat.le_of_ble_eq_true rfl, rfl⟩, fun z => z, ?_⟩
      rw [← hy9]
      refine me_iconst (pc' := 16) (v := 1) dL_expiringWithin_15 rfl kc_i1 ?_
      exact me_iret dL_expiringWithin_16 rfl (fun z => z) rfl
    · rw [if_neg c8] at hy9
      by_cases c9 : E5 = "java/lang/IllegalArgumentException"
      · rw [if_pos c9] at hy9
        rw [c9]
        refine ⟨17, 19, ⟨[⟨0, 10, 13, 29⟩], ⟨0, 10, 17, 19⟩, [], rfl, List.forall_mem_cons.mpr ⟨⟨by decide, _, clL_29, by decide +kernel⟩, fun _ h9 => absurd h9 List.not_mem_nil⟩, by decide, by decide, rfl, clL_19, ctL_19⟩, Or.inl ⟨4, dL_expiringWithin_17, Nat.le_of_ble_eq_true rfl, rfl⟩, fun z => z, ?_⟩
        rw [← hy9]
        refine me_iconst (pc' := 20) (v := 2) dL_expiringWithin_19 rfl kc_i2 ?_
        exact me_iret dL_expiringWithin_20 rfl (fun z => z) rfl
      · rw [if_neg c9] at hy9
        cases hy9
def gL_stockValue (p1 : Int32) (h : mm_H) : Option (Int32 × mm_H) :=
(gX10_stockValue p1 h).bind (fun (x1 : ((Int32 ⊕ String) × mm_H)) => match x1 with
| (.inl v3, h4) =>
if mm_ibd 0 1 = true then
(some (ms_J h4 358 (Int32.toNatClampNeg (0)) ((v3).toInt64))).bind (fun (h7 : mm_H) =>
some (0, h7)) else none
| (.inr E5, h4) =>
if E5 = "java/lang/IndexOutOfBoundsException" then
some (1, h4)
else
none)
theorem rL_stockValue {q : Nat × Nat} (p1 : Int32) (h : mm_H) (hN : 360 ≤ q.1) : mm_R2 (mm_Sq q) (mm_Sq q) mL_stockValue [.ref 0, .int p1, .ref 358] h (gL_stockValue p1 h) lf_ie := by
  refine mm_bodyH (L := [some (.ref 0), some (.int p1), some (.ref 358), none]) (by decide) (by decide +kernel) (Nat.le_of_ble_eq_true rfl) rfl ?_
  unfold gL_stockValue
  refine me_aload_n (pc' := 1) (i := 2) dL_stockValue_0 rfl rfl rfl ?_
  refine me_iconst (pc' := 2) (v := 0) dL_stockValue_1 rfl kc_i0 ?_
  refine me_aload_n (pc' := 3) (i := 0) dL_stockValue_2 rfl rfl rfl ?_
  refine me_iload_n (pc' := 4) (i := 1) dL_stockValue_3 rfl rfl rfl ?_
  refine me_callVH (As := [.int p1]) (st := [.int 0, .ref 358]) (F' := (mm_Sq q)) (G' := (mm_Sq q)) (F'' := (mm_Sq q)) (pc' := 7) dL_stockValue_4 rfl mfX10_stockValue rfl lkL_54 kd_0 rfl (mm_ltq kd_0) ⟨Nat.le_of_ble_eq_true rfl, Nat.le_of_ble_eq_true rfl⟩ (Nat.le_of_ble_eq_true rfl) (by decide) (fun z => z) (rX10_stockValue (q := q) p1 h ) (fun x1 e2 => ?_)
  rcases x1 with ⟨v3 | E5, h4⟩
  · refine Or.inl ⟨_, _, rfl, fun z => z, ?_⟩
    show mm_E2 _ _ _ _ _ [.int v3, .int 0, .ref 358] h4 _ _
    try dsimp only
    refine me_i2l (pc' := 8) dL_stockValue_7 rfl ?_
    refine mm_guard (fun c6 => ?_)
    refine me_last (F' := (mm_Sq q)) (pc' := 9) dL_stockValue_8 rfl kd_358 (mm_ltw kd_358 hN) (mm_ibd_of c6) (fun z => z) ?_
    refine mm_bnd (ms_J h4 358 (Int32.toNatClampNeg (0)) ((v3).toInt64)) (fun _ => [some (.ref 0), some (.int p1), some (.ref 358), none]) (fun _ => []) (fun h7 => h7) (fun h7 => ?_)
    refine me_goto (tgt := 15) dL_stockValue_9 (by decide) ?_
    refine me_iconst (pc' := 16) (v := 0) dL_stockValue_15 rfl kc_i0 ?_
    exact me_iret dL_stockValue_16 rfl (fun z => z) rfl
  · refine Or.inr ⟨_, _, rfl, fun y9 hy9 => ?_⟩
    dsimp only at hy9
    by_cases c8 : E5 = "java/lang/IndexOutOfBoundsException"
    · rw [if_pos c8] at hy9
      rw [c8]
      refine ⟨12, 13, ⟨[], ⟨0, 9, 12, 29⟩, [], rfl, fun _ h9 => absurd h9 List.not_mem_nil, by decide, by decide, rfl, clL_29, ctL_29⟩, Or.inr ⟨3, dL_stockValue_12, Nat.le_of_ble_eq_true rfl, rfl⟩, fun z => z, ?_⟩
      rw [← hy9]
      refine me_iconst (pc' := 14) (v := 1) dL_stockValue_13 rfl kc_i1 ?_
      exact me_iret dL_stockValue_14 rfl (fun z => z) rfl
    · rw [if_neg c8] at hy9
      cases hy9
def gL_reorderQuantity (p1 : Int32) (h : mm_H) : Option (Int32 × mm_H) :=
(gX10_reorderQuantity p1 h).bind (fun (x1 : ((Int32 ⊕ String) × mm_H)) => match x1 with
| (.inl v3, h4) =>
if mm_ibd 0 1 = true then
(some (ms_J h4 358 (Int32.toNatClampNeg (0)) ((v3).toInt64))).bind (fun (h7 : mm_H) =>
some (0, h7)) else none
| (.inr E5, h4) =>
if E5 = "java/lang/IndexOutOfBoundsException" then
some (1, h4)
else
none)
theorem rL_reorderQuantity {q : Nat × Nat} (p1 : Int32) (h : mm_H) (hN : 360 ≤ q.1) : mm_R2 (mm_Sq q) (mm_Sq q) mL_reorderQuantity [.ref 0, .int p1, .ref 358] h (gL_reorderQuantity p1 h) lf_ie := by
  refine mm_bodyH (L := [some (.ref 0), some (.int p1), some (.ref 358), none]) (by decide) (by decide +kernel) (Nat.le_of_ble_eq_true rfl) rfl ?_
  unfold gL_reorderQuantity
  refine me_aload_n (pc' := 1) (i := 2) dL_reorderQuantity_0 rfl rfl rfl ?_
  refine me_iconst (pc' := 2) (v := 0) dL_reorderQuantity_1 rfl kc_i0 ?_
  refine me_aload_n (pc' := 3) (i := 0) dL_reorderQuantity_2 rfl rfl rfl ?_
  refine me_iload_n (pc' := 4) (i := 1) dL_reorderQuantity_3 rfl rfl rfl ?_
  refine me_callVH (As := [.int p1]) (st := [.int 0, .ref 358]) (F' := (mm_Sq q)) (G' := (mm_Sq q)) (F'' := (mm_Sq q)) (pc' := 7) dL_reorderQuantity_4 rfl mfX10_reorderQuantity rfl lkL_57 kd_0 rfl (mm_ltq kd_0) ⟨Nat.le_of_ble_eq_true rfl, Nat.le_of_ble_eq_true rfl⟩ (Nat.le_of_ble_eq_true rfl) (by decide) (fun z => z) (rX10_reorderQuantity (q := q) p1 h ) (fun x1 e2 => ?_)
  rcases x1 with ⟨v3 | E5, h4⟩
  · refine Or.inl ⟨_, _, rfl, fun z => z, ?_⟩
    show mm_E2 _ _ _ _ _ [.int v3, .int 0, .ref 358] h4 _ _
    try dsimp only
    refine me_i2l (pc' := 8) dL_reorderQuantity_7 rfl ?_
    refine mm_guard (fun c6 => ?_)
    refine me_last (F' := (mm_Sq q)) (pc' := 9) dL_reorderQuantity_8 rfl kd_358 (mm_ltw kd_358 hN) (mm_ibd_of c6) (fun z => z) ?_
    refine mm_bnd (ms_J h4 358 (Int32.toNatClampNeg (0)) ((v3).toInt64)) (fun _ => [some (.ref 0), some (.int p1), some (.ref 358), none]) (fun _ => []) (fun h7 => h7) (fun h7 => ?_)
    refine me_goto (tgt := 15) dL_reorderQuantity_9 (by decide) ?_
    refine me_iconst (pc' := 16) (v := 0) dL_reorderQuantity_15 rfl kc_i0 ?_
    exact me_iret dL_reorderQuantity_16 rfl (fun z => z) rfl
  · refine Or.inr ⟨_, _, rfl, fun y9 hy9 => ?_⟩
    dsimp only at hy9
    by_cases c8 : E5 = "java/lang/IndexOutOfBoundsException"
    · rw [if_pos c8] at hy9
      rw [c8]
      refine ⟨12, 13, ⟨[], ⟨0, 9, 12, 29⟩, [], rfl, fun _ h9 => absurd h9 List.not_mem_nil, by decide, by decide, rfl, clL_29, ctL_29⟩, Or.inr ⟨3, dL_reorderQuantity_12, Nat.le_of_ble_eq_true rfl, rfl⟩, fun z => z, ?_⟩
      rw [← hy9]
      refine me_iconst (pc' := 14) (v := 1) dL_reorderQuantity_13 rfl kc_i1 ?_
      exact me_iret dL_reorderQuantity_14 rfl (fun z => z) rfl
    · rw [if_neg c8] at hy9
      cases hy9
def gL_productOf (p1 : Int32) (h : mm_H) : Option (Int32 × mm_H) :=
(gX10_productOf p1 h).bind (fun (x1 : ((Int32 ⊕ String) × mm_H)) => match x1 with
| (.inl v3, h4) =>
if mm_ibd 0 1 = true then
(some (ms_J h4 358 (Int32.toNatClampNeg (0)) ((v3).toInt64))).bind (fun (h7 : mm_H) =>
some (0, h7)) else none
| (.inr E5, h4) =>
if E5 = "java/lang/IndexOutOfBoundsException" then
some (1, h4)
else
none)
theorem rL_productOf {q : Nat × Nat} (p1 : Int32) (h : mm_H) (hN : 360 ≤ q.1) : mm_R2 (mm_Sq q) (mm_Sq q) mL_productOf [.ref 0, .int p1, .ref 358] h (gL_productOf p1 h) lf_ie := by
  refine mm_bodyH (L := [some (.ref 0), some (.int p1), some (.ref 358), none]) (by decide) (by decide +kernel) (Nat.le_of_ble_eq_true rfl) rfl ?_
  unfold gL_productOf
  refine me_aload_n (pc' := 1) (i := 2) dL_productOf_0 rfl rfl rfl ?_
  refine me_iconst (pc' := 2) (v := 0) dL_productOf_1 rfl kc_i0 ?_
  refine me_aload_n (pc' := 3) (i := 0) dL_productOf_2 rfl rfl rfl ?_
  refine me_iload_n (pc' := 4) (i := 1) dL_productOf_3 rfl rfl rfl ?_
  refine me_callVH (As := [.int p1]) (st := [.int 0, .ref 358]) (F' := (mm_Sq q)) (G' := (mm_Sq q)) (F'' := (mm_Sq q)) (pc' := 7) dL_productOf_4 rfl mfX10_productOf rfl lkL_60 kd_0 rfl (mm_ltq kd_0) ⟨Nat.le_of_ble_eq_true rfl, Nat.le_of_ble_eq_true rfl⟩ (Nat.le_of_ble_eq_true rfl) (by decide) (fun z => z) (rX10_productOf (q := q) p1 h ) (fun x1 e2 => ?_)
  rcases x1 with ⟨v3 | E5, h4⟩
  · refine Or.inl ⟨_, _, rfl, fun z => z, ?_⟩
    show mm_E2 _ _ _ _ _ [.int v3, .int 0, .ref 358] h4 _ _
    try dsimp only
    refine me_i2l (pc' := 8) dL_productOf_7 rfl ?_
    refine mm_guard (fun c6 => ?_)
    refine me_last (F' := (mm_Sq q)) (pc' := 9) dL_productOf_8 rfl kd_358 (mm_ltw kd_358 hN) (mm_ibd_of c6) (fun z => z) ?_
    refine mm_bnd (ms_J h4 358 (Int32.toNatClampNeg (0)) ((v3).toInt64)) (fun _ => [some (.ref 0), some (.int p1), some (.ref 358), none]) (fun _ => []) (fun h7 => h7) (fun h7 => ?_)
    refine me_goto (tgt := 15) dL_productOf_9 (by decide) ?_
    refine me_iconst (pc' := 16) (v := 0) dL_productOf_15 rfl kc_i0 ?_
    exact me_iret dL_productOf_16 rfl (fun z => z) rfl
  · refine Or.inr ⟨_, _, rfl, fun y9 hy9 => ?_⟩
    dsimp only at hy9
    by_cases c8 : E5 = "java/lang/IndexOutOfBoundsException"
    · rw [if_pos c8] at hy9
      rw [c8]
      refine ⟨12, 13, ⟨[], ⟨0, 9, 12, 29⟩, [], rfl, fun _ h9 => absurd h9 List.not_mem_nil, by decide, by decide, rfl, clL_29, ctL_29⟩, Or.inr ⟨3, dL_productOf_12, Nat.le_of_ble_eq_true rfl, rfl⟩, fun z => z, ?_⟩
      rw [← hy9]
      refine me_iconst (pc' := 14) (v := 1) dL_productOf_13 rfl kc_i1 ?_
      exact me_iret dL_productOf_14 rfl (fun z => z) rfl
    · rw [if_neg c8] at hy9
      cases hy9
def gL_quantity (p1 : Int32) (h : mm_H) : Option (Int32 × mm_H) :=
(gX10_quantity p1 h).bind (fun (x1 : ((Int32 ⊕ String) × mm_H)) => match x1 with
| (.inl v3, h4) =>
if mm_ibd 0 1 = true then
(some (ms_J h4 358 (Int32.toNatClampNeg (0)) ((v3).toInt64))).bind (fun (h7 : mm_H) =>
some (0, h7)) else none
| (.inr E5, h4) =>
if E5 = "java/lang/IndexOutOfBoundsException" then
some (1, h4)
else
none)
theorem rL_quantity {q : Nat × Nat} (p1 : Int32) (h : mm_H) (hN : 360 ≤ q.1) : mm_R2 (mm_Sq q) (mm_Sq q) mL_quantity [.ref 0, .int p1, .ref 358] h (gL_quantity p1 h) lf_ie := by
  refine mm_bodyH (L := [some (.ref 0), some (.int p1), some (.ref 358), none]) (by decide) (by decide +kernel) (Nat.le_of_ble_eq_true rfl) rfl ?_
  unfold gL_quantity
  refine me_aload_n (pc' := 1) (i := 2) dL_quantity_0 rfl rfl rfl ?_
  refine me_iconst (pc' := 2) (v := 0) dL_quantity_1 rfl kc_i0 ?_
  refine me_aload_n (pc' := 3) (i := 0) dL_quantity_2 rfl rfl rfl ?_
  refine me_iload_n (pc' := 4) (i := 1) dL_quantity_3 rfl rfl rfl ?_
  refine me_callVH (As := [.int p1]) (st := [.int 0, .ref 358]) (F' := (mm_Sq q)) (G' := (mm_Sq q)) (F'' := (mm_Sq q)) (pc' := 7) dL_quantity_4 rfl mfX10_quantity rfl lkL_63 kd_0 rfl (mm_ltq kd_0) ⟨Nat.le_of_ble_eq_true rfl, Nat.le_of_ble_eq_true rfl⟩ (Nat.le_of_ble_eq_true rfl) (by decide) (fun z => z) (rX10_quantity (q := q) p1 h ) (fun x1 e2 => ?_)
  rcases x1 with ⟨v3 | E5, h4⟩
  · refine Or.inl ⟨_, _, rfl, fun z => z, ?_⟩
    show mm_E2 _ _ _ _ _ [.int v3, .int 0, .ref 358] h4 _ _
    try dsimp only
    refine me_i2l (pc' := 8) dL_quantity_7 rfl ?_
    refine mm_guard (fun c6 => ?_)
    refine me_last (F' := (mm_Sq q)) (pc' := 9) dL_quantity_8 rfl kd_358 (mm_ltw kd_358 hN) (mm_ibd_of c6) (fun z => z) ?_
    refine mm_bnd (ms_J h4 358 (Int32.toNatClampNeg (0)) ((v3).toInt64)) (fun _ => [some (.ref 0), some (.int p1), some (.ref 358), none]) (fun _ => []) (fun h7 => h7) (fun h7 => ?_)
    refine me_goto (tgt := 15) dL_quantity_9 (by decide) ?_
    refine me_iconst (pc' := 16) (v := 0) dL_quantity_15 rfl kc_i0 ?_
    exact me_iret dL_quantity_16 rfl (fun z => z) rfl
  · refine Or.inr ⟨_, _, rfl, fun y9 hy9 => ?_⟩
    dsimp only at hy9
    by_cases c8 : E5 = "java/lang/IndexOutOfBoundsException"
    · rw [if_pos c8] at hy9
      rw [c8]
      refine ⟨12, 13, ⟨[], ⟨0, 9, 12, 29⟩, [], rfl, fun _ h9 => absurd h9 List.not_mem_nil, by decide, by decide, rfl, clL_29, ctL_29⟩, Or.inr ⟨3, dL_quantity_12, Nat.le_of_ble_eq_true rfl, rfl⟩, fun z => z, ?_⟩
      rw [← hy9]
      refine me_iconst (pc' := 14) (v := 1) dL_quantity_13 rfl kc_i1 ?_
      exact me_iret dL_quantity_14 rfl (fun z => z) rfl
    · rw [if_neg c8] at hy9
      cases hy9
def gL_reservedOf (p1 : Int32) (h : mm_H) : Option (Int32 × mm_H) :=
(gX10_reservedOf p1 h).bind (fun (x1 : ((Int32 ⊕ String) × mm_H)) => match x1 with
| (.inl v3, h4) =>
if mm_ibd 0 1 = true then
(some (ms_J h4 358 (Int32.toNatClampNeg (0)) ((v3).toInt64))).bind (fun (h7 : mm_H) =>
some (0, h7)) else none
| (.inr E5, h4) =>
if E5 = "java/lang/IndexOutOfBoundsException" then
some (1, h4)
else
none)
theorem rL_reservedOf {q : Nat × Nat} (p1 : Int32) (h : mm_H) (hN : 360 ≤ q.1) : mm_R2 (mm_Sq q) (mm_Sq q) mL_reservedOf [.ref 0, .int p1, .ref 358] h (gL_reservedOf p1 h) lf_ie := by
  refine mm_bodyH (L := [some (.ref 0), some (.int p1), some (.ref 358), none]) (by decide) (by decide +kernel) (Nat.le_of_ble_eq_true rfl) rfl ?_
  unfold gL_reservedOf
  refine me_aload_n (pc' := 1) (i := 2) dL_reservedOf_0 rfl rfl rfl ?_
  refine me_iconst (pc' := 2) (v := 0) dL_reservedOf_1 rfl kc_i0 ?_
  refine me_aload_n (pc' := 3) (i := 0) dL_reservedOf_2 rfl rfl rfl ?_
  refine me_iload_n (pc' := 4) (i := 1) dL_reservedOf_3 rfl rfl rfl ?_
  refine me_callVH (As := [.int p1]) (st := [.int 0, .ref 358]) (F' := (mm_Sq q)) (G' := (mm_Sq q)) (F'' := (mm_Sq q)) (pc' := 7) dL_reservedOf_4 rfl mfX10_reservedOf rfl lkL_66 kd_0 rfl (mm_ltq kd_0) ⟨Nat.le_of_ble_eq_true rfl, Nat.le_of_ble_eq_true rfl⟩ (Nat.le_of_ble_eq_true rfl) (by decide) (fun z => z) (rX10_reservedOf (q := q) p1 h ) (fun x1 e2 => ?_)
  rcases x1 with ⟨v3 | E5, h4⟩
  · refine Or.inl ⟨_, _, rfl, fun z => z, ?_⟩
    show mm_E2 _ _ _ _ _ [.int v3, .int 0, .ref 358] h4 _ _
    try dsimp only
    refine me_i2l (pc' := 8) dL_reservedOf_7 rfl ?_
    refine mm_guard (fun c6 => ?_)
    refine me_last (F' := (mm_Sq q)) (pc' := 9) dL_reservedOf_8 rfl kd_358 (mm_ltw kd_358 hN) (mm_ibd_of c6) (fun z => z) ?_
    refine mm_bnd (ms_J h4 358 (Int32.toNatClampNeg (0)) ((v3).toInt64)) (fun _ => [some (.ref 0), some (.int p1), some (.ref 358), none]) (fun _ => []) (fun h7 => h7) (fun h7 => ?_)
    refine me_goto (tgt := 15) dL_reservedOf_9 (by decide) ?_
    refine me_iconst (pc' := 16) (v := 0) dL_reservedOf_15 rfl kc_i0 ?_
    exact me_iret dL_reservedOf_16 rfl (fun z => z) rfl
  · refine Or.inr ⟨_, _, rfl, fun y9 hy9 => ?_⟩
    dsimp only at hy9
    by_cases c8 : E5 = "java/lang/IndexOutOfBoundsException"
    · rw [if_pos c8] at hy9
      rw [c8]
      refine ⟨12, 13, ⟨[], ⟨0, 9, 12, 29⟩, [], rfl, fun _ h9 => absurd h9 List.not_mem_nil, by decide, by decide, rfl, clL_29, ctL_29⟩, Or.inr ⟨3, dL_reservedOf_12, Nat.le_of_ble_eq_true rfl, rfl⟩, fun z => z, ?_⟩
      rw [← hy9]
      refine me_iconst (pc' := 14) (v := 1) dL_reservedOf_13 rfl kc_i1 ?_
      exact me_iret dL_reservedOf_14 rfl (fun z => z) rfl
    · rw [if_neg c8] at hy9
      cases hy9
def gL_expiryDay (p1 : Int32) (h : mm_H) : Option (Int32 × mm_H) :=
(gX10_expiryDay p1 h).bind (fun (x1 : ((Int32 ⊕ String) × mm_H)) => match x1 with
| (.inl v3, h4) =>
if mm_ibd 0 1 = true then
(some (ms_J h4 358 (Int32.toNatClampNeg (0)) ((v3).toInt64))).bind (fun (h7 : mm_H) =>
some (0, h7)) else none
| (.inr E5, h4) =>
if E5 = "java/lang/IndexOutOfBoundsException" then
some (1, h4)
else
none)
theorem rL_expiryDay {q : Nat × Nat} (p1 : Int32) (h : mm_H) (hN : 360 ≤ q.1) : mm_R2 (mm_Sq q) (mm_Sq q) mL_expiryDay [.ref 0, .int p1, .ref 358] h (gL_expiryDay p1 h) lf_ie := by
  refine mm_bodyH (L := [some (.ref 0), some (.int p1), some (.ref 358), none]) (by decide) (by decide +kernel) (Nat.le_of_ble_eq_true rfl) rfl ?_
  unfold gL_expiryDay
  refine me_aload_n (pc' := 1) (i := 2) dL_expiryDay_0 rfl rfl rfl ?_
  refine me_iconst (pc' := 2) (v := 0) dL_expiryDay_1 rfl kc_i0 ?_
  refine me_aload_n (pc' := 3) (i := 0) dL_expiryDay_2 rfl rfl rfl ?_
  refine me_iload_n (pc' := 4) (i := 1) dL_expiryDay_3 rfl rfl rfl ?_
  refine me_callVH (As := [.int p1]) (st := [.int 0, .ref 358]) (F' := (mm_Sq q)) (G' := (mm_Sq q)) (F'' := (mm_Sq q)) (pc' := 7) dL_expiryDay_4 rfl mfX10_expiryDay rfl lkL_69 kd_0 rfl (mm_ltq kd_0) ⟨Nat.le_of_ble_eq_true rfl, Nat.le_of_ble_eq_true rfl⟩ (Nat.le_of_ble_eq_true rfl) (by decide) (fun z => z) (rX10_expiryDay (q := q) p1 h ) (fun x1 e2 => ?_)
  rcases x1 with ⟨v3 | E5, h4⟩
  · refine Or.inl ⟨_, _, rfl, fun z => z, ?_⟩
    show mm_E2 _ _ _ _ _ [.int v3, .int 0, .ref 358] h4 _ _
    try dsimp only
    refine me_i2l (pc' := 8) dL_expiryDay_7 rfl ?_
    refine mm_guard (fun c6 => ?_)
    refine me_last (F' := (mm_Sq q)) (pc' := 9) dL_expiryDay_8 rfl kd_358 (mm_ltw kd_358 hN) (mm_ibd_of c6) (fun z => z) ?_
    refine mm_bnd (ms_J h4 358 (Int32.toNatClampNeg (0)) ((v3).toInt64)) (fun _ => [some (.ref 0), some (.int p1), some (.ref 358), none]) (fun _ => []) (fun h7 => h7) (fun h7 => ?_)
    refine me_goto (tgt := 15) dL_expiryDay_9 (by decide) ?_
    refine me_iconst (pc' := 16) (v := 0) dL_expiryDay_15 rfl kc_i0 ?_
    exact me_iret dL_expiryDay_16 rfl (fun z => z) rfl
  · refine Or.inr ⟨_, _, rfl, fun y9 hy9 => ?_⟩
    dsimp only at hy9
    by_cases c8 : E5 = "java/lang/IndexOutOfBoundsException"
    · rw [if_pos c8] at hy9
      rw [c8]
      refine ⟨12, 13, ⟨[], ⟨0, 9, 12, 29⟩, [], rfl, fun _ h9 => absurd h9 List.not_mem_nil, by decide, by decide, rfl, clL_29, ctL_29⟩, Or.inr ⟨3, dL_expiryDay_12, Nat.le_of_ble_eq_true rfl, rfl⟩, fun z => z, ?_⟩
      rw [← hy9]
      refine me_iconst (pc' := 14) (v := 1) dL_expiryDay_13 rfl kc_i1 ?_
      exact me_iret dL_expiryDay_14 rfl (fun z => z) rfl
    · rw [if_neg c8] at hy9
      cases hy9
def gL_unitCost (p1 : Int32) (h : mm_H) : Option (Int32 × mm_H) :=
(gX10_unitCost p1 h).bind (fun (x1 : ((Int32 ⊕ String) × mm_H)) => match x1 with
| (.inl v3, h4) =>
if mm_ibd 0 1 = true then
(some (ms_J h4 358 (Int32.toNatClampNeg (0)) ((v3).toInt64))).bind (fun (h7 : mm_H) =>
some (0, h7)) else none
| (.inr E5, h4) =>
if E5 = "java/lang/IndexOutOfBoundsException" then
some (1, h4)
else
none)
theorem rL_unitCost {q : Nat × Nat} (p1 : Int32) (h : mm_H) (hN : 360 ≤ q.1) : mm_R2 (mm_Sq q) (mm_Sq q) mL_unitCost [.ref 0, .int p1, .ref 358] h (gL_unitCost p1 h) lf_ie := by
  refine mm_bodyH (L := [some (.ref 0), some (.int p1), some (.ref 358), none]) (by decide) (by decide +kernel) (Nat.le_of_ble_eq_true rfl) rfl ?_
  unfold gL_unitCost
  refine me_aload_n (pc' := 1) (i := 2) dL_unitCost_0 rfl rfl rfl ?_
  refine me_iconst (pc' := 2) (v := 0) dL_unitCost_1 rfl kc_i0 ?_
  refine me_aload_n (pc' := 3) (i := 0) dL_unitCost_2 rfl rfl rfl ?_
  refine me_iload_n (pc' := 4) (i := 1) dL_unitCost_3 rfl rfl rfl ?_
  refine me_callVH (As := [.int p1]) (st := [.int 0, .ref 358]) (F' := (mm_Sq q)) (G' := (mm_Sq q)) (F'' := (mm_Sq q)) (pc' := 7) dL_unitCost_4 rfl mfX10_unitCost rfl lkL_72 kd_0 rfl (mm_ltq kd_0) ⟨Nat.le_of_ble_eq_true rfl, Nat.le_of_ble_eq_true rfl⟩ (Nat.le_of_ble_eq_true rfl) (by decide) (fun z => z) (rX10_unitCost (q := q) p1 h ) (fun x1 e2 => ?_)
  rcases x1 with ⟨v3 | E5, h4⟩
  · refine Or.inl ⟨_, _, rfl, fun z => z, ?_⟩
    show mm_E2 _ _ _ _ _ [.int v3, .int 0, .ref 358] h4 _ _
    try dsimp only
    refine me_i2l (pc' := 8) dL_unitCost_7 rfl ?_
    refine mm_guard (fun c6 => ?_)
    refine me_last (F' := (mm_Sq q)) (pc' := 9) dL_unitCost_8 rfl kd_358 (mm_ltw kd_358 hN) (mm_ibd_of c6) (fun z => z) ?_
    refine mm_bnd (ms_J h4 358 (Int32.toNatClampNeg (0)) ((v3).toInt64)) (fun _ => [some (.ref 0), some (.int p1), some (.ref 358), none]) (fun _ => []) (fun h7 => h7) (fun h7 => ?_)
    refine me_goto (tgt := 15) dL_unitCost_9 (by decide) ?_
    refine me_iconst (pc' := 16) (v := 0) dL_unitCost_15 rfl kc_i0 ?_
    exact me_iret dL_unitCost_16 rfl (fun z => z) rfl
  · refine Or.inr ⟨_, _, rfl, fun y9 hy9 => ?_⟩
    dsimp only at hy9
    by_cases c8 : E5 = "java/lang/IndexOutOfBoundsException"
    · rw [if_pos c8] at hy9
      rw [c8]
      refine ⟨12, 13, ⟨[], ⟨0, 9, 12, 29⟩, [], rfl, fun _ h9 => absurd h9 List.not_mem_nil, by decide, by decide, rfl, clL_29, ctL_29⟩, Or.inr ⟨3, dL_unitCost_12, Nat.le_of_ble_eq_true rfl, rfl⟩, fun z => z, ?_⟩
      rw [← hy9]
      refine me_iconst (pc' := 14) (v := 1) dL_unitCost_13 rfl kc_i1 ?_
      exact me_iret dL_unitCost_14 rfl (fun z => z) rfl
    · rw [if_neg c8] at hy9
      cases hy9
def gL_isExpired (p1 : Int32) (h : mm_H) : Option (Int32 × mm_H) :=
(gX10_isExpired p1 h).bind (fun (x1 : ((Bool ⊕ String) × mm_H)) => match x1 with
| (.inl v3, h4) =>
mm_jn (fun (y6 : Int64) (y7 : Int32) =>
if mm_ibd y7 1 = true then
(some (ms_J h4 358 (Int32.toNatClampNeg (y7)) y6)).bind (fun (h11 : mm_H) =>
some (0, h11)) else none) (fun (j9 : Int64 → Int32 → Option (Int32 × mm_H)) =>
if v3 = true then
j9 1 0
else
j9 0 0)
| (.inr E5, h4) =>
if E5 = "java/lang/IndexOutOfBoundsException" then
some (1, h4)
else
none)
theorem rL_isExpired {q : Nat × Nat} (p1 : Int32) (h : mm_H) (hN : 360 ≤ q.1) : mm_R2 (mm_Sq q) (mm_Sq q) mL_isExpired [.ref 0, .int p1, .ref 358] h (gL_isExpired p1 h) lf_ie := by
  refine mm_bodyH (L := [some (.ref 0), some (.int p1), some (.ref 358), none]) (by decide) (by decide +kernel) (Nat.le_of_ble_eq_true rfl) rfl ?_
  unfold gL_isExpired
  refine me_aload_n (pc' := 1) (i := 2) dL_isExpired_0 rfl rfl rfl ?_
  refine me_iconst (pc' := 2) (v := 0) dL_isExpired_1 rfl kc_i0 ?_
  refine me_aload_n (pc' := 3) (i := 0) dL_isExpired_2 rfl rfl rfl ?_
  refine me_iload_n (pc' := 4) (i := 1) dL_isExpired_3 rfl rfl rfl ?_
  refine me_callVH (As := [.int p1]) (st := [.int 0, .ref 358]) (F' := (mm_Sq q)) (G' := (mm_Sq q)) (F'' := (mm_Sq q)) (pc' := 7) dL_isExpired_4 rfl mfX10_isExpired rfl lkL_75 kd_0 rfl (mm_ltq kd_0) ⟨Nat.le_of_ble_eq_true rfl, Nat.le_of_ble_eq_true rfl⟩ (Nat.le_of_ble_eq_true rfl) (by decide) (fun z => z) (rX10_isExpired (q := q) p1 h ) (fun x1 e2 => ?_)
  rcases x1 with ⟨v3 | E5, h4⟩
  · refine Or.inl ⟨_, _, rfl, fun z => z, ?_⟩
    show mm_E2 _ _ _ _ _ [.int (mx_bi v3), .int 0, .ref 358] h4 _ _
    try dsimp only
    refine mm_jnI (fun (j99 : Int64 → Int32 → Option (Int32 × mm_H)) => ∀ (y6 : Int64) (y7 : Int32), mm_E2 (mm_Sq q) (mm_Sq q) mL_isExpired 15 [none, none, none, none] [.long y6, .int y7, .ref 358] h4 (j99 y6 y7) lf_ie) ?_ (fun j9 j9p => ?_)
    · intro y6 y7
      refine mm_guard (fun c10 => ?_)
      refine me_last (F' := (mm_Sq q)) (pc' := 16) dL_isExpired_15 rfl kd_358 (mm_ltw kd_358 hN) (mm_ibd_of c10) (fun z => z) ?_
      refine mm_bnd (ms_J h4 358 (Int32.toNatClampNeg (y7)) y6) (fun _ => [none, none, none, none]) (fun _ => []) (fun h11 => h11) (fun h11 => ?_)
      refine me_goto (tgt := 22) dL_isExpired_16 (by decide) ?_
      refine me_iconst (pc' := 23) (v := 0) dL_isExpired_22 rfl kc_i0 ?_
      exact me_iret dL_isExpired_23 rfl (fun z => z) rfl
    refine me_ifB_eq (pc' := 10) (tgt := 14) dL_isExpired_7 (by decide) rfl (fun c12 => ?_) (fun c12 => ?_)
    · refine me_lconst (pc' := 15) (v := 0) dL_isExpired_14 rfl rfl ?_
      exact mm_maskB [false, false, false, false] (j9p 0 0)
    · refine me_lconst (pc' := 11) (v := 1) dL_isExpired_10 rfl rfl ?_
      refine me_goto (tgt := 15) dL_isExpired_11 (by decide) ?_
      exact mm_maskB [false, false, false, false] (j9p 1 0)
  · refine Or.inr ⟨_, _, rfl, fun y9 hy9 => ?_⟩
    dsimp only at hy9
    by_cases c13 : E5 = "java/lang/IndexOutOfBoundsException"
    · rw [if_pos c13] at hy9
      rw [c13]
      refine ⟨19, 20, ⟨[], ⟨0, 16, 19, 29⟩, [], rfl, fun _ h9 => absurd h9 List.not_mem_nil, by decide, by decide, rfl, clL_29, ctL_29⟩, Or.inr ⟨3, dL_isExpired_19, Nat.le_of_ble_eq_true rfl, rfl⟩, fun z => z, ?_⟩
      rw [← hy9]
      refine me_iconst (pc' := 21) (v := 1) dL_isExpired_20 rfl kc_i1 ?_
      exact me_iret dL_isExpired_21 rfl (fun z => z) rfl
    · rw [if_neg c13] at hy9
      cases hy9
def gL_issueOrder (p1 : Int32) (p2 : Int32) (h : mm_H) : Option (Int32 × mm_H) :=
(gX10_issueOrder p1 p2 h).bind (fun (x1 : ((Int32 ⊕ String) × mm_H)) => match x1 with
| (.inl v3, h4) =>
if mm_ibd 0 1 = true then
(some (ms_J h4 358 (Int32.toNatClampNeg (0)) ((v3).toInt64))).bind (fun (h7 : mm_H) =>
some (0, h7)) else none
| (.inr E5, h4) =>
if E5 = "java/lang/IndexOutOfBoundsException" then
some (1, h4)
else
none)
theorem rL_issueOrder {q : Nat × Nat} (p1 : Int32) (p2 : Int32) (h : mm_H) (hN : 360 ≤ q.1) : mm_R2 (mm_Sq q) (mm_Sq q) mL_issueOrder [.ref 0, .int p1, .int p2, .ref 358] h (gL_issueOrder p1 p2 h) lf_ie := by
  refine mm_bodyH (L := [some (.ref 0), some (.int p1), some (.int p2), some (.ref 358), none]) (by decide) (by decide +kernel) (Nat.le_of_ble_eq_true rfl) rfl ?_
  unfold gL_issueOrder
  refine me_aload_n (pc' := 1) (i := 3) dL_issueOrder_0 rfl rfl rfl ?_
  refine me_iconst (pc' := 2) (v := 0) dL_issueOrder_1 rfl kc_i0 ?_
  refine me_aload_n (pc' := 3) (i := 0) dL_issueOrder_2 rfl rfl rfl ?_
  refine me_iload_n (pc' := 4) (i := 1) dL_issueOrder_3 rfl rfl rfl ?_
  refine me_iload_n (pc' := 5) (i := 2) dL_issueOrder_4 rfl rfl rfl ?_
  refine me_callVH (As := [.int p1, .int p2]) (st := [.int 0, .ref 358]) (F' := (mm_Sq q)) (G' := (mm_Sq q)) (F'' := (mm_Sq q)) (pc' := 8) dL_issueOrder_5 rfl mfX10_issueOrder rfl lkL_79 kd_0 rfl (mm_ltq kd_0) ⟨Nat.le_of_ble_eq_true rfl, Nat.le_of_ble_eq_true rfl⟩ (Nat.le_of_ble_eq_true rfl) (by decide) (fun z => z) (rX10_issueOrder (q := q) p1 p2 h ) (fun x1 e2 => ?_)
  rcases x1 with ⟨v3 | E5, h4⟩
  · refine Or.inl ⟨_, _, rfl, fun z => z, ?_⟩
    show mm_E2 _ _ _ _ _ [.int v3, .int 0, .ref 358] h4 _ _
    try dsimp only
    refine me_i2l (pc' := 9) dL_issueOrder_8 rfl ?_
    refine mm_guard (fun c6 => ?_)
    refine me_last (F' := (mm_Sq q)) (pc' := 10) dL_issueOrder_9 rfl kd_358 (mm_ltw kd_358 hN) (mm_ibd_of c6) (fun z => z) ?_
    refine mm_bnd (ms_J h4 358 (Int32.toNatClampNeg (0)) ((v3).toInt64)) (fun _ => [some (.ref 0), some (.int p1), some (.int p2), some (.ref 358), none]) (fun _ => []) (fun h7 => h7) (fun h7 => ?_)
    refine me_goto (tgt := 17) dL_issueOrder_10 (by decide) ?_
    refine me_iconst (pc' := 18) (v := 0) dL_issueOrder_17 rfl kc_i0 ?_
    exact me_iret dL_issueOrder_18 rfl (fun z => z) rfl
  · refine Or.inr ⟨_, _, rfl, fun y9 hy9 => ?_⟩
    dsimp only at hy9
    by_cases c8 : E5 = "java/lang/IndexOutOfBoundsException"
    · rw [if_pos c8] at hy9
      rw [c8]
      refine ⟨13, 15, ⟨[], ⟨0, 10, 13, 29⟩, [], rfl, fun _ h9 => absurd h9 List.not_mem_nil, by decide, by decide, rfl, clL_29, ctL_29⟩, Or.inl ⟨4, dL_issueOrder_13, Nat.le_of_ble_eq_true rfl, rfl⟩, fun z => z, ?_⟩
      rw [← hy9]
      refine me_iconst (pc' := 16) (v := 1) dL_issueOrder_15 rfl kc_i1 ?_
      exact me_iret dL_issueOrder_16 rfl (fun z => z) rfl
    · rw [if_neg c8] at hy9
      cases hy9
def gL_costOfIssue (p1 : Int32) (p2 : Int32) (h : mm_H) : Option (Int32 × mm_H) :=
(gX10_costOfIssue p1 p2 h).bind (fun (x1 : ((Int32 ⊕ String) × mm_H)) => match x1 with
| (.inl v3, h4) =>
if mm_ibd 0 1 = true then
(some (ms_J h4 358 (Int32.toNatClampNeg (0)) ((v3).toInt64))).bind (fun (h7 : mm_H) =>
some (0, h7)) else none
| (.inr E5, h4) =>
if E5 = "java/lang/IndexOutOfBoundsException" then
some (1, h4)
else
if E5 = "java/lang/IllegalArgumentException" then
some (2, h4)
else
none)
theorem rL_costOfIssue {q : Nat × Nat} (p1 : Int32) (p2 : Int32) (h : mm_H) (hN : 360 ≤ q.1) : mm_R2 (mm_Sq q) (mm_Sq q) mL_costOfIssue [.ref 0, .int p1, .int p2, .ref 358] h (gL_costOfIssue p1 p2 h) lf_ie := by
  refine mm_bodyH (L := [some (.ref 0), some (.int p1), some (.int p2), some (.ref 358), none]) (by decide) (by decide +kernel) (Nat.le_of_ble_eq_true rfl) rfl ?_
  unfold gL_costOfIssue
  refine me_aload_n (pc' := 1) (i := 3) dL_costOfIssue_0 rfl rfl rfl ?_
  refine me_iconst (pc' := 2) (v := 0) dL_costOfIssue_1 rfl kc_i0 ?_
  refine me_aload_n (pc' := 3) (i := 0) dL_costOfIssue_2 rfl rfl rfl ?_
  refine me_iload_n (pc' := 4) (i := 1) dL_costOfIssue_3 rfl rfl rfl ?_
  refine me_iload_n (pc' := 5) (i := 2) dL_costOfIssue_4 rfl rfl rfl ?_
  refine me_callVH (As := [.int p1, .int p2]) (st := [.int 0, .ref 358]) (F' := (mm_Sq q)) (G' := (mm_Sq q)) (F'' := (mm_Sq q)) (pc' := 8) dL_costOfIssue_5 rfl mfX10_costOfIssue rfl lkL_82 kd_0 rfl (mm_ltq kd_0) ⟨Nat.le_of_ble_eq_true rfl, Nat.le_of_ble_eq_true rfl⟩ (Nat.le_of_ble_eq_true rfl) (by decide) (fun z => z) (rX10_costOfIssue (q := q) p1 p2 h ) (fun x1 e2 => ?_)
  rcases x1 with ⟨v3 | E5, h4⟩
  · refine Or.inl ⟨_, _, rfl, fun z => z, ?_⟩
    show mm_E2 _ _ _ _ _ [.int v3, .int 0, .ref 358] h4 _ _
    try dsimp only
    refine me_i2l (pc' := 9) dL_costOfIssue_8 rfl ?_
    refine mm_guard (fun c6 => ?_)
    refine me_last (F' := (mm_Sq q)) (pc' := 10) dL_costOfIssue_9 rfl kd_358 (mm_ltw kd_358 hN) (mm_ibd_of c6) (fun z => z) ?_
    refine mm_bnd (ms_J h4 358 (Int32.toNatClampNeg (0)) ((v3).toInt64)) (fun _ => [some (.ref 0), some (.int p1), some (.int p2), some (.ref 358), none]) (fun _ => []) (fun h7 => h7) (fun h7 => ?_)
    refine me_goto (tgt := 21) dL_costOfIssue_10 (by decide) ?_
    refine me_iconst (pc' := 22) (v := 0) dL_costOfIssue_21 rfl kc_i0 ?_
    exact me_iret dL_costOfIssue_22 rfl (fun z => z) rfl
  · refine Or.inr ⟨_, _, rfl, fun y9 hy9 => ?_⟩
    dsimp only at hy9
    by_cases c8 : E5 = "java/lang/IndexOutOfBoundsException"
    · rw [if_pos c8] at hy9
      rw [c8]
      refine ⟨13, 15, ⟨[], ⟨0, 10, 13, 29⟩, [⟨0, 10, 17, 19⟩], rfl, fun _ h9 => absurd h9 List.not_mem_nil, by decide, by decide, rfl, clL_29, ctL_29⟩, Or.inl ⟨4, dL_costOfIssue_13, Nat.le_of_ble_eq_true rfl, rfl⟩, fun z => z, ?_⟩
      rw [← hy9]
      refine me_iconst (pc' := 16) (v := 1) dL_costOfIssue_15 rfl kc_i1 ?_
      exact me_iret dL_costOfIssue_16 rfl (fun z => z) rfl
    · rw [if_neg c8] at hy9
      by_cases c9 : E5 = "java/lang/IllegalArgumentException"
      · rw [if_pos c9] at hy9
        rw [c9]
        refine ⟨17, 19, ⟨[⟨0, 10, 13, 29⟩], ⟨0, 10, 17, 19⟩, [], rfl, List.forall_mem_cons.mpr ⟨⟨by decide, _, clL_29, by decide +kernel⟩, fun _ h9 => absurd h9 List.not_mem_nil⟩, by decide, by decide, rfl, clL_19, ctL_19⟩, Or.inl ⟨4, dL_costOfIssue_17, Nat.le_of_ble_eq_true rfl, rfl⟩, fun z => z, ?_⟩
        rw [← hy9]
        refine me_iconst (pc' := 20) (v := 2) dL_costOfIssue_19 rfl kc_i2 ?_
        exact me_iret dL_costOfIssue_20 rfl (fun z => z) rfl
      · rw [if_neg c9] at hy9
        cases hy9
def gL_reservedProduct (p1 : Int32) (h : mm_H) : Option (Int32 × mm_H) :=
(gX10_reservedProduct p1 h).bind (fun (x1 : ((Int32 ⊕ String) × mm_H)) => match x1 with
| (.inl v3, h4) =>
if mm_ibd 0 1 = true then
(some (ms_J h4 358 (Int32.toNatClampNeg (0)) ((v3).toInt64))).bind (fun (h7 : mm_H) =>
some (0, h7)) else none
| (.inr E5, h4) =>
if E5 = "java/lang/IndexOutOfBoundsException" then
some (1, h4)
else
none)
theorem rL_reservedProduct {q : Nat × Nat} (p1 : Int32) (h : mm_H) (hN : 360 ≤ q.1) : mm_R2 (mm_Sq q) (mm_Sq q) mL_reservedProduct [.ref 0, .int p1, .ref 358] h (gL_reservedProduct p1 h) lf_ie := by
  refine mm_bodyH (L := [some (.ref 0), some (.int p1), some (.ref 358), none]) (by decide) (by decide +kernel) (Nat.le_of_ble_eq_true rfl) rfl ?_
  unfold gL_reservedProduct
  refine me_aload_n (pc' := 1) (i := 2) dL_reservedProduct_0 rfl rfl rfl ?_
  refine me_iconst (pc' := 2) (v := 0) dL_reservedProduct_1 rfl kc_i0 ?_
  refine me_aload_n (pc' := 3) (i := 0) dL_reservedProduct_2 rfl rfl rfl ?_
  refine me_iload_n (pc' := 4) (i := 1) dL_reservedProduct_3 rfl rfl rfl ?_
  refine me_callVH (As := [.int p1]) (st := [.int 0, .ref 358]) (F' := (mm_Sq q)) (G' := (mm_Sq q)) (F'' := (mm_Sq q)) (pc' := 7) dL_reservedProduct_4 rfl mfX10_reservedProduct rfl lkL_85 kd_0 rfl (mm_ltq kd_0) ⟨Nat.le_of_ble_eq_true rfl, Nat.le_of_ble_eq_true rfl⟩ (Nat.le_of_ble_eq_true rfl) (by decide) (fun z => z) (rX10_reservedProduct (q := q) p1 h ) (fun x1 e2 => ?_)
  rcases x1 with ⟨v3 | E5, h4⟩
  · refine Or.inl ⟨_, _, rfl, fun z => z, ?_⟩
    show mm_E2 _ _ _ _ _ [.int v3, .int 0, .ref 358] h4 _ _
    try dsimp only
    refine me_i2l (pc' := 8) dL_reservedProduct_7 rfl ?_
    refine mm_guard (fun c6 => ?_)
    refine me_last (F' := (mm_Sq q)) (pc' := 9) dL_reservedProduct_8 rfl kd_358 (mm_ltw kd_358 hN) (mm_ibd_of c6) (fun z => z) ?_
    refine mm_bnd (ms_J h4 358 (Int32.toNatClampNeg (0)) ((v3).toInt64)) (fun _ => [some (.ref 0), some (.int p1), some (.ref 358), none]) (fun _ => []) (fun h7 => h7) (fun h7 => ?_)
    refine me_goto (tgt := 15) dL_reservedProduct_9 (by decide) ?_
    refine me_iconst (pc' := 16) (v := 0) dL_reservedProduct_15 rfl kc_i0 ?_
    exact me_iret dL_reservedProduct_16 rfl (fun z => z) rfl
  · refine Or.inr ⟨_, _, rfl, fun y9 hy9 => ?_⟩
    dsimp only at hy9
    by_cases c8 : E5 = "java/lang/IndexOutOfBoundsException"
    · rw [if_pos c8] at hy9
      rw [c8]
      refine ⟨12, 13, ⟨[], ⟨0, 9, 12, 29⟩, [], rfl, fun _ h9 => absurd h9 List.not_mem_nil, by decide, by decide, rfl, clL_29, ctL_29⟩, Or.inr ⟨3, dL_reservedProduct_12, Nat.le_of_ble_eq_true rfl, rfl⟩, fun z => z, ?_⟩
      rw [← hy9]
      refine me_iconst (pc' := 14) (v := 1) dL_reservedProduct_13 rfl kc_i1 ?_
      exact me_iret dL_reservedProduct_14 rfl (fun z => z) rfl
    · rw [if_neg c8] at hy9
      cases hy9
def gL_reservedQuantity (p1 : Int32) (h : mm_H) : Option (Int32 × mm_H) :=
(gX10_reservedQuantity p1 h).bind (fun (x1 : ((Int32 ⊕ String) × mm_H)) => match x1 with
| (.inl v3, h4) =>
if mm_ibd 0 1 = true then
(some (ms_J h4 358 (Int32.toNatClampNeg (0)) ((v3).toInt64))).bind (fun (h7 : mm_H) =>
some (0, h7)) else none
| (.inr E5, h4) =>
if E5 = "java/lang/IndexOutOfBoundsException" then
some (1, h4)
else
none)
theorem rL_reservedQuantity {q : Nat × Nat} (p1 : Int32) (h : mm_H) (hN : 360 ≤ q.1) : mm_R2 (mm_Sq q) (mm_Sq q) mL_reservedQuantity [.ref 0, .int p1, .ref 358] h (gL_reservedQuantity p1 h) lf_ie := by
  refine mm_bodyH (L := [some (.ref 0), some (.int p1), some (.ref 358), none]) (by decide) (by decide +kernel) (Nat.le_of_ble_eq_true rfl) rfl ?_
  unfold gL_reservedQuantity
  refine me_aload_n (pc' := 1) (i := 2) dL_reservedQuantity_0 rfl rfl rfl ?_
  refine me_iconst (pc' := 2) (v := 0) dL_reservedQuantity_1 rfl kc_i0 ?_
  refine me_aload_n (pc' := 3) (i := 0) dL_reservedQuantity_2 rfl rfl rfl ?_
  refine me_iload_n (pc' := 4) (i := 1) dL_reservedQuantity_3 rfl rfl rfl ?_
  refine me_callVH (As := [.int p1]) (st := [.int 0, .ref 358]) (F' := (mm_Sq q)) (G' := (mm_Sq q)) (F'' := (mm_Sq q)) (pc' := 7) dL_reservedQuantity_4 rfl mfX10_reservedQuantity rfl lkL_88 kd_0 rfl (mm_ltq kd_0) ⟨Nat.le_of_ble_eq_true rfl, Nat.le_of_ble_eq_true rfl⟩ (Nat.le_of_ble_eq_true rfl) (by decide) (fun z => z) (rX10_reservedQuantity (q := q) p1 h ) (fun x1 e2 => ?_)
  rcases x1 with ⟨v3 | E5, h4⟩
  · refine Or.inl ⟨_, _, rfl, fun z => z, ?_⟩
    show mm_E2 _ _ _ _ _ [.int v3, .int 0, .ref 358] h4 _ _
    try dsimp only
    refine me_i2l (pc' := 8) dL_reservedQuantity_7 rfl ?_
    refine mm_guard (fun c6 => ?_)
    refine me_last (F' := (mm_Sq q)) (pc' := 9) dL_reservedQuantity_8 rfl kd_358 (mm_ltw kd_358 hN) (mm_ibd_of c6) (fun z => z) ?_
    refine mm_bnd (ms_J h4 358 (Int32.toNatClampNeg (0)) ((v3).toInt64)) (fun _ => [some (.ref 0), some (.int p1), some (.ref 358), none]) (fun _ => []) (fun h7 => h7) (fun h7 => ?_)
    refine me_goto (tgt := 15) dL_reservedQuantity_9 (by decide) ?_
    refine me_iconst (pc' := 16) (v := 0) dL_reservedQuantity_15 rfl kc_i0 ?_
    exact me_iret dL_reservedQuantity_16 rfl (fun z => z) rfl
  · refine Or.inr ⟨_, _, rfl, fun y9 hy9 => ?_⟩
    dsimp only at hy9
    by_cases c8 : E5 = "java/lang/IndexOutOfBoundsException"
    · rw [if_pos c8] at hy9
      rw [c8]
      refine ⟨12, 13, ⟨[], ⟨0, 9, 12, 29⟩, [], rfl, fun _ h9 => absurd h9 List.not_mem_nil, by decide, by decide, rfl, clL_29, ctL_29⟩, Or.inr ⟨3, dL_reservedQuantity_12, Nat.le_of_ble_eq_true rfl, rfl⟩, fun z => z, ?_⟩
      rw [← hy9]
      refine me_iconst (pc' := 14) (v := 1) dL_reservedQuantity_13 rfl kc_i1 ?_
      exact me_iret dL_reservedQuantity_14 rfl (fun z => z) rfl
    · rw [if_neg c8] at hy9
      cases hy9
def gL_isOpen (p1 : Int32) (h : mm_H) : Option (Int32 × mm_H) :=
(gX10_isOpen p1 h).bind (fun (x1 : ((Bool ⊕ String) × mm_H)) => match x1 with
| (.inl v3, h4) =>
mm_jn (fun (y6 : Int64) (y7 : Int32) =>
if mm_ibd y7 1 = true then
(some (ms_J h4 358 (Int32.toNatClampNeg (y7)) y6)).bind (fun (h11 : mm_H) =>
some (0, h11)) else none) (fun (j9 : Int64 → Int32 → Option (Int32 × mm_H)) =>
if v3 = true then
j9 1 0
else
j9 0 0)
| (.inr E5, h4) =>
if E5 = "java/lang/IndexOutOfBoundsException" then
some (1, h4)
else
none)
theorem rL_isOpen {q : Nat × Nat} (p1 : Int32) (h : mm_H) (hN : 360 ≤ q.1) : mm_R2 (mm_Sq q) (mm_Sq q) mL_isOpen [.ref 0, .int p1, .ref 358] h (gL_isOpen p1 h) lf_ie := by
  refine mm_bodyH (L := [some (.ref 0), some (.int p1), some (.ref 358), none]) (by decide) (by decide +kernel) (Nat.le_of_ble_eq_true rfl) rfl ?_
  unfold gL_isOpen
  refine me_aload_n (pc' := 1) (i := 2) dL_isOpen_0 rfl rfl rfl ?_
  refine me_iconst (pc' := 2) (v := 0) dL_isOpen_1 rfl kc_i0 ?_
  refine me_aload_n (pc' := 3) (i := 0) dL_isOpen_2 rfl rfl rfl ?_
  refine me_iload_n (pc' := 4) (i := 1) dL_isOpen_3 rfl rfl rfl ?_
  refine me_callVH (As := [.int p1]) (st := [.int 0, .ref 358]) (F' := (mm_Sq q)) (G' := (mm_Sq q)) (F'' := (mm_Sq q)) (pc' := 7) dL_isOpen_4 rfl mfX10_isOpen rfl lkL_91 kd_0 rfl (mm_ltq kd_0) ⟨Nat.le_of_ble_eq_true rfl, Nat.le_of_ble_eq_true rfl⟩ (Nat.le_of_ble_eq_true rfl) (by decide) (fun z => z) (rX10_isOpen (q := q) p1 h ) (fun x1 e2 => ?_)
  rcases x1 with ⟨v3 | E5, h4⟩
  · refine Or.inl ⟨_, _, rfl, fun z => z, ?_⟩
    show mm_E2 _ _ _ _ _ [.int (mx_bi v3), .int 0, .ref 358] h4 _ _
    try dsimp only
    refine mm_jnI (fun (j99 : Int64 → Int32 → Option (Int32 × mm_H)) => ∀ (y6 : Int64) (y7 : Int32), mm_E2 (mm_Sq q) (mm_Sq q) mL_isOpen 15 [none, none, none, none] [.long y6, .int y7, .ref 358] h4 (j99 y6 y7) lf_ie) ?_ (fun j9 j9p => ?_)
    · intro y6 y7
      refine mm_guard (fun c10 => ?_)
      refine me_last (F' := (mm_Sq q)) (pc' := 16) dL_isOpen_15 rfl kd_358 (mm_ltw kd_358 hN) (mm_ibd_of c10) (fun z => z) ?_
      refine mm_bnd (ms_J h4 358 (Int32.toNatClampNeg (y7)) y6) (fun _ => [none, none, none, none]) (fun _ => []) (fun h11 => h11) (fun h11 => ?_)
      refine me_goto (tgt := 22) dL_isOpen_16 (by decide) ?_
      refine me_iconst (pc' := 23) (v := 0) dL_isOpen_22 rfl kc_i0 ?_
      exact me_iret dL_isOpen_23 rfl (fun z => z) rfl
    refine me_ifB_eq (pc' := 10) (tgt := 14) dL_isOpen_7 (by decide) rfl (fun c12 => ?_) (fun c12 => ?_)
    · refine me_lconst (pc' := 15) (v := 0) dL_isOpen_14 rfl rfl ?_
      exact mm_maskB [false, false, false, false] (j9p 0 0)
    · refine me_lconst (pc' := 11) (v := 1) dL_isOpen_10 rfl rfl ?_
      refine me_goto (tgt := 15) dL_isOpen_11 (by decide) ?_
      exact mm_maskB [false, false, false, false] (j9p 1 0)
  · refine Or.inr ⟨_, _, rfl, fun y9 hy9 => ?_⟩
    dsimp only at hy9
    by_cases c13 : E5 = "java/lang/IndexOutOfBoundsException"
    · rw [if_pos c13] at hy9
      rw [c13]
      refine ⟨19, 20, ⟨[], ⟨0, 16, 19, 29⟩, [], rfl, fun _ h9 => absurd h9 List.not_mem_nil, by decide, by decide, rfl, clL_29, ctL_29⟩, Or.inr ⟨3, dL_isOpen_19, Nat.le_of_ble_eq_true rfl, rfl⟩, fun z => z, ?_⟩
      rw [← hy9]
      refine me_iconst (pc' := 21) (v := 1) dL_isOpen_20 rfl kc_i1 ?_
      exact me_iret dL_isOpen_21 rfl (fun z => z) rfl
    · rw [if_neg c13] at hy9
      cases hy9
def gL_missing (p1 : Int32) (h : mm_H) : Option (Int32 × mm_H) :=
(gX10_missing p1 h).bind (fun (x1 : ((Int32 ⊕ String) × mm_H)) => match x1 with
| (.inl v3, h4) =>
if mm_ibd 0 1 = true then
(some (ms_J h4 358 (Int32.toNatClampNeg (0)) ((v3).toInt64))).bind (fun (h7 : mm_H) =>
some (0, h7)) else none
| (.inr E5, h4) =>
if E5 = "java/lang/IndexOutOfBoundsException" then
some (1, h4)
else
none)
theorem rL_missing {q : Nat × Nat} (p1 : Int32) (h : mm_H) (hN : 360 ≤ q.1) : mm_R2 (mm_Sq q) (mm_Sq q) mL_missing [.ref 0, .int p1, .ref 358] h (gL_missing p1 h) lf_ie := by
  refine mm_bodyH (L := [some (.ref 0), some (.int p1), some (.ref 358), none]) (by decide) (by decide +kernel) (Nat.le_of_ble_eq_true rfl) rfl ?_
  unfold gL_missing
  refine me_aload_n (pc' := 1) (i := 2) dL_missing_0 rfl rfl rfl ?_
  refine me_iconst (pc' := 2) (v := 0) dL_missing_1 rfl kc_i0 ?_
  refine me_aload_n (pc' := 3) (i := 0) dL_missing_2 rfl rfl rfl ?_
  refine me_iload_n (pc' := 4) (i := 1) dL_missing_3 rfl rfl rfl ?_
  refine me_callVH (As := [.int p1]) (st := [.int 0, .ref 358]) (F' := (mm_Sq q)) (G' := (mm_Sq q)) (F'' := (mm_Sq q)) (pc' := 7) dL_missing_4 rfl mfX10_missing rfl lkL_94 kd_0 rfl (mm_ltq kd_0) ⟨Nat.le_of_ble_eq_true rfl, Nat.le_of_ble_eq_true rfl⟩ (Nat.le_of_ble_eq_true rfl) (by decide) (fun z => z) (rX10_missing (q := q) p1 h ) (fun x1 e2 => ?_)
  rcases x1 with ⟨v3 | E5, h4⟩
  · refine Or.inl ⟨_, _, rfl, fun z => z, ?_⟩
    show mm_E2 _ _ _ _ _ [.int v3, .int 0, .ref 358] h4 _ _
    try dsimp only
    refine me_i2l (pc' := 8) dL_missing_7 rfl ?_
    refine mm_guard (fun c6 => ?_)
    refine me_last (F' := (mm_Sq q)) (pc' := 9) dL_missing_8 rfl kd_358 (mm_ltw kd_358 hN) (mm_ibd_of c6) (fun z => z) ?_
    refine mm_bnd (ms_J h4 358 (Int32.toNatClampNeg (0)) ((v3).toInt64)) (fun _ => [some (.ref 0), some (.int p1), some (.ref 358), none]) (fun _ => []) (fun h7 => h7) (fun h7 => ?_)
    refine me_goto (tgt := 15) dL_missing_9 (by decide) ?_
    refine me_iconst (pc' := 16) (v := 0) dL_missing_15 rfl kc_i0 ?_
    exact me_iret dL_missing_16 rfl (fun z => z) rfl
  · refine Or.inr ⟨_, _, rfl, fun y9 hy9 => ?_⟩
    dsimp only at hy9
    by_cases c8 : E5 = "java/lang/IndexOutOfBoundsException"
    · rw [if_pos c8] at hy9
      rw [c8]
      refine ⟨12, 13, ⟨[], ⟨0, 9, 12, 29⟩, [], rfl, fun _ h9 => absurd h9 List.not_mem_nil, by decide, by decide, rfl, clL_29, ctL_29⟩, Or.inr ⟨3, dL_missing_12, Nat.le_of_ble_eq_true rfl, rfl⟩, fun z => z, ?_⟩
      rw [← hy9]
      refine me_iconst (pc' := 14) (v := 1) dL_missing_13 rfl kc_i1 ?_
      exact me_iret dL_missing_14 rfl (fun z => z) rfl
    · rw [if_neg c8] at hy9
      cases hy9
def gL_allocation (p1 : Int32) (p2 : Int32) (h : mm_H) : Option (Int32 × mm_H) :=
(gX10_allocation p1 p2 h).bind (fun (x1 : ((Int32 ⊕ String) × mm_H)) => match x1 with
| (.inl v3, h4) =>
if mm_ibd 0 1 = true then
(some (ms_J h4 358 (Int32.toNatClampNeg (0)) ((v3).toInt64))).bind (fun (h7 : mm_H) =>
some (0, h7)) else none
| (.inr E5, h4) =>
if E5 = "java/lang/IndexOutOfBoundsException" then
some (1, h4)
else
none)
theorem rL_allocation {q : Nat × Nat} (p1 : Int32) (p2 : Int32) (h : mm_H) (hN : 360 ≤ q.1) : mm_R2 (mm_Sq q) (mm_Sq q) mL_allocation [.ref 0, .int p1, .int p2, .ref 358] h (gL_allocation p1 p2 h) lf_ie := by
  refine mm_bodyH (L := [some (.ref 0), some (.int p1), some (.int p2), some (.ref 358), none]) (by decide) (by decide +kernel) (Nat.le_of_ble_eq_true rfl) rfl ?_
  unfold gL_allocation
  refine me_aload_n (pc' := 1) (i := 3) dL_allocation_0 rfl rfl rfl ?_
  refine me_iconst (pc' := 2) (v := 0) dL_allocation_1 rfl kc_i0 ?_
  refine me_aload_n (pc' := 3) (i := 0) dL_allocation_2 rfl rfl rfl ?_
  refine me_iload_n (pc' := 4) (i := 1) dL_allocation_3 rfl rfl rfl ?_
  refine me_iload_n (pc' := 5) (i := 2) dL_allocation_4 rfl rfl rfl ?_
  refine me_callVH (As := [.int p1, .int p2]) (st := [.int 0, .ref 358]) (F' := (mm_Sq q)) (G' := (mm_Sq q)) (F'' := (mm_Sq q)) (pc' := 8) dL_allocation_5 rfl mfX10_allocation rfl lkL_97 kd_0 rfl (mm_ltq kd_0) ⟨Nat.le_of_ble_eq_true rfl, Nat.le_of_ble_eq_true rfl⟩ (Nat.le_of_ble_eq_true rfl) (by decide) (fun z => z) (rX10_allocation (q := q) p1 p2 h ) (fun x1 e2 => ?_)
  rcases x1 with ⟨v3 | E5, h4⟩
  · refine Or.inl ⟨_, _, rfl, fun z => z, ?_⟩
    show mm_E2 _ _ _ _ _ [.int v3, .int 0, .ref 358] h4 _ _
    try dsimp only
    refine me_i2l (pc' := 9) dL_allocation_8 rfl ?_
    refine mm_guard (fun c6 => ?_)
    refine me_last (F' := (mm_Sq q)) (pc' := 10) dL_allocation_9 rfl kd_358 (mm_ltw kd_358 hN) (mm_ibd_of c6) (fun z => z) ?_
    refine mm_bnd (ms_J h4 358 (Int32.toNatClampNeg (0)) ((v3).toInt64)) (fun _ => [some (.ref 0), some (.int p1), some (.int p2), some (.ref 358), none]) (fun _ => []) (fun h7 => h7) (fun h7 => ?_)
    refine me_goto (tgt := 17) dL_allocation_10 (by decide) ?_
    refine me_iconst (pc' := 18) (v := 0) dL_allocation_17 rfl kc_i0 ?_
    exact me_iret dL_allocation_18 rfl (fun z => z) rfl
  · refine Or.inr ⟨_, _, rfl, fun y9 hy9 => ?_⟩
    dsimp only at hy9
    by_cases c8 : E5 = "java/lang/IndexOutOfBoundsException"
    · rw [if_pos c8] at hy9
      rw [c8]
      refine ⟨13, 15, ⟨[], ⟨0, 10, 13, 29⟩, [], rfl, fun _ h9 => absurd h9 List.not_mem_nil, by decide, by decide, rfl, clL_29, ctL_29⟩, Or.inl ⟨4, dL_allocation_13, Nat.le_of_ble_eq_true rfl, rfl⟩, fun z => z, ?_⟩
      rw [← hy9]
      refine me_iconst (pc' := 16) (v := 1) dL_allocation_15 rfl kc_i1 ?_
      exact me_iret dL_allocation_16 rfl (fun z => z) rfl
    · rw [if_neg c8] at hy9
      cases hy9
def gL_whyNotShipped (p1 : Int32) (h : mm_H) : Option (Int32 × mm_H) :=
(gX10_whyNotShipped p1 h).bind (fun (x1 : ((Int32 ⊕ String) × mm_H)) => match x1 with
| (.inl v3, h4) =>
if mm_ibd 0 1 = true then
(some (ms_J h4 358 (Int32.toNatClampNeg (0)) ((v3).toInt64))).bind (fun (h7 : mm_H) =>
some (0, h7)) else none
| (.inr E5, h4) =>
if E5 = "java/lang/IndexOutOfBoundsException" then
some (1, h4)
else
none)
theorem rL_whyNotShipped {q : Nat × Nat} (p1 : Int32) (h : mm_H) (hN : 360 ≤ q.1) : mm_R2 (mm_Sq q) (mm_Sq q) mL_whyNotShipped [.ref 0, .int p1, .ref 358] h (gL_whyNotShipped p1 h) lf_ie := by
  refine mm_bodyH (L := [some (.ref 0), some (.int p1), some (.ref 358), none]) (by decide) (by decide +kernel) (Nat.le_of_ble_eq_true rfl) rfl ?_
  unfold gL_whyNotShipped
  refine me_aload_n (pc' := 1) (i := 2) dL_whyNotShipped_0 rfl rfl rfl ?_
  refine me_iconst (pc' := 2) (v := 0) dL_whyNotShipped_1 rfl kc_i0 ?_
  refine me_aload_n (pc' := 3) (i := 0) dL_whyNotShipped_2 rfl rfl rfl ?_
  refine me_iload_n (pc' := 4) (i := 1) dL_whyNotShipped_3 rfl rfl rfl ?_
  refine me_callVH (As := [.int p1]) (st := [.int 0, .ref 358]) (F' := (mm_Sq q)) (G' := (mm_Sq q)) (F'' := (mm_Sq q)) (pc' := 7) dL_whyNotShipped_4 rfl mfX10_whyNotShipped rfl lkL_100 kd_0 rfl (mm_ltq kd_0) ⟨Nat.le_of_ble_eq_true rfl, Nat.le_of_ble_eq_true rfl⟩ (Nat.le_of_ble_eq_true rfl) (by decide) (fun z => z) (rX10_whyNotShipped (q := q) p1 h ) (fun x1 e2 => ?_)
  rcases x1 with ⟨v3 | E5, h4⟩
  · refine Or.inl ⟨_, _, rfl, fun z => z, ?_⟩
    show mm_E2 _ _ _ _ _ [.int v3, .int 0, .ref 358] h4 _ _
    try dsimp only
    refine me_i2l (pc' := 8) dL_whyNotShipped_7 rfl ?_
    refine mm_guard (fun c6 => ?_)
    refine me_last (F' := (mm_Sq q)) (pc' := 9) dL_whyNotShipped_8 rfl kd_358 (mm_ltw kd_358 hN) (mm_ibd_of c6) (fun z => z) ?_
    refine mm_bnd (ms_J h4 358 (Int32.toNatClampNeg (0)) ((v3).toInt64)) (fun _ => [some (.ref 0), some (.int p1), some (.ref 358), none]) (fun _ => []) (fun h7 => h7) (fun h7 => ?_)
    refine me_goto (tgt := 15) dL_whyNotShipped_9 (by decide) ?_
    refine me_iconst (pc' := 16) (v := 0) dL_whyNotShipped_15 rfl kc_i0 ?_
    exact me_iret dL_whyNotShipped_16 rfl (fun z => z) rfl
  · refine Or.inr ⟨_, _, rfl, fun y9 hy9 => ?_⟩
    dsimp only at hy9
    by_cases c8 : E5 = "java/lang/IndexOutOfBoundsException"
    · rw [if_pos c8] at hy9
      rw [c8]
      refine ⟨12, 13, ⟨[], ⟨0, 9, 12, 29⟩, [], rfl, fun _ h9 => absurd h9 List.not_mem_nil, by decide, by decide, rfl, clL_29, ctL_29⟩, Or.inr ⟨3, dL_whyNotShipped_12, Nat.le_of_ble_eq_true rfl, rfl⟩, fun z => z, ?_⟩
      rw [← hy9]
      refine me_iconst (pc' := 14) (v := 1) dL_whyNotShipped_13 rfl kc_i1 ?_
      exact me_iret dL_whyNotShipped_14 rfl (fun z => z) rfl
    · rw [if_neg c8] at hy9
      cases hy9
def gL_receivedUnits (p1 : Int32) (h : mm_H) : Option (Int32 × mm_H) :=
(gX10_receivedUnits p1 h).bind (fun (x1 : ((Int32 ⊕ String) × mm_H)) => match x1 with
| (.inl v3, h4) =>
if mm_ibd 0 1 = true then
(some (ms_J h4 358 (Int32.toNatClampNeg (0)) ((v3).toInt64))).bind (fun (h7 : mm_H) =>
some (0, h7)) else none
| (.inr E5, h4) =>
if E5 = "java/lang/IndexOutOfBoundsException" then
some (1, h4)
else
none)
theorem rL_receivedUnits {q : Nat × Nat} (p1 : Int32) (h : mm_H) (hN : 360 ≤ q.1) : mm_R2 (mm_Sq q) (mm_Sq q) mL_receivedUnits [.ref 0, .int p1, .ref 358] h (gL_receivedUnits p1 h) lf_ie := by
  refine mm_bodyH (L := [some (.ref 0), some (.int p1), some (.ref 358), none]) (by decide) (by decide +kernel) (Nat.le_of_ble_eq_true rfl) rfl ?_
  unfold gL_receivedUnits
  refine me_aload_n (pc' := 1) (i := 2) dL_receivedUnits_0 rfl rfl rfl ?_
  refine me_iconst (pc' := 2) (v := 0) dL_receivedUnits_1 rfl kc_i0 ?_
  refine me_aload_n (pc' := 3) (i := 0) dL_receivedUnits_2 rfl rfl rfl ?_
  refine me_iload_n (pc' := 4) (i := 1) dL_receivedUnits_3 rfl rfl rfl ?_
  refine me_callVH (As := [.int p1]) (st := [.int 0, .ref 358]) (F' := (mm_Sq q)) (G' := (mm_Sq q)) (F'' := (mm_Sq q)) (pc' := 7) dL_receivedUnits_4 rfl mfX10_receivedUnits rfl lkL_103 kd_0 rfl (mm_ltq kd_0) ⟨Nat.le_of_ble_eq_true rfl, Nat.le_of_ble_eq_true rfl⟩ (Nat.le_of_ble_eq_true rfl) (by decide) (fun z => z) (rX10_receivedUnits (q := q) p1 h ) (fun x1 e2 => ?_)
  rcases x1 with ⟨v3 | E5, h4⟩
  · refine Or.inl ⟨_, _, rfl, fun z => z, ?_⟩
    show mm_E2 _ _ _ _ _ [.int v3, .int 0, .ref 358] h4 _ _
    try dsimp only
    refine me_i2l (pc' := 8) dL_receivedUnits_7 rfl ?_
    refine mm_guard (fun c6 => ?_)
    refine me_last (F' := (mm_Sq q)) (pc' := 9) dL_receivedUnits_8 rfl kd_358 (mm_ltw kd_358 hN) (mm_ibd_of c6) (fun z => z) ?_
    refine mm_bnd (ms_J h4 358 (Int32.toNatClampNeg (0)) ((v3).toInt64)) (fun _ => [some (.ref 0), some (.int p1), some (.ref 358), none]) (fun _ => []) (fun h7 => h7) (fun h7 => ?_)
    refine me_goto (tgt := 15) dL_receivedUnits_9 (by decide) ?_
    refine me_iconst (pc' := 16) (v := 0) dL_receivedUnits_15 rfl kc_i0 ?_
    exact me_iret dL_receivedUnits_16 rfl (fun z => z) rfl
  · refine Or.inr ⟨_, _, rfl, fun y9 hy9 => ?_⟩
    dsimp only at hy9
    by_cases c8 : E5 = "java/lang/IndexOutOfBoundsException"
    · rw [if_pos c8] at hy9
      rw [c8]
      refine ⟨12, 13, ⟨[], ⟨0, 9, 12, 29⟩, [], rfl, fun _ h9 => absurd h9 List.not_mem_nil, by decide, by decide, rfl, clL_29, ctL_29⟩, Or.inr ⟨3, dL_receivedUnits_12, Nat.le_of_ble_eq_true rfl, rfl⟩, fun z => z, ?_⟩
      rw [← hy9]
      refine me_iconst (pc' := 14) (v := 1) dL_receivedUnits_13 rfl kc_i1 ?_
      exact me_iret dL_receivedUnits_14 rfl (fun z => z) rfl
    · rw [if_neg c8] at hy9
      cases hy9
def gL_deliveredUnits (p1 : Int32) (h : mm_H) : Option (Int32 × mm_H) :=
(gX10_deliveredUnits p1 h).bind (fun (x1 : ((Int32 ⊕ String) × mm_H)) => match x1 with
| (.inl v3, h4) =>
if mm_ibd 0 1 = true then
(some (ms_J h4 358 (Int32.toNatClampNeg (0)) ((v3).toInt64))).bind (fun (h7 : mm_H) =>
some (0, h7)) else none
| (.inr E5, h4) =>
if E5 = "java/lang/IndexOutOfBoundsException" then
some (1, h4)
else
none)
theorem rL_deliveredUnits {q : Nat × Nat} (p1 : Int32) (h : mm_H) (hN : 360 ≤ q.1) : mm_R2 (mm_Sq q) (mm_Sq q) mL_deliveredUnits [.ref 0, .int p1, .ref 358] h (gL_deliveredUnits p1 h) lf_ie := by
  refine mm_bodyH (L := [some (.ref 0), some (.int p1), some (.ref 358), none]) (by decide) (by decide +kernel) (Nat.le_of_ble_eq_true rfl) rfl ?_
  unfold gL_deliveredUnits
  refine me_aload_n (pc' := 1) (i := 2) dL_deliveredUnits_0 rfl rfl rfl ?_
  refine me_iconst (pc' := 2) (v := 0) dL_deliveredUnits_1 rfl kc_i0 ?_
  refine me_aload_n (pc' := 3) (i := 0) dL_deliveredUnits_2 rfl rfl rfl ?_
  refine me_iload_n (pc' := 4) (i := 1) dL_deliveredUnits_3 rfl rfl rfl ?_
  refine me_callVH (As := [.int p1]) (st := [.int 0, .ref 358]) (F' := (mm_Sq q)) (G' := (mm_Sq q)) (F'' := (mm_Sq q)) (pc' := 7) dL_deliveredUnits_4 rfl mfX10_deliveredUnits rfl lkL_106 kd_0 rfl (mm_ltq kd_0) ⟨Nat.le_of_ble_eq_true rfl, Nat.le_of_ble_eq_true rfl⟩ (Nat.le_of_ble_eq_true rfl) (by decide) (fun z => z) (rX10_deliveredUnits (q := q) p1 h ) (fun x1 e2 => ?_)
  rcases x1 with ⟨v3 | E5, h4⟩
  · refine Or.inl ⟨_, _, rfl, fun z => z, ?_⟩
    show mm_E2 _ _ _ _ _ [.int v3, .int 0, .ref 358] h4 _ _
    try dsimp only
    refine me_i2l (pc' := 8) dL_deliveredUnits_7 rfl ?_
    refine mm_guard (fun c6 => ?_)
    refine me_last (F' := (mm_Sq q)) (pc' := 9) dL_deliveredUnits_8 rfl kd_358 (mm_ltw kd_358 hN) (mm_ibd_of c6) (fun z => z) ?_
    refine mm_bnd (ms_J h4 358 (Int32.toNatClampNeg (0)) ((v3).toInt64)) (fun _ => [some (.ref 0), some (.int p1), some (.ref 358), none]) (fun _ => []) (fun h7 => h7) (fun h7 => ?_)
    refine me_goto (tgt := 15) dL_deliveredUnits_9 (by decide) ?_
    refine me_iconst (pc' := 16) (v := 0) dL_deliveredUnits_15 rfl kc_i0 ?_
    exact me_iret dL_deliveredUnits_16 rfl (fun z => z) rfl
  · refine Or.inr ⟨_, _, rfl, fun y9 hy9 => ?_⟩
    dsimp only at hy9
    by_cases c8 : E5 = "java/lang/IndexOutOfBoundsException"
    · rw [if_pos c8] at hy9
      rw [c8]
      refine ⟨12, 13, ⟨[], ⟨0, 9, 12, 29⟩, [], rfl, fun _ h9 => absurd h9 List.not_mem_nil, by decide, by decide, rfl, clL_29, ctL_29⟩, Or.inr ⟨3, dL_deliveredUnits_12, Nat.le_of_ble_eq_true rfl, rfl⟩, fun z => z, ?_⟩
      rw [← hy9]
      refine me_iconst (pc' := 14) (v := 1) dL_deliveredUnits_13 rfl kc_i1 ?_
      exact me_iret dL_deliveredUnits_14 rfl (fun z => z) rfl
    · rw [if_neg c8] at hy9
      cases hy9
def gL_writtenOffUnits (p1 : Int32) (h : mm_H) : Option (Int32 × mm_H) :=
(gX10_writtenOffUnits p1 h).bind (fun (x1 : ((Int32 ⊕ String) × mm_H)) => match x1 with
| (.inl v3, h4) =>
if mm_ibd 0 1 = true then
(some (ms_J h4 358 (Int32.toNatClampNeg (0)) ((v3).toInt64))).bind (fun (h7 : mm_H) =>
some (0, h7)) else none
| (.inr E5, h4) =>
if E5 = "java/lang/IndexOutOfBoundsException" then
some (1, h4)
else
none)
theorem rL_writtenOffUnits {q : Nat × Nat} (p1 : Int32) (h : mm_H) (hN : 360 ≤ q.1) : mm_R2 (mm_Sq q) (mm_Sq q) mL_writtenOffUnits [.ref 0, .int p1, .ref 358] h (gL_writtenOffUnits p1 h) lf_ie := by
  refine mm_bodyH (L := [some (.ref 0), some (.int p1), some (.ref 358), none]) (by decide) (by decide +kernel) (Nat.le_of_ble_eq_true rfl) rfl ?_
  unfold gL_writtenOffUnits
  refine me_aload_n (pc' := 1) (i := 2) dL_writtenOffUnits_0 rfl rfl rfl ?_
  refine me_iconst (pc' := 2) (v := 0) dL_writtenOffUnits_1 rfl kc_i0 ?_
  refine me_aload_n (pc' := 3) (i := 0) dL_writtenOffUnits_2 rfl rfl rfl ?_
  refine me_iload_n (pc' := 4) (i := 1) dL_writtenOffUnits_3 rfl rfl rfl ?_
  refine me_callVH (As := [.int p1]) (st := [.int 0, .ref 358]) (F' := (mm_Sq q)) (G' := (mm_Sq q)) (F'' := (mm_Sq q)) (pc' := 7) dL_writtenOffUnits_4 rfl mfX10_writtenOffUnits rfl lkL_109 kd_0 rfl (mm_ltq kd_0) ⟨Nat.le_of_ble_eq_true rfl, Nat.le_of_ble_eq_true rfl⟩ (Nat.le_of_ble_eq_true rfl) (by decide) (fun z => z) (rX10_writtenOffUnits (q := q) p1 h ) (fun x1 e2 => ?_)
  rcases x1 with ⟨v3 | E5, h4⟩
  · refine Or.inl ⟨_, _, rfl, fun z => z, ?_⟩
    show mm_E2 _ _ _ _ _ [.int v3, .int 0, .ref 358] h4 _ _
    try dsimp only
    refine me_i2l (pc' := 8) dL_writtenOffUnits_7 rfl ?_
    refine mm_guard (fun c6 => ?_)
    refine me_last (F' := (mm_Sq q)) (pc' := 9) dL_writtenOffUnits_8 rfl kd_358 (mm_ltw kd_358 hN) (mm_ibd_of c6) (fun z => z) ?_
    refine mm_bnd (ms_J h4 358 (Int32.toNatClampNeg (0)) ((v3).toInt64)) (fun _ => [some (.ref 0), some (.int p1), some (.ref 358), none]) (fun _ => []) (fun h7 => h7) (fun h7 => ?_)
    refine me_goto (tgt := 15) dL_writtenOffUnits_9 (by decide) ?_
    refine me_iconst (pc' := 16) (v := 0) dL_writtenOffUnits_15 rfl kc_i0 ?_
    exact me_iret dL_writtenOffUnits_16 rfl (fun z => z) rfl
  · refine Or.inr ⟨_, _, rfl, fun y9 hy9 => ?_⟩
    dsimp only at hy9
    by_cases c8 : E5 = "java/lang/IndexOutOfBoundsException"
    · rw [if_pos c8] at hy9
      rw [c8]
      refine ⟨12, 13, ⟨[], ⟨0, 9, 12, 29⟩, [], rfl, fun _ h9 => absurd h9 List.not_mem_nil, by decide, by decide, rfl, clL_29, ctL_29⟩, Or.inr ⟨3, dL_writtenOffUnits_12, Nat.le_of_ble_eq_true rfl, rfl⟩, fun z => z, ?_⟩
      rw [← hy9]
      refine me_iconst (pc' := 14) (v := 1) dL_writtenOffUnits_13 rfl kc_i1 ?_
      exact me_iret dL_writtenOffUnits_14 rfl (fun z => z) rfl
    · rw [if_neg c8] at hy9
      cases hy9
def gL_adjustment (p1 : Int32) (h : mm_H) : Option (Int32 × mm_H) :=
(gX10_adjustment p1 h).bind (fun (x1 : ((Int32 ⊕ String) × mm_H)) => match x1 with
| (.inl v3, h4) =>
if mm_ibd 0 1 = true then
(some (ms_J h4 358 (Int32.toNatClampNeg (0)) ((v3).toInt64))).bind (fun (h7 : mm_H) =>
some (0, h7)) else none
| (.inr E5, h4) =>
if E5 = "java/lang/IndexOutOfBoundsException" then
some (1, h4)
else
none)
theorem rL_adjustment {q : Nat × Nat} (p1 : Int32) (h : mm_H) (hN : 360 ≤ q.1) : mm_R2 (mm_Sq q) (mm_Sq q) mL_adjustment [.ref 0, .int p1, .ref 358] h (gL_adjustment p1 h) lf_ie := by
  refine mm_bodyH (L := [some (.ref 0), some (.int p1), some (.ref 358), none]) (by decide) (by decide +kernel) (Nat.le_of_ble_eq_true rfl) rfl ?_
  unfold gL_adjustment
  refine me_aload_n (pc' := 1) (i := 2) dL_adjustment_0 rfl rfl rfl ?_
  refine me_iconst (pc' := 2) (v := 0) dL_adjustment_1 rfl kc_i0 ?_
  refine me_aload_n (pc' := 3) (i := 0) dL_adjustment_2 rfl rfl rfl ?_
  refine me_iload_n (pc' := 4) (i := 1) dL_adjustment_3 rfl rfl rfl ?_
  refine me_callVH (As := [.int p1]) (st := [.int 0, .ref 358]) (F' := (mm_Sq q)) (G' := (mm_Sq q)) (F'' := (mm_Sq q)) (pc' := 7) dL_adjustment_4 rfl mfX10_adjustment rfl lkL_112 kd_0 rfl (mm_ltq kd_0) ⟨Nat.le_of_ble_eq_true rfl, Nat.le_of_ble_eq_true rfl⟩ (Nat.le_of_ble_eq_true rfl) (by decide) (fun z => z) (rX10_adjustment (q := q) p1 h ) (fun x1 e2 => ?_)
  rcases x1 with ⟨v3 | E5, h4⟩
  · refine Or.inl ⟨_, _, rfl, fun z => z, ?_⟩
    show mm_E2 _ _ _ _ _ [.int v3, .int 0, .ref 358] h4 _ _
    try dsimp only
    refine me_i2l (pc' := 8) dL_adjustment_7 rfl ?_
    refine mm_guard (fun c6 => ?_)
    refine me_last (F' := (mm_Sq q)) (pc' := 9) dL_adjustment_8 rfl kd_358 (mm_ltw kd_358 hN) (mm_ibd_of c6) (fun z => z) ?_
    refine mm_bnd (ms_J h4 358 (Int32.toNatClampNeg (0)) ((v3).toInt64)) (fun _ => [some (.ref 0), some (.int p1), some (.ref 358), none]) (fun _ => []) (fun h7 => h7) (fun h7 => ?_)
    refine me_goto (tgt := 15) dL_adjustment_9 (by decide) ?_
    refine me_iconst (pc' := 16) (v := 0) dL_adjustment_15 rfl kc_i0 ?_
    exact me_iret dL_adjustment_16 rfl (fun z => z) rfl
  · refine Or.inr ⟨_, _, rfl, fun y9 hy9 => ?_⟩
    dsimp only at hy9
    by_cases c8 : E5 = "java/lang/IndexOutOfBoundsException"
    · rw [if_pos c8] at hy9
      rw [c8]
      refine ⟨12, 13, ⟨[], ⟨0, 9, 12, 29⟩, [], rfl, fun _ h9 => absurd h9 List.not_mem_nil, by decide, by decide, rfl, clL_29, ctL_29⟩, Or.inr ⟨3, dL_adjustment_12, Nat.le_of_ble_eq_true rfl, rfl⟩, fun z => z, ?_⟩
      rw [← hy9]
      refine me_iconst (pc' := 14) (v := 1) dL_adjustment_13 rfl kc_i1 ?_
      exact me_iret dL_adjustment_14 rfl (fun z => z) rfl
    · rw [if_neg c8] at hy9
      cases hy9
def gL_meanCost (p1 : Int32) (h : mm_H) : Option (Int32 × mm_H) :=
(gX10_meanCost p1 h).bind (fun (x1 : ((UInt64 ⊕ String) × mm_H)) => match x1 with
| (.inl v3, h4) =>
if mm_ibd 0 1 = true then
(some (ms_D h4 359 (Int32.toNatClampNeg (0)) v3)).bind (fun (h7 : mm_H) =>
some (0, h7)) else none
| (.inr E5, h4) =>
if E5 = "java/lang/IndexOutOfBoundsException" then
some (1, h4)
else
none)
theorem rL_meanCost {q : Nat × Nat} (p1 : Int32) (h : mm_H) (hN : 360 ≤ q.1) : mm_R2 (mm_Sq q) (mm_Sq q) mL_meanCost [.ref 0, .int p1, .ref 359] h (gL_meanCost p1 h) lf_ie := by
  refine mm_bodyH (L := [some (.ref 0), some (.int p1), some (.ref 359), none]) (by decide) (by decide +kernel) (Nat.le_of_ble_eq_true rfl) rfl ?_
  unfold gL_meanCost
  refine me_aload_n (pc' := 1) (i := 2) dL_meanCost_0 rfl rfl rfl ?_
  refine me_iconst (pc' := 2) (v := 0) dL_meanCost_1 rfl kc_i0 ?_
  refine me_aload_n (pc' := 3) (i := 0) dL_meanCost_2 rfl rfl rfl ?_
  refine me_iload_n (pc' := 4) (i := 1) dL_meanCost_3 rfl rfl rfl ?_
  refine me_callVH (As := [.int p1]) (st := [.int 0, .ref 359]) (F' := (mm_Sq q)) (G' := (mm_Sq q)) (F'' := (mm_Sq q)) (pc' := 7) dL_meanCost_4 rfl mfX10_meanCost rfl lkL_115 kd_0 rfl (mm_ltq kd_0) ⟨Nat.le_of_ble_eq_true rfl, Nat.le_of_ble_eq_true rfl⟩ (Nat.le_of_ble_eq_true rfl) (by decide) (fun z => z) (rX10_meanCost (q := q) p1 h ) (fun x1 e2 => ?_)
  rcases x1 with ⟨v3 | E5, h4⟩
  · refine Or.inl ⟨_, _, rfl, fun z => z, ?_⟩
    show mm_E2 _ _ _ _ _ [.double v3, .int 0, .ref 359] h4 _ _
    try dsimp only
    refine mm_guard (fun c6 => ?_)
    refine me_dast (F' := (mm_Sq q)) (pc' := 8) dL_meanCost_7 rfl kd_359 (mm_ltw kd_359 hN) (mm_ibd_of c6) (fun z => z) ?_
    refine mm_bnd (ms_D h4 359 (Int32.toNatClampNeg (0)) v3) (fun _ => [some (.ref 0), some (.int p1), some (.ref 359), none]) (fun _ => []) (fun h7 => h7) (fun h7 => ?_)
    refine me_goto (tgt := 14) dL_meanCost_8 (by decide) ?_
    refine me_iconst (pc' := 15) (v := 0) dL_meanCost_14 rfl kc_i0 ?_
    exact me_iret dL_meanCost_15 rfl (fun z => z) rfl
  · refine Or.inr ⟨_, _, rfl, fun y9 hy9 => ?_⟩
    dsimp only at hy9
    by_cases c8 : E5 = "java/lang/IndexOutOfBoundsException"
    · rw [if_pos c8] at hy9
      rw [c8]
      refine ⟨11, 12, ⟨[], ⟨0, 8, 11, 29⟩, [], rfl, fun _ h9 => absurd h9 List.not_mem_nil, by decide, by decide, rfl, clL_29, ctL_29⟩, Or.inr ⟨3, dL_meanCost_11, Nat.le_of_ble_eq_true rfl, rfl⟩, fun z => z, ?_⟩
      rw [← hy9]
      refine me_iconst (pc' := 13) (v := 1) dL_meanCost_12 rfl kc_i1 ?_
      exact me_iret dL_meanCost_13 rfl (fun z => z) rfl
    · rw [if_neg c8] at hy9
      cases hy9
def gL_wasteShare (p1 : Int32) (h : mm_H) : Option (Int32 × mm_H) :=
(gX10_wasteShare p1 h).bind (fun (x1 : ((UInt32 ⊕ String) × mm_H)) => match x1 with
| (.inl v3, h4) =>
if mm_n64 (FP.f2d v3) = true then
if mm_ibd 0 1 = true then
(some (ms_D h4 359 (Int32.toNatClampNeg (0)) ((FP.f2d v3)))).bind (fun (h8 : mm_H) =>
some (0, h8)) else none else none
| (.inr E5, h4) =>
if E5 = "java/lang/IndexOutOfBoundsException" then
some (1, h4)
else
none)
theorem rL_wasteShare {q : Nat × Nat} (p1 : Int32) (h : mm_H) (hN : 360 ≤ q.1) : mm_R2 (mm_Sq q) (mm_Sq q) mL_wasteShare [.ref 0, .int p1, .ref 359] h (gL_wasteShare p1 h) lf_ie := by
  refine mm_bodyH (L := [some (.ref 0), some (.int p1), some (.ref 359), none]) (by decide) (by decide +kernel) (Nat.le_of_ble_eq_true rfl) rfl ?_
  unfold gL_wasteShare
  refine me_aload_n (pc' := 1) (i := 2) dL_wasteShare_0 rfl rfl rfl ?_
  refine me_iconst (pc' := 2) (v := 0) dL_wasteShare_1 rfl kc_i0 ?_
  refine me_aload_n (pc' := 3) (i := 0) dL_wasteShare_2 rfl rfl rfl ?_
  refine me_iload_n (pc' := 4) (i := 1) dL_wasteShare_3 rfl rfl rfl ?_
  refine me_callVH (As := [.int p1]) (st := [.int 0, .ref 359]) (F' := (mm_Sq q)) (G' := (mm_Sq q)) (F'' := (mm_Sq q)) (pc' := 7) dL_wasteShare_4 rfl mfX10_wasteShare rfl lkL_119 kd_0 rfl (mm_ltq kd_0) ⟨Nat.le_of_ble_eq_true rfl, Nat.le_of_ble_eq_true rfl⟩ (Nat.le_of_ble_eq_true rfl) (by decide) (fun z => z) (rX10_wasteShare (q := q) p1 h ) (fun x1 e2 => ?_)
  rcases x1 with ⟨v3 | E5, h4⟩
  · refine Or.inl ⟨_, _, rfl, fun z => z, ?_⟩
    show mm_E2 _ _ _ _ _ [.float v3, .int 0, .ref 359] h4 _ _
    try dsimp only
    refine mm_guard (fun c6 => ?_)
    refine me_f2d (pc' := 8) dL_wasteShare_7 rfl (mm_n64_of c6) ?_
    refine mm_guard (fun c7 => ?_)
    refine me_dast (F' := (mm_Sq q)) (pc' := 9) dL_wasteShare_8 rfl kd_359 (mm_ltw kd_359 hN) (mm_ibd_of c7) (fun z => z) ?_
    refine mm_bnd (ms_D h4 359 (Int32.toNatClampNeg (0)) ((FP.f2d v3))) (fun _ => [some (.ref 0), some (.int p1), some (.ref 359), none]) (fun _ => []) (fun h8 => h8) (fun h8 => ?_)
    refine me_goto (tgt := 15) dL_wasteShare_9 (by decide) ?_
    refine me_iconst (pc' := 16) (v := 0) dL_wasteShare_15 rfl kc_i0 ?_
    exact me_iret dL_wasteShare_16 rfl (fun z => z) rfl
  · refine Or.inr ⟨_, _, rfl, fun y9 hy9 => ?_⟩
    dsimp only at hy9
    by_cases c9 : E5 = "java/lang/IndexOutOfBoundsException"
    · rw [if_pos c9] at hy9
      rw [c9]
      refine ⟨12, 13, ⟨[], ⟨0, 9, 12, 29⟩, [], rfl, fun _ h9 => absurd h9 List.not_mem_nil, by decide, by decide, rfl, clL_29, ctL_29⟩, Or.inr ⟨3, dL_wasteShare_12, Nat.le_of_ble_eq_true rfl, rfl⟩, fun z => z, ?_⟩
      rw [← hy9]
      refine me_iconst (pc' := 14) (v := 1) dL_wasteShare_13 rfl kc_i1 ?_
      exact me_iret dL_wasteShare_14 rfl (fun z => z) rfl
    · rw [if_neg c9] at hy9
      cases hy9
def gL_daysUntilShortage (p1 : Int32) (p2 : Int32) (h : mm_H) : Option (Int32 × mm_H) :=
(gX10_daysUntilShortage p1 p2 h).bind (fun (x1 : ((Int32 ⊕ String) × mm_H)) => match x1 with
| (.inl v3, h4) =>
if mm_ibd 0 1 = true then
(some (ms_J h4 358 (Int32.toNatClampNeg (0)) ((v3).toInt64))).bind (fun (h7 : mm_H) =>
some (0, h7)) else none
| (.inr E5, h4) =>
if E5 = "java/lang/IndexOutOfBoundsException" then
some (1, h4)
else
if E5 = "java/lang/IllegalArgumentException" then
some (2, h4)
else
none)
theorem rL_daysUntilShortage {q : Nat × Nat} (p1 : Int32) (p2 : Int32) (h : mm_H) (hN : 360 ≤ q.1) : mm_R2 (mm_Sq q) (mm_Sq q) mL_daysUntilShortage [.ref 0, .int p1, .int p2, .ref 358] h (gL_daysUntilShortage p1 p2 h) lf_ie := by
  refine mm_bodyH (L := [some (.ref 0), some (.int p1), some (.int p2), some (.ref 358), none]) (by decide) (by decide +kernel) (Nat.le_of_ble_eq_true rfl) rfl ?_
  unfold gL_daysUntilShortage
  refine me_aload_n (pc' := 1) (i := 3) dL_daysUntilShortage_0 rfl rfl rfl ?_
  refine me_iconst (pc' := 2) (v := 0) dL_daysUntilShortage_1 rfl kc_i0 ?_
  refine me_aload_n (pc' := 3) (i := 0) dL_daysUntilShortage_2 rfl rfl rfl ?_
  refine me_iload_n (pc' := 4) (i := 1) dL_daysUntilShortage_3 rfl rfl rfl ?_
  refine me_iload_n (pc' := 5) (i := 2) dL_daysUntilShortage_4 rfl rfl rfl ?_
  refine me_callVH (As := [.int p1, .int p2]) (st := [.int 0, .ref 358]) (F' := (mm_Sq q)) (G' := (mm_Sq q)) (F'' := (mm_Sq q)) (pc' := 8) dL_daysUntilShortage_5 rfl mfX10_daysUntilShortage rfl lkL_123 kd_0 rfl (mm_ltq kd_0) ⟨Nat.le_of_ble_eq_true rfl, Nat.le_of_ble_eq_true rfl⟩ (Nat.le_of_ble_eq_true rfl) (by decide) (fun z => z) (rX10_daysUntilShortage (q := q) p1 p2 h ) (fun x1 e2 => ?_)
  rcases x1 with ⟨v3 | E5, h4⟩
  · refine Or.inl ⟨_, _, rfl, fun z => z, ?_⟩
    show mm_E2 _ _ _ _ _ [.int v3, .int 0, .ref 358] h4 _ _
    try dsimp only
    refine me_i2l (pc' := 9) dL_daysUntilShortage_8 rfl ?_
    refine mm_guard (fun c6 => ?_)
    refine me_last (F' := (mm_Sq q)) (pc' := 10) dL_daysUntilShortage_9 rfl kd_358 (mm_ltw kd_358 hN) (mm_ibd_of c6) (fun z => z) ?_
    refine mm_bnd (ms_J h4 358 (Int32.toNatClampNeg (0)) ((v3).toInt64)) (fun _ => [some (.ref 0), some (.int p1), some (.int p2), some (.ref 358), none]) (fun _ => []) (fun h7 => h7) (fun h7 => ?_)
    refine me_goto (tgt := 21) dL_daysUntilShortage_10 (by decide) ?_
    refine me_iconst (pc' := 22) (v := 0) dL_daysUntilShortage_21 rfl kc_i0 ?_
    exact me_iret dL_daysUntilShortage_22 rfl (fun z => z) rfl
  · refine Or.inr ⟨_, _, rfl, fun y9 hy9 => ?_⟩
    dsimp only at hy9
    by_cases c8 : E5 = "java/lang/IndexOutOfBoundsException"
    · rw [if_pos c8] at hy9
      rw [c8]
      refine ⟨13, 15, ⟨[], ⟨0, 10, 13, 29⟩, [⟨0, 10, 17, 19⟩], rfl, fun _ h9 => absurd h9 List.not_mem_nil, by decide, by decide, rfl, clL_29, ctL_29⟩, Or.inl ⟨4, dL_daysUntilShortage_13, Nat.le_of_ble_eq_true rfl, rfl⟩, fun z => z, ?_⟩
      rw [← hy9]
      refine me_iconst (pc' := 16) (v := 1) dL_daysUntilShortage_15 rfl kc_i1 ?_
      exact me_iret dL_daysUntilShortage_16 rfl (fun z => z) rfl
    · rw [if_neg c8] at hy9
      by_cases c9 : E5 = "java/lang/IllegalArgumentException"
      · rw [if_pos c9] at hy9
        rw [c9]
        refine ⟨17, 19, ⟨[⟨0, 10, 13, 29⟩], ⟨0, 10, 17, 19⟩, [], rfl, List.forall_mem_cons.mpr ⟨⟨by decide, _, clL_29, by decide +kernel⟩, fun _ h9 => absurd h9 List.not_mem_nil⟩, by decide, by decide, rfl, clL_19, ctL_19⟩, Or.inl ⟨4, dL_daysUntilShortage_17, Nat.le_of_ble_eq_true rfl, rfl⟩, fun z => z, ?_⟩
        rw [← hy9]
        refine me_iconst (pc' := 20) (v := 2) dL_daysUntilShortage_19 rfl kc_i2 ?_
        exact me_iret dL_daysUntilShortage_20 rfl (fun z => z) rfl
      · rw [if_neg c9] at hy9
        cases hy9
def gL_wasteWithDemand (p1 : Int32) (p2 : Int32) (p3 : Int32) (h : mm_H) : Option (Int32 × mm_H) :=
(gX10_wasteWithDemand p1 p2 p3 h).bind (fun (x1 : ((Int32 ⊕ String) × mm_H)) => match x1 with
| (.inl v3, h4) =>
if mm_ibd 0 1 = true then
(some (ms_J h4 358 (Int32.toNatClampNeg (0)) ((v3).toInt64))).bind (fun (h7 : mm_H) =>
some (0, h7)) else none
| (.inr E5, h4) =>
if E5 = "java/lang/IndexOutOfBoundsException" then
some (1, h4)
else
if E5 = "java/lang/IllegalArgumentException" then
some (2, h4)
else
none)
theorem rL_wasteWithDemand {q : Nat × Nat} (p1 : Int32) (p2 : Int32) (p3 : Int32) (h : mm_H) (hN : 360 ≤ q.1) : mm_R2 (mm_Sq q) (mm_Sq q) mL_wasteWithDemand [.ref 0, .int p1, .int p2, .int p3, .ref 358] h (gL_wasteWithDemand p1 p2 p3 h) lf_ie := by
  refine mm_bodyH (L := [some (.ref 0), some (.int p1), some (.int p2), some (.int p3), some (.ref 358), none]) (by decide) (by decide +kernel) (Nat.le_of_ble_eq_true rfl) rfl ?_
  unfold gL_wasteWithDemand
  refine me_aload (pc' := 2) (i := 4) dL_wasteWithDemand_0 rfl rfl ?_
  refine me_iconst (pc' := 3) (v := 0) dL_wasteWithDemand_2 rfl kc_i0 ?_
  refine me_aload_n (pc' := 4) (i := 0) dL_wasteWithDemand_3 rfl rfl rfl ?_
  refine me_iload_n (pc' := 5) (i := 1) dL_wasteWithDemand_4 rfl rfl rfl ?_
  refine me_iload_n (pc' := 6) (i := 2) dL_wasteWithDemand_5 rfl rfl rfl ?_
  refine me_iload_n (pc' := 7) (i := 3) dL_wasteWithDemand_6 rfl rfl rfl ?_
  refine me_callVH (As := [.int p1, .int p2, .int p3]) (st := [.int 0, .ref 358]) (F' := (mm_Sq q)) (G' := (mm_Sq q)) (F'' := (mm_Sq q)) (pc' := 10) dL_wasteWithDemand_7 rfl mfX10_wasteWithDemand rfl lkL_126 kd_0 rfl (mm_ltq kd_0) ⟨Nat.le_of_ble_eq_true rfl, Nat.le_of_ble_eq_true rfl⟩ (Nat.le_of_ble_eq_true rfl) (by decide) (fun z => z) (rX10_wasteWithDemand (q := q) p1 p2 p3 h ) (fun x1 e2 => ?_)
  rcases x1 with ⟨v3 | E5, h4⟩
  · refine Or.inl ⟨_, _, rfl, fun z => z, ?_⟩
    show mm_E2 _ _ _ _ _ [.int v3, .int 0, .ref 358] h4 _ _
    try dsimp only
    refine me_i2l (pc' := 11) dL_wasteWithDemand_10 rfl ?_
    refine mm_guard (fun c6 => ?_)
    refine me_last (F' := (mm_Sq q)) (pc' := 12) dL_wasteWithDemand_11 rfl kd_358 (mm_ltw kd_358 hN) (mm_ibd_of c6) (fun z => z) ?_
    refine mm_bnd (ms_J h4 358 (Int32.toNatClampNeg (0)) ((v3).toInt64)) (fun _ => [some (.ref 0), some (.int p1), some (.int p2), some (.int p3), some (.ref 358), none]) (fun _ => []) (fun h7 => h7) (fun h7 => ?_)
    refine me_goto (tgt := 23) dL_wasteWithDemand_12 (by decide) ?_
    refine me_iconst (pc' := 24) (v := 0) dL_wasteWithDemand_23 rfl kc_i0 ?_
    exact me_iret dL_wasteWithDemand_24 rfl (fun z => z) rfl
  · refine Or.inr ⟨_, _, rfl, fun y9 hy9 => ?_⟩
    dsimp only at hy9
    by_cases c8 : E5 = "java/lang/IndexOutOfBoundsException"
    · rw [if_pos c8] at hy9
      rw [c8]
      refine ⟨15, 17, ⟨[], ⟨0, 12, 15, 29⟩, [⟨0, 12, 19, 19⟩], rfl, fun _ h9 => absurd h9 List.not_mem_nil, by decide, by decide, rfl, clL_29, ctL_29⟩, Or.inl ⟨5, dL_wasteWithDemand_15, Nat.le_of_ble_eq_true rfl, rfl⟩, fun z => z, ?_⟩
      rw [← hy9]
      refine me_iconst (pc' := 18) (v := 1) dL_wasteWithDemand_17 rfl kc_i1 ?_
      exact me_iret dL_wasteWithDemand_18 rfl (fun z => z) rfl
    · rw [if_neg c8] at hy9
      by_cases c9 : E5 = "java/lang/IllegalArgumentException"
      · rw [if_pos c9] at hy9
        rw [c9]
        refine ⟨19, 21, ⟨[⟨0, 12, 15, 29⟩], ⟨0, 12, 19, 19⟩, [], rfl, List.forall_mem_cons.mpr ⟨⟨by decide, _, clL_29, by decide +kernel⟩, fun _ h9 => absurd h9 List.not_mem_nil⟩, by decide, by decide, rfl, clL_19, ctL_19⟩, Or.inl ⟨5, dL_wasteWithDemand_19, Nat.le_of_ble_eq_true rfl, rfl⟩, fun z => z, ?_⟩
        rw [← hy9]
        refine me_iconst (pc' := 22) (v := 2) dL_wasteWithDemand_21 rfl kc_i2 ?_
        exact me_iret dL_wasteWithDemand_22 rfl (fun z => z) rfl
      · rw [if_neg c9] at hy9
        cases hy9
def gL_demandWithoutWaste (p1 : Int32) (h : mm_H) : Option (Int32 × mm_H) :=
(gX10_demandWithoutWaste p1 h).bind (fun (x1 : ((Int32 ⊕ String) × mm_H)) => match x1 with
| (.inl v3, h4) =>
if mm_ibd 0 1 = true then
(some (ms_J h4 358 (Int32.toNatClampNeg (0)) ((v3).toInt64))).bind (fun (h7 : mm_H) =>
some (0, h7)) else none
| (.inr E5, h4) =>
if E5 = "java/lang/IndexOutOfBoundsException" then
some (1, h4)
else
none)
theorem rL_demandWithoutWaste {q : Nat × Nat} (p1 : Int32) (h : mm_H) (hN : 360 ≤ q.1) : mm_R2 (mm_Sq q) (mm_Sq q) mL_demandWithoutWaste [.ref 0, .int p1, .ref 358] h (gL_demandWithoutWaste p1 h) lf_ie := by
  refine mm_bodyH (L := [some (.ref 0), some (.int p1), some (.ref 358), none]) (by decide) (by decide +kernel) (Nat.le_of_ble_eq_true rfl) rfl ?_
  unfold gL_demandWithoutWaste
  refine me_aload_n (pc' := 1) (i := 2) dL_demandWithoutWaste_0 rfl rfl rfl ?_
  refine me_iconst (pc' := 2) (v := 0) dL_demandWithoutWaste_1 rfl kc_i0 ?_
  refine me_aload_n (pc' := 3) (i := 0) dL_demandWithoutWaste_2 rfl rfl rfl ?_
  refine me_iload_n (pc' := 4) (i := 1) dL_demandWithoutWaste_3 rfl rfl rfl ?_
  refine me_callVH (As := [.int p1]) (st := [.int 0, .ref 358]) (F' := (mm_Sq q)) (G' := (mm_Sq q)) (F'' := (mm_Sq q)) (pc' := 7) dL_demandWithoutWaste_4 rfl mfX10_demandWithoutWaste rfl lkL_130 kd_0 rfl (mm_ltq kd_0) ⟨Nat.le_of_ble_eq_true rfl, Nat.le_of_ble_eq_true rfl⟩ (Nat.le_of_ble_eq_true rfl) (by decide) (fun z => z) (rX10_demandWithoutWaste (q := q) p1 h ) (fun x1 e2 => ?_)
  rcases x1 with ⟨v3 | E5, h4⟩
  · refine Or.inl ⟨_, _, rfl, fun z => z, ?_⟩
    show mm_E2 _ _ _ _ _ [.int v3, .int 0, .ref 358] h4 _ _
    try dsimp only
    refine me_i2l (pc' := 8) dL_demandWithoutWaste_7 rfl ?_
    refine mm_guard (fun c6 => ?_)
    refine me_last (F' := (mm_Sq q)) (pc' := 9) dL_demandWithoutWaste_8 rfl kd_358 (mm_ltw kd_358 hN) (mm_ibd_of c6) (fun z => z) ?_
    refine mm_bnd (ms_J h4 358 (Int32.toNatClampNeg (0)) ((v3).toInt64)) (fun _ => [some (.ref 0), some (.int p1), some (.ref 358), none]) (fun _ => []) (fun h7 => h7) (fun h7 => ?_)
    refine me_goto (tgt := 15) dL_demandWithoutWaste_9 (by decide) ?_
    refine me_iconst (pc' := 16) (v := 0) dL_demandWithoutWaste_15 rfl kc_i0 ?_
    exact me_iret dL_demandWithoutWaste_16 rfl (fun z => z) rfl
  · refine Or.inr ⟨_, _, rfl, fun y9 hy9 => ?_⟩
    dsimp only at hy9
    by_cases c8 : E5 = "java/lang/IndexOutOfBoundsException"
    · rw [if_pos c8] at hy9
      rw [c8]
      refine ⟨12, 13, ⟨[], ⟨0, 9, 12, 29⟩, [], rfl, fun _ h9 => absurd h9 List.not_mem_nil, by decide, by decide, rfl, clL_29, ctL_29⟩, Or.inr ⟨3, dL_demandWithoutWaste_12, Nat.le_of_ble_eq_true rfl, rfl⟩, fun z => z, ?_⟩
      rw [← hy9]
      refine me_iconst (pc' := 14) (v := 1) dL_demandWithoutWaste_13 rfl kc_i1 ?_
      exact me_iret dL_demandWithoutWaste_14 rfl (fun z => z) rfl
    · rw [if_neg c8] at hy9
      cases hy9
def gL_receive (p1 : Int32) (p2 : Int32) (p3 : Int32) (p4 : Int32) (h : mm_H) : Option (Int32 × mm_H) :=
(gX10_receive p1 p2 p3 p4 h).bind (fun (x1 : ((Int32 ⊕ String) × mm_H)) => match x1 with
| (.inl v3, h4) =>
if mm_ibd 0 1 = true then
(some (ms_J h4 358 (Int32.toNatClampNeg (0)) ((v3).toInt64))).bind (fun (h7 : mm_H) =>
some (0, h7)) else none
| (.inr E5, h4) =>
if E5 = "java/lang/IndexOutOfBoundsException" then
some (1, h4)
else
if E5 = "java/lang/IllegalArgumentException" then
some (2, h4)
else
if E5 = "java/lang/IllegalStateException" then
some (3, h4)
else
none)
theorem rL_receive {q : Nat × Nat} (p1 : Int32) (p2 : Int32) (p3 : Int32) (p4 : Int32) (h : mm_H) (hN : 360 ≤ q.1) : mm_R2 (mm_Sq q) (mm_Sq q) mL_receive [.ref 0, .int p1, .int p2, .int p3, .int p4, .ref 358] h (gL_receive p1 p2 p3 p4 h) lf_ie := by
  refine mm_bodyH (L := [some (.ref 0), some (.int p1), some (.int p2), some (.int p3), some (.int p4), some (.ref 358), none]) (by decide) (by decide +kernel) (Nat.le_of_ble_eq_true rfl) rfl ?_
  unfold gL_receive
  refine me_aload (pc' := 2) (i := 5) dL_receive_0 rfl rfl ?_
  refine me_iconst (pc' := 3) (v := 0) dL_receive_2 rfl kc_i0 ?_
  refine me_aload_n (pc' := 4) (i := 0) dL_receive_3 rfl rfl rfl ?_
  refine me_iload_n (pc' := 5) (i := 1) dL_receive_4 rfl rfl rfl ?_
  refine me_iload_n (pc' := 6) (i := 2) dL_receive_5 rfl rfl rfl ?_
  refine me_iload_n (pc' := 7) (i := 3) dL_receive_6 rfl rfl rfl ?_
  refine me_iload (pc' := 9) (i := 4) dL_receive_7 rfl rfl ?_
  refine me_callVH (As := [.int p1, .int p2, .int p3, .int p4]) (st := [.int 0, .ref 358]) (F' := (mm_Sq q)) (G' := (mm_Sq q)) (F'' := (mm_Sq q)) (pc' := 12) dL_receive_9 rfl mfX10_receive rfl lkL_133 kd_0 rfl (mm_ltq kd_0) ⟨Nat.le_of_ble_eq_true rfl, Nat.le_of_ble_eq_true rfl⟩ (Nat.le_of_ble_eq_true rfl) (by decide) (fun z => z) (rX10_receive (q := q) p1 p2 p3 p4 h ) (fun x1 e2 => ?_)
  rcases x1 with ⟨v3 | E5, h4⟩
  · refine Or.inl ⟨_, _, rfl, fun z => z, ?_⟩
    show mm_E2 _ _ _ _ _ [.int v3, .int 0, .ref 358] h4 _ _
    try dsimp only
    refine me_i2l (pc' := 13) dL_receive_12 rfl ?_
    refine mm_guard (fun c6 => ?_)
    refine me_last (F' := (mm_Sq q)) (pc' := 14) dL_receive_13 rfl kd_358 (mm_ltw kd_358 hN) (mm_ibd_of c6) (fun z => z) ?_
    refine mm_bnd (ms_J h4 358 (Int32.toNatClampNeg (0)) ((v3).toInt64)) (fun _ => [some (.ref 0), some (.int p1), some (.int p2), some (.int p3), some (.int p4), some (.ref 358), none]) (fun _ => []) (fun h7 => h7) (fun h7 => ?_)
    refine me_goto (tgt := 29) dL_receive_14 (by decide) ?_
    refine me_iconst (pc' := 30) (v := 0) dL_receive_29 rfl kc_i0 ?_
    exact me_iret dL_receive_30 rfl (fun z => z) rfl
  · refine Or.inr ⟨_, _, rfl, fun y9 hy9 => ?_⟩
    dsimp only at hy9
    by_cases c8 : E5 = "java/lang/IndexOutOfBoundsException"
    · rw [if_pos c8] at hy9
      rw [c8]
      refine ⟨17, 19, ⟨[], ⟨0, 14, 17, 29⟩, [⟨0, 14, 21, 19⟩, ⟨0, 14, 25, 13⟩], rfl, fun _ h9 => absurd h9 List.not_mem_nil, by decide, by decide, rfl, clL_29, ctL_29⟩, Or.inl ⟨6, dL_receive_17, Nat.le_of_ble_eq_true rfl, rfl⟩, fun z => z, ?_⟩
      rw [← hy9]
      refine me_iconst (pc' := 20) (v := 1) dL_receive_19 rfl kc_i1 ?_
      exact me_iret dL_receive_20 rfl (fun z => z) rfl
    · rw [if_neg c8] at hy9
      by_cases c9 : E5 = "java/lang/IllegalArgumentException"
      · rw [if_pos c9] at hy9
        rw [c9]
        refine ⟨21, 23, ⟨[⟨0, 14, 17, 29⟩], ⟨0, 14, 21, 19⟩, [⟨0, 14, 25, 13⟩], rfl, List.forall_mem_cons.mpr ⟨⟨by decide, _, clL_29, by decide +kernel⟩, fun _ h9 => absurd h9 List.not_mem_nil⟩, by decide, by decide, rfl, clL_19, ctL_19⟩, Or.inl ⟨6, dL_receive_21, Nat.le_of_ble_eq_true rfl, rfl⟩, fun z => z, ?_⟩
        rw [← hy9]
        refine me_iconst (pc' := 24) (v := 2) dL_receive_23 rfl kc_i2 ?_
        exact me_iret dL_receive_24 rfl (fun z => z) rfl
      · rw [if_neg c9] at hy9
        by_cases c10 : E5 = "java/lang/IllegalStateException"
        · rw [if_pos c10] at hy9
          rw [c10]
          refine ⟨25, 27, ⟨[⟨0, 14, 17, 29⟩, ⟨0, 14, 21, 19⟩], ⟨0, 14, 25, 13⟩, [], rfl, List.forall_mem_cons.mpr ⟨⟨by decide, _, clL_29, by decide +kernel⟩, List.forall_mem_cons.mpr ⟨⟨by decide, _, clL_19, by decide +kernel⟩, fun _ h9 => absurd h9 List.not_mem_nil⟩⟩, by decide, by decide, rfl, clL_13, ctL_13⟩, Or.inl ⟨6, dL_receive_25, Nat.le_of_ble_eq_true rfl, rfl⟩, fun z => z, ?_⟩
          rw [← hy9]
          refine me_iconst (pc' := 28) (v := 3) dL_receive_27 rfl kc_i3 ?_
          exact me_iret dL_receive_28 rfl (fun z => z) rfl
        · rw [if_neg c10] at hy9
          cases hy9
def gL_issue (p1 : Int32) (p2 : Int32) (h : mm_H) : Option (Int32 × mm_H) :=
(gX10_issue p1 p2 h).bind (fun (x1 : ((Int32 ⊕ String) × mm_H)) => match x1 with
| (.inl v3, h4) =>
if mm_ibd 0 1 = true then
(some (ms_J h4 358 (Int32.toNatClampNeg (0)) ((v3).toInt64))).bind (fun (h7 : mm_H) =>
some (0, h7)) else none
| (.inr E5, h4) =>
if E5 = "java/lang/IndexOutOfBoundsException" then
some (1, h4)
else
if E5 = "java/lang/IllegalArgumentException" then
some (2, h4)
else
if E5 = "java/lang/IllegalStateException" then
some (3, h4)
else
none)
theorem rL_issue {q : Nat × Nat} (p1 : Int32) (p2 : Int32) (h : mm_H) (hN : 360 ≤ q.1) : mm_R2 (mm_Sq q) (mm_Sq q) mL_issue [.ref 0, .int p1, .int p2, .ref 358] h (gL_issue p1 p2 h) lf_ie := by
  refine mm_bodyH (L := [some (.ref 0), some (.int p1), some (.int p2), some (.ref 358), none]) (by decide) (by decide +kernel) (Nat.le_of_ble_eq_true rfl) rfl ?_
  unfold gL_issue
  refine me_aload_n (pc' := 1) (i := 3) dL_issue_0 rfl rfl rfl ?_
  refine me_iconst (pc' := 2) (v := 0) dL_issue_1 rfl kc_i0 ?_
  refine me_aload_n (pc' := 3) (i := 0) dL_issue_2 rfl rfl rfl ?_
  refine me_iload_n (pc' := 4) (i := 1) dL_issue_3 rfl rfl rfl ?_
  refine me_iload_n (pc' := 5) (i := 2) dL_issue_4 rfl rfl rfl ?_
  refine me_callVH (As := [.int p1, .int p2]) (st := [.int 0, .ref 358]) (F' := (mm_Sq q)) (G' := (mm_Sq q)) (F'' := (mm_Sq q)) (pc' := 8) dL_issue_5 rfl mfX10_issue rfl lkL_137 kd_0 rfl (mm_ltq kd_0) ⟨Nat.le_of_ble_eq_true rfl, Nat.le_of_ble_eq_true rfl⟩ (Nat.le_of_ble_eq_true rfl) (by decide) (fun z => z) (rX10_issue (q := q) p1 p2 h ) (fun x1 e2 => ?_)
  rcases x1 with ⟨v3 | E5, h4⟩
  · refine Or.inl ⟨_, _, rfl, fun z => z, ?_⟩
    show mm_E2 _ _ _ _ _ [.int v3, .int 0, .ref 358] h4 _ _
    try dsimp only
    refine me_i2l (pc' := 9) dL_issue_8 rfl ?_
    refine mm_guard (fun c6 => ?_)
    refine me_last (F' := (mm_Sq q)) (pc' := 10) dL_issue_9 rfl kd_358 (mm_ltw kd_358 hN) (mm_ibd_of c6) (fun z => z) ?_
    refine mm_bnd (ms_J h4 358 (Int32.toNatClampNeg (0)) ((v3).toInt64)) (fun _ => [some (.ref 0), some (.int p1), some (.int p2), some (.ref 358), none]) (fun _ => []) (fun h7 => h7) (fun h7 => ?_)
    refine me_goto (tgt := 25) dL_issue_10 (by decide) ?_
    refine me_iconst (pc' := 26) (v := 0) dL_issue_25 rfl kc_i0 ?_
    exact me_iret dL_issue_26 rfl (fun z => z) rfl
  · refine Or.inr ⟨_, _, rfl, fun y9 hy9 => ?_⟩
    dsimp only at hy9
    by_cases c8 : E5 = "java/lang/IndexOutOfBoundsException"
    · rw [if_pos c8] at hy9
      rw [c8]
      refine ⟨13, 15, ⟨[], ⟨0, 10, 13, 29⟩, [⟨0, 10, 17, 19⟩, ⟨0, 10, 21, 13⟩], rfl, fun _ h9 => absurd h9 List.not_mem_nil, by decide, by decide, rfl, clL_29, ctL_29⟩, Or.inl ⟨4, dL_issue_13, Nat.le_of_ble_eq_true rfl, rfl⟩, fun z => z, ?_⟩
      rw [← hy9]
      refine me_iconst (pc' := 16) (v := 1) dL_issue_15 rfl kc_i1 ?_
      exact me_iret dL_issue_16 rfl (fun z => z) rfl
    · rw [if_neg c8] at hy9
      by_cases c9 : E5 = "java/lang/IllegalArgumentException"
      · rw [if_pos c9] at hy9
        rw [c9]
        refine ⟨17, 19, ⟨[⟨0, 10, 13, 29⟩], ⟨0, 10, 17, 19⟩, [⟨0, 10, 21, 13⟩], rfl, List.forall_mem_cons.mpr ⟨⟨by decide, _, clL_29, by decide +kernel⟩, fun _ h9 => absurd h9 List.not_mem_nil⟩, by decide, by decide, rfl, clL_19, ctL_19⟩, Or.inl ⟨4, dL_issue_17, Nat.le_of_ble_eq_true rfl, rfl⟩, fun z => z, ?_⟩
        rw [← hy9]
        refine me_iconst (pc' := 20) (v := 2) dL_issue_19 rfl kc_i2 ?_
        exact me_iret dL_issue_20 rfl (fun z => z) rfl
      · rw [if_neg c9] at hy9
        by_cases c10 : E5 = "java/lang/IllegalStateException"
        · rw [if_pos c10] at hy9
          rw [c10]
          refine ⟨21, 23, ⟨[⟨0, 10, 13, 29⟩, ⟨0, 10, 17, 19⟩], ⟨0, 10, 21, 13⟩, [], rfl, List.forall_mem_cons.mpr ⟨⟨by decide, _, clL_29, by decide +kernel⟩, List.forall_mem_cons.mpr ⟨⟨by decide, _, clL_19, by decide +kernel⟩, fun _ h9 => absurd h9 List.not_mem_nil⟩⟩, by decide, by decide, rfl, clL_13, ctL_13⟩, Or.inl ⟨4, dL_issue_21, Nat.le_of_ble_eq_true rfl, rfl⟩, fun z => z, ?_⟩
          rw [← hy9]
          refine me_iconst (pc' := 24) (v := 3) dL_issue_23 rfl kc_i3 ?_
          exact me_iret dL_issue_24 rfl (fun z => z) rfl
        · rw [if_neg c10] at hy9
          cases hy9
def gL_reserve (p1 : Int32) (p2 : Int32) (p3 : Int32) (h : mm_H) : Option (Int32 × mm_H) :=
(gX10_reserve p1 p2 p3 h).bind (fun (x1 : ((Int32 ⊕ String) × mm_H)) => match x1 with
| (.inl v3, h4) =>
if mm_ibd 0 1 = true then
(some (ms_J h4 358 (Int32.toNatClampNeg (0)) ((v3).toInt64))).bind (fun (h7 : mm_H) =>
some (0, h7)) else none
| (.inr E5, h4) =>
if E5 = "java/lang/IndexOutOfBoundsException" then
some (1, h4)
else
if E5 = "java/lang/IllegalArgumentException" then
some (2, h4)
else
if E5 = "java/lang/IllegalStateException" then
some (3, h4)
else
none)
theorem rL_reserve {q : Nat × Nat} (p1 : Int32) (p2 : Int32) (p3 : Int32) (h : mm_H) (hN : 360 ≤ q.1) : mm_R2 (mm_Sq q) (mm_Sq q) mL_reserve [.ref 0, .int p1, .int p2, .int p3, .ref 358] h (gL_reserve p1 p2 p3 h) lf_ie := by
  refine mm_bodyH (L := [some (.ref 0), some (.int p1), some (.int p2), some (.int p3), some (.ref 358), none]) (by decide) (by decide +kernel) (Nat.le_of_ble_eq_true rfl) rfl ?_
  unfold gL_reserve
  refine me_aload (pc' := 2) (i := 4) dL_reserve_0 rfl rfl ?_
  refine me_iconst (pc' := 3) (v := 0) dL_reserve_2 rfl kc_i0 ?_
  refine me_aload_n (pc' := 4) (i := 0) dL_reserve_3 rfl rfl rfl ?_
  refine me_iload_n (pc' := 5) (i := 1) dL_reserve_4 rfl rfl rfl ?_
  refine me_iload_n (pc' := 6) (i := 2) dL_reserve_5 rfl rfl rfl ?_
  refine me_iload_n (pc' := 7) (i := 3) dL_reserve_6 rfl rfl rfl ?_
  refine me_callVH (As := [.int p1, .int p2, .int p3]) (st := [.int 0, .ref 358]) (F' := (mm_Sq q)) (G' := (mm_Sq q)) (F'' := (mm_Sq q)) (pc' := 10) dL_reserve_7 rfl mfX10_reserve rfl lkL_140 kd_0 rfl (mm_ltq kd_0) ⟨Nat.le_of_ble_eq_true rfl, Nat.le_of_ble_eq_true rfl⟩ (Nat.le_of_ble_eq_true rfl) (by decide) (fun z => z) (rX10_reserve (q := q) p1 p2 p3 h ) (fun x1 e2 => ?_)
  rcases x1 with ⟨v3 | E5, h4⟩
  · refine Or.inl ⟨_, _, rfl, fun z => z, ?_⟩
    show mm_E2 _ _ _ _ _ [.int v3, .int 0, .ref 358] h4 _ _
    try dsimp only
    refine me_i2l (pc' := 11) dL_reserve_10 rfl ?_
    refine mm_guard (fun c6 => ?_)
    refine me_last (F' := (mm_Sq q)) (pc' := 12) dL_reserve_11 rfl kd_358 (mm_ltw kd_358 hN) (mm_ibd_of c6) (fun z => z) ?_
    refine mm_bnd (ms_J h4 358 (Int32.toNatClampNeg (0)) ((v3).toInt64)) (fun _ => [some (.ref 0), some (.int p1), some (.int p2), some (.int p3), some (.ref 358), none]) (fun _ => []) (fun h7 => h7) (fun h7 => ?_)
    refine me_goto (tgt := 27) dL_reserve_12 (by decide) ?_
    refine me_iconst (pc' := 28) (v := 0) dL_reserve_27 rfl kc_i0 ?_
    exact me_iret dL_reserve_28 rfl (fun z => z) rfl
  · refine Or.inr ⟨_, _, rfl, fun y9 hy9 => ?_⟩
    dsimp only at hy9
    by_cases c8 : E5 = "java/lang/IndexOutOfBoundsException"
    · rw [if_pos c8] at hy9
      rw [c8]
      refine ⟨15, 17, ⟨[], ⟨0, 12, 15, 29⟩, [⟨0, 12, 19, 19⟩, ⟨0, 12, 23, 13⟩], rfl, fun _ h9 => absurd h9 List.not_mem_nil, by decide, by decide, rfl, clL_29, ctL_29⟩, Or.inl ⟨5, dL_reserve_15, Nat.le_of_ble_eq_true rfl, rfl⟩, fun z => z, ?_⟩
      rw [← hy9]
      refine me_iconst (pc' := 18) (v := 1) dL_reserve_17 rfl kc_i1 ?_
      exact me_iret dL_reserve_18 rfl (fun z => z) rfl
    · rw [if_neg c8] at hy9
      by_cases c9 : E5 = "java/lang/IllegalArgumentException"
      · rw [if_pos c9] at hy9
        rw [c9]
        refine ⟨19, 21, ⟨[⟨0, 12, 15, 29⟩], ⟨0, 12, 19, 19⟩, [⟨0, 12, 23, 13⟩], rfl, List.forall_mem_cons.mpr ⟨⟨by decide, _, clL_29, by decide +kernel⟩, fun _ h9 => absurd h9 List.not_mem_nil⟩, by decide, by decide, rfl, clL_19, ctL_19⟩, Or.inl ⟨5, dL_reserve_19, Nat.le_of_ble_eq_true rfl, rfl⟩, fun z => z, ?_⟩
        rw [← hy9]
        refine me_iconst (pc' := 22) (v := 2) dL_reserve_21 rfl kc_i2 ?_
        exact me_iret dL_reserve_22 rfl (fun z => z) rfl
      · rw [if_neg c9] at hy9
        by_cases c10 : E5 = "java/lang/IllegalStateException"
        · rw [if_pos c10] at hy9
          rw [c10]
          refine ⟨23, 25, ⟨[⟨0, 12, 15, 29⟩, ⟨0, 12, 19, 19⟩], ⟨0, 12, 23, 13⟩, [], rfl, List.forall_mem_cons.mpr ⟨⟨by decide, _, clL_29, by decide +kernel⟩, List.forall_mem_cons.mpr ⟨⟨by decide, _, clL_19, by decide +kernel⟩, fun _ h9 => absurd h9 List.not_mem_nil⟩⟩, by decide, by decide, rfl, clL_13, ctL_13⟩, Or.inl ⟨5, dL_reserve_23, Nat.le_of_ble_eq_true rfl, rfl⟩, fun z => z, ?_⟩
          rw [← hy9]
          refine me_iconst (pc' := 26) (v := 3) dL_reserve_25 rfl kc_i3 ?_
          exact me_iret dL_reserve_26 rfl (fun z => z) rfl
        · rw [if_neg c10] at hy9
          cases hy9
def gL_ship (p1 : Int32) (h : mm_H) : Option (Int32 × mm_H) :=
(gX10_ship p1 h).bind (fun (x1 : ((Int32 ⊕ String) × mm_H)) => match x1 with
| (.inl v3, h4) =>
if mm_ibd 0 1 = true then
(some (ms_J h4 358 (Int32.toNatClampNeg (0)) ((v3).toInt64))).bind (fun (h7 : mm_H) =>
some (0, h7)) else none
| (.inr E5, h4) =>
if E5 = "java/lang/IndexOutOfBoundsException" then
some (1, h4)
else
if E5 = "java/lang/IllegalStateException" then
some (2, h4)
else
none)
theorem rL_ship {q : Nat × Nat} (p1 : Int32) (h : mm_H) (hN : 360 ≤ q.1) : mm_R2 (mm_Sq q) (mm_Sq q) mL_ship [.ref 0, .int p1, .ref 358] h (gL_ship p1 h) lf_ie := by
  refine mm_bodyH (L := [some (.ref 0), some (.int p1), some (.ref 358), none]) (by decide) (by decide +kernel) (Nat.le_of_ble_eq_true rfl) rfl ?_
  unfold gL_ship
  refine me_aload_n (pc' := 1) (i := 2) dL_ship_0 rfl rfl rfl ?_
  refine me_iconst (pc' := 2) (v := 0) dL_ship_1 rfl kc_i0 ?_
  refine me_aload_n (pc' := 3) (i := 0) dL_ship_2 rfl rfl rfl ?_
  refine me_iload_n (pc' := 4) (i := 1) dL_ship_3 rfl rfl rfl ?_
  refine me_callVH (As := [.int p1]) (st := [.int 0, .ref 358]) (F' := (mm_Sq q)) (G' := (mm_Sq q)) (F'' := (mm_Sq q)) (pc' := 7) dL_ship_4 rfl mfX10_ship rfl lkL_143 kd_0 rfl (mm_ltq kd_0) ⟨Nat.le_of_ble_eq_true rfl, Nat.le_of_ble_eq_true rfl⟩ (Nat.le_of_ble_eq_true rfl) (by decide) (fun z => z) (rX10_ship (q := q) p1 h ) (fun x1 e2 => ?_)
  rcases x1 with ⟨v3 | E5, h4⟩
  · refine Or.inl ⟨_, _, rfl, fun z => z, ?_⟩
    show mm_E2 _ _ _ _ _ [.int v3, .int 0, .ref 358] h4 _ _
    try dsimp only
    refine me_i2l (pc' := 8) dL_ship_7 rfl ?_
    refine mm_guard (fun c6 => ?_)
    refine me_last (F' := (mm_Sq q)) (pc' := 9) dL_ship_8 rfl kd_358 (mm_ltw kd_358 hN) (mm_ibd_of c6) (fun z => z) ?_
    refine mm_bnd (ms_J h4 358 (Int32.toNatClampNeg (0)) ((v3).toInt64)) (fun _ => [some (.ref 0), some (.int p1), some (.ref 358), none]) (fun _ => []) (fun h7 => h7) (fun h7 => ?_)
    refine me_goto (tgt := 18) dL_ship_9 (by decide) ?_
    refine me_iconst (pc' := 19) (v := 0) dL_ship_18 rfl kc_i0 ?_
    exact me_iret dL_ship_19 rfl (fun z => z) rfl
  · refine Or.inr ⟨_, _, rfl, fun y9 hy9 => ?_⟩
    dsimp only at hy9
    by_cases c8 : E5 = "java/lang/IndexOutOfBoundsException"
    · rw [if_pos c8] at hy9
      rw [c8]
      refine ⟨12, 13, ⟨[], ⟨0, 9, 12, 29⟩, [⟨0, 9, 15, 13⟩], rfl, fun _ h9 => absurd h9 List.not_mem_nil, by decide, by decide, rfl, clL_29, ctL_29⟩, Or.inr ⟨3, dL_ship_12, Nat.le_of_ble_eq_true rfl, rfl⟩, fun z => z, ?_⟩
      rw [← hy9]
      refine me_iconst (pc' := 14) (v := 1) dL_ship_13 rfl kc_i1 ?_
      exact me_iret dL_ship_14 rfl (fun z => z) rfl
    · rw [if_neg c8] at hy9
      by_cases c9 : E5 = "java/lang/IllegalStateException"
      · rw [if_pos c9] at hy9
        rw [c9]
        refine ⟨15, 16, ⟨[⟨0, 9, 12, 29⟩], ⟨0, 9, 15, 13⟩, [], rfl, List.forall_mem_cons.mpr ⟨⟨by decide, _, clL_29, by decide +kernel⟩, fun _ h9 => absurd h9 List.not_mem_nil⟩, by decide, by decide, rfl, clL_13, ctL_13⟩, Or.inr ⟨3, dL_ship_15, Nat.le_of_ble_eq_true rfl, rfl⟩, fun z => z, ?_⟩
        rw [← hy9]
        refine me_iconst (pc' := 17) (v := 2) dL_ship_16 rfl kc_i2 ?_
        exact me_iret dL_ship_17 rfl (fun z => z) rfl
      · rw [if_neg c9] at hy9
        cases hy9
def gL_cancel (p1 : Int32) (h : mm_H) : Option (Int32 × mm_H) :=
(gX10_cancel p1 h).bind (fun (x1 : ((Int32 ⊕ String) × mm_H)) => match x1 with
| (.inl v3, h4) =>
if mm_ibd 0 1 = true then
(some (ms_J h4 358 (Int32.toNatClampNeg (0)) ((v3).toInt64))).bind (fun (h7 : mm_H) =>
some (0, h7)) else none
| (.inr E5, h4) =>
if E5 = "java/lang/IndexOutOfBoundsException" then
some (1, h4)
else
if E5 = "java/lang/IllegalStateException" then
some (2, h4)
else
none)
theorem rL_cancel {q : Nat × Nat} (p1 : Int32) (h : mm_H) (hN : 360 ≤ q.1) : mm_R2 (mm_Sq q) (mm_Sq q) mL_cancel [.ref 0, .int p1, .ref 358] h (gL_cancel p1 h) lf_ie := by
  refine mm_bodyH (L := [some (.ref 0), some (.int p1), some (.ref 358), none]) (by decide) (by decide +kernel) (Nat.le_of_ble_eq_true rfl) rfl ?_
  unfold gL_cancel
  refine me_aload_n (pc' := 1) (i := 2) dL_cancel_0 rfl rfl rfl ?_
  refine me_iconst (pc' := 2) (v := 0) dL_cancel_1 rfl kc_i0 ?_
  refine me_aload_n (pc' := 3) (i := 0) dL_cancel_2 rfl rfl rfl ?_
  refine me_iload_n (pc' := 4) (i := 1) dL_cancel_3 rfl rfl rfl ?_
  refine me_callVH (As := [.int p1]) (st := [.int 0, .ref 358]) (F' := (mm_Sq q)) (G' := (mm_Sq q)) (F'' := (mm_Sq q)) (pc' := 7) dL_cancel_4 rfl mfX10_cancel rfl lkL_146 kd_0 rfl (mm_ltq kd_0) ⟨Nat.le_of_ble_eq_true rfl, Nat.le_of_ble_eq_true rfl⟩ (Nat.le_of_ble_eq_true rfl) (by decide) (fun z => z) (rX10_cancel (q := q) p1 h ) (fun x1 e2 => ?_)
  rcases x1 with ⟨v3 | E5, h4⟩
  · refine Or.inl ⟨_, _, rfl, fun z => z, ?_⟩
    show mm_E2 _ _ _ _ _ [.int v3, .int 0, .ref 358] h4 _ _
    try dsimp only
    refine me_i2l (pc' := 8) dL_cancel_7 rfl ?_
    refine mm_guard (fun c6 => ?_)
    refine me_last (F' := (mm_Sq q)) (pc' := 9) dL_cancel_8 rfl kd_358 (mm_ltw kd_358 hN) (mm_ibd_of c6) (fun z => z) ?_
    refine mm_bnd (ms_J h4 358 (Int32.toNatClampNeg (0)) ((v3).toInt64)) (fun _ => [some (.ref 0), some (.int p1), some (.ref 358), none]) (fun _ => []) (fun h7 => h7) (fun h7 => ?_)
    refine me_goto (tgt := 18) dL_cancel_9 (by decide) ?_
    refine me_iconst (pc' := 19) (v := 0) dL_cancel_18 rfl kc_i0 ?_
    exact me_iret dL_cancel_19 rfl (fun z => z) rfl
  · refine Or.inr ⟨_, _, rfl, fun y9 hy9 => ?_⟩
    dsimp only at hy9
    by_cases c8 : E5 = "java/lang/IndexOutOfBoundsException"
    · rw [if_pos c8] at hy9
      rw [c8]
      refine ⟨12, 13, ⟨[], ⟨0, 9, 12, 29⟩, [⟨0, 9, 15, 13⟩], rfl, fun _ h9 => absurd h9 List.not_mem_nil, by decide, by decide, rfl, clL_29, ctL_29⟩, Or.inr ⟨3, dL_cancel_12, Nat.le_of_ble_eq_true rfl, rfl⟩, fun z => z, ?_⟩
      rw [← hy9]
      refine me_iconst (pc' := 14) (v := 1) dL_cancel_13 rfl kc_i1 ?_
      exact me_iret dL_cancel_14 rfl (fun z => z) rfl
    · rw [if_neg c8] at hy9
      by_cases c9 : E5 = "java/lang/IllegalStateException"
      · rw [if_pos c9] at hy9
        rw [c9]
        refine ⟨15, 16, ⟨[⟨0, 9, 12, 29⟩], ⟨0, 9, 15, 13⟩, [], rfl, List.forall_mem_cons.mpr ⟨⟨by decide, _, clL_29, by decide +kernel⟩, fun _ h9 => absurd h9 List.not_mem_nil⟩, by decide, by decide, rfl, clL_13, ctL_13⟩, Or.inr ⟨3, dL_cancel_15, Nat.le_of_ble_eq_true rfl, rfl⟩, fun z => z, ?_⟩
        rw [← hy9]
        refine me_iconst (pc' := 17) (v := 2) dL_cancel_16 rfl kc_i2 ?_
        exact me_iret dL_cancel_17 rfl (fun z => z) rfl
      · rw [if_neg c9] at hy9
        cases hy9
def gL_refill (p1 : Int32) (h : mm_H) : Option (Int32 × mm_H) :=
(gX10_refill p1 h).bind (fun (x1 : ((Int32 ⊕ String) × mm_H)) => match x1 with
| (.inl v3, h4) =>
if mm_ibd 0 1 = true then
(some (ms_J h4 358 (Int32.toNatClampNeg (0)) ((v3).toInt64))).bind (fun (h7 : mm_H) =>
some (0, h7)) else none
| (.inr E5, h4) =>
if E5 = "java/lang/IndexOutOfBoundsException" then
some (1, h4)
else
if E5 = "java/lang/IllegalStateException" then
some (2, h4)
else
none)
theorem rL_refill {q : Nat × Nat} (p1 : Int32) (h : mm_H) (hN : 360 ≤ q.1) : mm_R2 (mm_Sq q) (mm_Sq q) mL_refill [.ref 0, .int p1, .ref 358] h (gL_refill p1 h) lf_ie := by
  refine mm_bodyH (L := [some (.ref 0), some (.int p1), some (.ref 358), none]) (by decide) (by decide +kernel) (Nat.le_of_ble_eq_true rfl) rfl ?_
  unfold gL_refill
  refine me_aload_n (pc' := 1) (i := 2) dL_refill_0 rfl rfl rfl ?_
  refine me_iconst (pc' := 2) (v := 0) dL_refill_1 rfl kc_i0 ?_
  refine me_aload_n (pc' := 3) (i := 0) dL_refill_2 rfl rfl rfl ?_
  refine me_iload_n (pc' := 4) (i := 1) dL_refill_3 rfl rfl rfl ?_
  refine me_callVH (As := [.int p1]) (st := [.int 0, .ref 358]) (F' := (mm_Sq q)) (G' := (mm_Sq q)) (F'' := (mm_Sq q)) (pc' := 7) dL_refill_4 rfl mfX10_refill rfl lkL_149 kd_0 rfl (mm_ltq kd_0) ⟨Nat.le_of_ble_eq_true rfl, Nat.le_of_ble_eq_true rfl⟩ (Nat.le_of_ble_eq_true rfl) (by decide) (fun z => z) (rX10_refill (q := q) p1 h ) (fun x1 e2 => ?_)
  rcases x1 with ⟨v3 | E5, h4⟩
  · refine Or.inl ⟨_, _, rfl, fun z => z, ?_⟩
    show mm_E2 _ _ _ _ _ [.int v3, .int 0, .ref 358] h4 _ _
    try dsimp only
    refine me_i2l (pc' := 8) dL_refill_7 rfl ?_
    refine mm_guard (fun c6 => ?_)
    refine me_last (F' := (mm_Sq q)) (pc' := 9) dL_refill_8 rfl kd_358 (mm_ltw kd_358 hN) (mm_ibd_of c6) (fun z => z) ?_
    refine mm_bnd (ms_J h4 358 (Int32.toNatClampNeg (0)) ((v3).toInt64)) (fun _ => [some (.ref 0), some (.int p1), some (.ref 358), none]) (fun _ => []) (fun h7 => h7) (fun h7 => ?_)
    refine me_goto (tgt := 18) dL_refill_9 (by decide) ?_
    refine me_iconst (pc' := 19) (v := 0) dL_refill_18 rfl kc_i0 ?_
    exact me_iret dL_refill_19 rfl (fun z => z) rfl
  · refine Or.inr ⟨_, _, rfl, fun y9 hy9 => ?_⟩
    dsimp only at hy9
    by_cases c8 : E5 = "java/lang/IndexOutOfBoundsException"
    · rw [if_pos c8] at hy9
      rw [c8]
      refine ⟨12, 13, ⟨[], ⟨0, 9, 12, 29⟩, [⟨0, 9, 15, 13⟩], rfl, fun _ h9 => absurd h9 List.not_mem_nil, by decide, by decide, rfl, clL_29, ctL_29⟩, Or.inr ⟨3, dL_refill_12, Nat.le_of_ble_eq_true rfl, rfl⟩, fun z => z, ?_⟩
      rw [← hy9]
      refine me_iconst (pc' := 14) (v := 1) dL_refill_13 rfl kc_i1 ?_
      exact me_iret dL_refill_14 rfl (fun z => z) rfl
    · rw [if_neg c8] at hy9
      by_cases c9 : E5 = "java/lang/IllegalStateException"
      · rw [if_pos c9] at hy9
        rw [c9]
        refine ⟨15, 16, ⟨[⟨0, 9, 12, 29⟩], ⟨0, 9, 15, 13⟩, [], rfl, List.forall_mem_cons.mpr ⟨⟨by decide, _, clL_29, by decide +kernel⟩, fun _ h9 => absurd h9 List.not_mem_nil⟩, by decide, by decide, rfl, clL_13, ctL_13⟩, Or.inr ⟨3, dL_refill_15, Nat.le_of_ble_eq_true rfl, rfl⟩, fun z => z, ?_⟩
        rw [← hy9]
        refine me_iconst (pc' := 17) (v := 2) dL_refill_16 rfl kc_i2 ?_
        exact me_iret dL_refill_17 rfl (fun z => z) rfl
      · rw [if_neg c9] at hy9
        cases hy9
def gL_takeStock (p1 : Int32) (p2 : Int32) (h : mm_H) : Option (Int32 × mm_H) :=
(gX10_takeStock p1 p2 h).bind (fun (x1 : ((Int32 ⊕ String) × mm_H)) => match x1 with
| (.inl v3, h4) =>
if mm_ibd 0 1 = true then
(some (ms_J h4 358 (Int32.toNatClampNeg (0)) ((v3).toInt64))).bind (fun (h7 : mm_H) =>
some (0, h7)) else none
| (.inr E5, h4) =>
if E5 = "java/lang/IndexOutOfBoundsException" then
some (1, h4)
else
if E5 = "java/lang/IllegalArgumentException" then
some (2, h4)
else
if E5 = "java/lang/IllegalStateException" then
some (3, h4)
else
none)
theorem rL_takeStock {q : Nat × Nat} (p1 : Int32) (p2 : Int32) (h : mm_H) (hN : 360 ≤ q.1) : mm_R2 (mm_Sq q) (mm_Sq q) mL_takeStock [.ref 0, .int p1, .int p2, .ref 358] h (gL_takeStock p1 p2 h) lf_ie := by
  refine mm_bodyH (L := [some (.ref 0), some (.int p1), some (.int p2), some (.ref 358), none]) (by decide) (by decide +kernel) (Nat.le_of_ble_eq_true rfl) rfl ?_
  unfold gL_takeStock
  refine me_aload_n (pc' := 1) (i := 3) dL_takeStock_0 rfl rfl rfl ?_
  refine me_iconst (pc' := 2) (v := 0) dL_takeStock_1 rfl kc_i0 ?_
  refine me_aload_n (pc' := 3) (i := 0) dL_takeStock_2 rfl rfl rfl ?_
  refine me_iload_n (pc' := 4) (i := 1) dL_takeStock_3 rfl rfl rfl ?_
  refine me_iload_n (pc' := 5) (i := 2) dL_takeStock_4 rfl rfl rfl ?_
  refine me_callVH (As := [.int p1, .int p2]) (st := [.int 0, .ref 358]) (F' := (mm_Sq q)) (G' := (mm_Sq q)) (F'' := (mm_Sq q)) (pc' := 8) dL_takeStock_5 rfl mfX10_takeStock rfl lkL_152 kd_0 rfl (mm_ltq kd_0) ⟨Nat.le_of_ble_eq_true rfl, Nat.le_of_ble_eq_true rfl⟩ (Nat.le_of_ble_eq_true rfl) (by decide) (fun z => z) (rX10_takeStock (q := q) p1 p2 h ) (fun x1 e2 => ?_)
  rcases x1 with ⟨v3 | E5, h4⟩
  · refine Or.inl ⟨_, _, rfl, fun z => z, ?_⟩
    show mm_E2 _ _ _ _ _ [.int v3, .int 0, .ref 358] h4 _ _
    try dsimp only
    refine me_i2l (pc' := 9) dL_takeStock_8 rfl ?_
    refine mm_guard (fun c6 => ?_)
    refine me_last (F' := (mm_Sq q)) (pc' := 10) dL_takeStock_9 rfl kd_358 (mm_ltw kd_358 hN) (mm_ibd_of c6) (fun z => z) ?_
    refine mm_bnd (ms_J h4 358 (Int32.toNatClampNeg (0)) ((v3).toInt64)) (fun _ => [some (.ref 0), some (.int p1), some (.int p2), some (.ref 358), none]) (fun _ => []) (fun h7 => h7) (fun h7 => ?_)
    refine me_goto (tgt := 25) dL_takeStock_10 (by decide) ?_
    refine me_iconst (pc' := 26) (v := 0) dL_takeStock_25 rfl kc_i0 ?_
    exact me_iret dL_takeStock_26 rfl (fun z => z) rfl
  · refine Or.inr ⟨_, _, rfl, fun y9 hy9 => ?_⟩
    dsimp only at hy9
    by_cases c8 : E5 = "java/lang/IndexOutOfBoundsException"
    · rw [if_pos c8] at hy9
      rw [c8]
      refine ⟨13, 15, ⟨[], ⟨0, 10, 13, 29⟩, [⟨0, 10, 17, 19⟩, ⟨0, 10, 21, 13⟩], rfl, fun _ h9 => absurd h9 List.not_mem_nil, by decide, by decide, rfl, clL_29, ctL_29⟩, Or.inl ⟨4, dL_takeStock_13, Nat.le_of_ble_eq_true rfl, rfl⟩, fun z => z, ?_⟩
      rw [← hy9]
      refine me_iconst (pc' := 16) (v := 1) dL_takeStock_15 rfl kc_i1 ?_
      exact me_iret dL_takeStock_16 rfl (fun z => z) rfl
    · rw [if_neg c8] at hy9
      by_cases c9 : E5 = "java/lang/IllegalArgumentException"
      · rw [if_pos c9] at hy9
        rw [c9]
        refine ⟨17, 19, ⟨[⟨0, 10, 13, 29⟩], ⟨0, 10, 17, 19⟩, [⟨0, 10, 21, 13⟩], rfl, List.forall_mem_cons.mpr ⟨⟨by decide, _, clL_29, by decide +kernel⟩, fun _ h9 => absurd h9 List.not_mem_nil⟩, by decide, by decide, rfl, clL_19, ctL_19⟩, Or.inl ⟨4, dL_takeStock_17, Nat.le_of_ble_eq_true rfl, rfl⟩, fun z => z, ?_⟩
        rw [← hy9]
        refine me_iconst (pc' := 20) (v := 2) dL_takeStock_19 rfl kc_i2 ?_
        exact me_iret dL_takeStock_20 rfl (fun z => z) rfl
      · rw [if_neg c9] at hy9
        by_cases c10 : E5 = "java/lang/IllegalStateException"
        · rw [if_pos c10] at hy9
          rw [c10]
          refine ⟨21, 23, ⟨[⟨0, 10, 13, 29⟩, ⟨0, 10, 17, 19⟩], ⟨0, 10, 21, 13⟩, [], rfl, List.forall_mem_cons.mpr ⟨⟨by decide, _, clL_29, by decide +kernel⟩, List.forall_mem_cons.mpr ⟨⟨by decide, _, clL_19, by decide +kernel⟩, fun _ h9 => absurd h9 List.not_mem_nil⟩⟩, by decide, by decide, rfl, clL_13, ctL_13⟩, Or.inl ⟨4, dL_takeStock_21, Nat.le_of_ble_eq_true rfl, rfl⟩, fun z => z, ?_⟩
          rw [← hy9]
          refine me_iconst (pc' := 24) (v := 3) dL_takeStock_23 rfl kc_i3 ?_
          exact me_iret dL_takeStock_24 rfl (fun z => z) rfl
        · rw [if_neg c10] at hy9
          cases hy9
def gL_passDays (p1 : Int32) (h : mm_H) : Option (Int32 × mm_H) :=
(gX10_passDays p1 h).bind (fun (x1 : ((Int32 ⊕ String) × mm_H)) => match x1 with
| (.inl v3, h4) =>
if mm_ibd 0 1 = true then
(some (ms_J h4 358 (Int32.toNatClampNeg (0)) ((v3).toInt64))).bind (fun (h7 : mm_H) =>
some (0, h7)) else none
| (.inr E5, h4) =>
if E5 = "java/lang/IllegalArgumentException" then
some (1, h4)
else
if E5 = "java/lang/IllegalStateException" then
some (2, h4)
else
none)
theorem rL_passDays {q : Nat × Nat} (p1 : Int32) (h : mm_H) (hN : 360 ≤ q.1) : mm_R2 (mm_Sq q) (mm_Sq q) mL_passDays [.ref 0, .int p1, .ref 358] h (gL_passDays p1 h) lf_ie := by
  refine mm_bodyH (L := [some (.ref 0), some (.int p1), some (.ref 358), none]) (by decide) (by decide +kernel) (Nat.le_of_ble_eq_true rfl) rfl ?_
  unfold gL_passDays
  refine me_aload_n (pc' := 1) (i := 2) dL_passDays_0 rfl rfl rfl ?_
  refine me_iconst (pc' := 2) (v := 0) dL_passDays_1 rfl kc_i0 ?_
  refine me_aload_n (pc' := 3) (i := 0) dL_passDays_2 rfl rfl rfl ?_
  refine me_iload_n (pc' := 4) (i := 1) dL_passDays_3 rfl rfl rfl ?_
  refine me_callVH (As := [.int p1]) (st := [.int 0, .ref 358]) (F' := (mm_Sq q)) (G' := (mm_Sq q)) (F'' := (mm_Sq q)) (pc' := 7) dL_passDays_4 rfl mfX10_passDays rfl lkL_155 kd_0 rfl (mm_ltq kd_0) ⟨Nat.le_of_ble_eq_true rfl, Nat.le_of_ble_eq_true rfl⟩ (Nat.le_of_ble_eq_true rfl) (by decide) (fun z => z) (rX10_passDays (q := q) p1 h ) (fun x1 e2 => ?_)
  rcases x1 with ⟨v3 | E5, h4⟩
  · refine Or.inl ⟨_, _, rfl, fun z => z, ?_⟩
    show mm_E2 _ _ _ _ _ [.int v3, .int 0, .ref 358] h4 _ _
    try dsimp only
    refine me_i2l (pc' := 8) dL_passDays_7 rfl ?_
    refine mm_guard (fun c6 => ?_)
    refine me_last (F' := (mm_Sq q)) (pc' := 9) dL_passDays_8 rfl kd_358 (mm_ltw kd_358 hN) (mm_ibd_of c6) (fun z => z) ?_
    refine mm_bnd (ms_J h4 358 (Int32.toNatClampNeg (0)) ((v3).toInt64)) (fun _ => [some (.ref 0), some (.int p1), some (.ref 358), none]) (fun _ => []) (fun h7 => h7) (fun h7 => ?_)
    refine me_goto (tgt := 18) dL_passDays_9 (by decide) ?_
    refine me_iconst (pc' := 19) (v := 0) dL_passDays_18 rfl kc_i0 ?_
    exact me_iret dL_passDays_19 rfl (fun z => z) rfl
  · refine Or.inr ⟨_, _, rfl, fun y9 hy9 => ?_⟩
    dsimp only at hy9
    by_cases c8 : E5 = "java/lang/IllegalArgumentException"
    · rw [if_pos c8] at hy9
      rw [c8]
      refine ⟨12, 13, ⟨[], ⟨0, 9, 12, 19⟩, [⟨0, 9, 15, 13⟩], rfl, fun _ h9 => absurd h9 List.not_mem_nil, by decide, by decide, rfl, clL_19, ctL_19⟩, Or.inr ⟨3, dL_passDays_12, Nat.le_of_ble_eq_true rfl, rfl⟩, fun z => z, ?_⟩
      rw [← hy9]
      refine me_iconst (pc' := 14) (v := 1) dL_passDays_13 rfl kc_i1 ?_
      exact me_iret dL_passDays_14 rfl (fun z => z) rfl
    · rw [if_neg c8] at hy9
      by_cases c9 : E5 = "java/lang/IllegalStateException"
      · rw [if_pos c9] at hy9
        rw [c9]
        refine ⟨15, 16, ⟨[⟨0, 9, 12, 19⟩], ⟨0, 9, 15, 13⟩, [], rfl, List.forall_mem_cons.mpr ⟨⟨by decide, _, clL_19, by decide +kernel⟩, fun _ h9 => absurd h9 List.not_mem_nil⟩, by decide, by decide, rfl, clL_13, ctL_13⟩, Or.inr ⟨3, dL_passDays_15, Nat.le_of_ble_eq_true rfl, rfl⟩, fun z => z, ?_⟩
        rw [← hy9]
        refine me_iconst (pc' := 17) (v := 2) dL_passDays_16 rfl kc_i2 ?_
        exact me_iret dL_passDays_17 rfl (fun z => z) rfl
      · rw [if_neg c9] at hy9
        cases hy9
def gL_runScript (h : mm_H) : Option (Int32 × mm_H) :=
(gX10_runScript h).bind (fun (x1 : ((Int32 ⊕ String) × mm_H)) => match x1 with
| (.inl v3, h4) =>
if mm_ibd 0 1 = true then
(some (ms_J h4 358 (Int32.toNatClampNeg (0)) ((v3).toInt64))).bind (fun (h7 : mm_H) =>
some (0, h7)) else none
| (.inr E5, h4) =>
if E5 = "java/lang/IllegalArgumentException" then
some (1, h4)
else
none)
theorem rL_runScript {q : Nat × Nat} (h : mm_H) (hN : 360 ≤ q.1) : mm_R2 (mm_Sq q) (mm_Sq (q.1, 1)) mL_runScript [.ref 0, .ref 358] h (gL_runScript h) lf_ie := by
  refine mm_bodyH (L := [some (.ref 0), some (.ref 358), none]) (by decide) (by decide +kernel) (Nat.le_of_ble_eq_true rfl) rfl ?_
  unfold gL_runScript
  refine me_aload_n (pc' := 1) (i := 1) dL_runScript_0 rfl rfl rfl ?_
  refine me_iconst (pc' := 2) (v := 0) dL_runScript_1 rfl kc_i0 ?_
  refine me_aload_n (pc' := 3) (i := 0) dL_runScript_2 rfl rfl rfl ?_
  refine me_callVH (As := []) (st := [.int 0, .ref 358]) (F' := (mm_Sq q)) (G' := (mm_Sq (q.1, 1))) (F'' := (mm_Sq (q.1, 1))) (pc' := 6) dL_runScript_3 rfl mfX10_runScript rfl lkL_158 kd_0 rfl (mm_ltq kd_0) ⟨Nat.le_of_ble_eq_true rfl, Nat.le_of_ble_eq_true rfl⟩ (Nat.le_of_ble_eq_true rfl) (by decide) (fun z => z) (rX10_runScript (q := q) h ) (fun x1 e2 => ?_)
  rcases x1 with ⟨v3 | E5, h4⟩
  · refine Or.inl ⟨_, _, rfl, fun z => z, ?_⟩
    show mm_E2 _ _ _ _ _ [.int v3, .int 0, .ref 358] h4 _ _
    try dsimp only
    refine me_i2l (pc' := 7) dL_runScript_6 rfl ?_
    refine mm_guard (fun c6 => ?_)
    refine me_last (F' := (mm_Sq (q.1, 1))) (pc' := 8) dL_runScript_7 rfl kd_358 (mm_ltw kd_358 hN) (mm_ibd_of c6) (fun z => z) ?_
    refine mm_bnd (ms_J h4 358 (Int32.toNatClampNeg (0)) ((v3).toInt64)) (fun _ => [some (.ref 0), some (.ref 358), none]) (fun _ => []) (fun h7 => h7) (fun h7 => ?_)
    refine me_goto (tgt := 14) dL_runScript_8 (by decide) ?_
    refine me_iconst (pc' := 15) (v := 0) dL_runScript_14 rfl kc_i0 ?_
    exact me_iret dL_runScript_15 rfl (fun z => z) rfl
  · refine Or.inr ⟨_, _, rfl, fun y9 hy9 => ?_⟩
    dsimp only at hy9
    by_cases c8 : E5 = "java/lang/IllegalArgumentException"
    · rw [if_pos c8] at hy9
      rw [c8]
      refine ⟨11, 12, ⟨[], ⟨0, 8, 11, 19⟩, [], rfl, fun _ h9 => absurd h9 List.not_mem_nil, by decide, by decide, rfl, clL_19, ctL_19⟩, Or.inr ⟨2, dL_runScript_11, Nat.le_of_ble_eq_true rfl, rfl⟩, fun z => z, ?_⟩
      rw [← hy9]
      refine me_iconst (pc' := 13) (v := 1) dL_runScript_12 rfl kc_i1 ?_
      exact me_iret dL_runScript_13 rfl (fun z => z) rfl
    · rw [if_neg c8] at hy9
      cases hy9
def gL_undo (h : mm_H) : Option (Int32 × mm_H) :=
(gX10_undo h).bind (fun (x1 : ((Int32 ⊕ String) × mm_H)) => match x1 with
| (.inl v3, h4) =>
if mm_ibd 0 1 = true then
(some (ms_J h4 358 (Int32.toNatClampNeg (0)) ((v3).toInt64))).bind (fun (h7 : mm_H) =>
some (0, h7)) else none
| (.inr E5, h4) =>
if E5 = "java/lang/IllegalStateException" then
some (1, h4)
else
none)
theorem rL_undo {q : Nat × Nat} (h : mm_H) (hN : 360 ≤ q.1) : mm_R2 (mm_Sq q) (mm_Sq q) mL_undo [.ref 0, .ref 358] h (gL_undo h) lf_ie := by
  refine mm_bodyH (L := [some (.ref 0), some (.ref 358), none]) (by decide) (by decide +kernel) (Nat.le_of_ble_eq_true rfl) rfl ?_
  unfold gL_undo
  refine me_aload_n (pc' := 1) (i := 1) dL_undo_0 rfl rfl rfl ?_
  refine me_iconst (pc' := 2) (v := 0) dL_undo_1 rfl kc_i0 ?_
  refine me_aload_n (pc' := 3) (i := 0) dL_undo_2 rfl rfl rfl ?_
  refine me_callVH (As := []) (st := [.int 0, .ref 358]) (F' := (mm_Sq q)) (G' := (mm_Sq q)) (F'' := (mm_Sq q)) (pc' := 6) dL_undo_3 rfl mfX10_undo rfl lkL_161 kd_0 rfl (mm_ltq kd_0) ⟨Nat.le_of_ble_eq_true rfl, Nat.le_of_ble_eq_true rfl⟩ (Nat.le_of_ble_eq_true rfl) (by decide) (fun z => z) (rX10_undo (q := q) h ) (fun x1 e2 => ?_)
  rcases x1 with ⟨v3 | E5, h4⟩
  · refine Or.inl ⟨_, _, rfl, fun z => z, ?_⟩
    show mm_E2 _ _ _ _ _ [.int v3, .int 0, .ref 358] h4 _ _
    try dsimp only
    refine me_i2l (pc' := 7) dL_undo_6 rfl ?_
    refine mm_guard (fun c6 => ?_)
    refine me_last (F' := (mm_Sq q)) (pc' := 8) dL_undo_7 rfl kd_358 (mm_ltw kd_358 hN) (mm_ibd_of c6) (fun z => z) ?_
    refine mm_bnd (ms_J h4 358 (Int32.toNatClampNeg (0)) ((v3).toInt64)) (fun _ => [some (.ref 0), some (.ref 358), none]) (fun _ => []) (fun h7 => h7) (fun h7 => ?_)
    refine me_goto (tgt := 14) dL_undo_8 (by decide) ?_
    refine me_iconst (pc' := 15) (v := 0) dL_undo_14 rfl kc_i0 ?_
    exact me_iret dL_undo_15 rfl (fun z => z) rfl
  · refine Or.inr ⟨_, _, rfl, fun y9 hy9 => ?_⟩
    dsimp only at hy9
    by_cases c8 : E5 = "java/lang/IllegalStateException"
    · rw [if_pos c8] at hy9
      rw [c8]
      refine ⟨11, 12, ⟨[], ⟨0, 8, 11, 13⟩, [], rfl, fun _ h9 => absurd h9 List.not_mem_nil, by decide, by decide, rfl, clL_13, ctL_13⟩, Or.inr ⟨2, dL_undo_11, Nat.le_of_ble_eq_true rfl, rfl⟩, fun z => z, ?_⟩
      rw [← hy9]
      refine me_iconst (pc' := 13) (v := 1) dL_undo_12 rfl kc_i1 ?_
      exact me_iret dL_undo_13 rfl (fun z => z) rfl
    · rw [if_neg c8] at hy9
      cases hy9
def gL_save (p1 : Int32) (h : mm_H) : Option (Int32 × mm_H) :=
(gX10_save p1 h).bind (fun (x1 : ((Int32 ⊕ String) × mm_H)) => match x1 with
| (.inl v3, h4) =>
if mm_ibd 0 1 = true then
(some (ms_J h4 358 (Int32.toNatClampNeg (0)) ((v3).toInt64))).bind (fun (h7 : mm_H) =>
some (0, h7)) else none
| (.inr E5, h4) =>
if E5 = "java/lang/IndexOutOfBoundsException" then
some (1, h4)
else
none)
theorem rL_save {q : Nat × Nat} (p1 : Int32) (h : mm_H) (hN : 360 ≤ q.1) : mm_R2 (mm_Sq q) (mm_Sq q) mL_save [.ref 0, .int p1, .ref 358] h (gL_save p1 h) lf_ie := by
  refine mm_bodyH (L := [some (.ref 0), some (.int p1), some (.ref 358), none]) (by decide) (by decide +kernel) (Nat.le_of_ble_eq_true rfl) rfl ?_
  unfold gL_save
  refine me_aload_n (pc' := 1) (i := 2) dL_save_0 rfl rfl rfl ?_
  refine me_iconst (pc' := 2) (v := 0) dL_save_1 rfl kc_i0 ?_
  refine me_aload_n (pc' := 3) (i := 0) dL_save_2 rfl rfl rfl ?_
  refine me_iload_n (pc' := 4) (i := 1) dL_save_3 rfl rfl rfl ?_
  refine me_callVH (As := [.int p1]) (st := [.int 0, .ref 358]) (F' := (mm_Sq q)) (G' := (mm_Sq q)) (F'' := (mm_Sq q)) (pc' := 7) dL_save_4 rfl mfX10_save rfl lkL_164 kd_0 rfl (mm_ltq kd_0) ⟨Nat.le_of_ble_eq_true rfl, Nat.le_of_ble_eq_true rfl⟩ (Nat.le_of_ble_eq_true rfl) (by decide) (fun z => z) (rX10_save (q := q) p1 h ) (fun x1 e2 => ?_)
  rcases x1 with ⟨v3 | E5, h4⟩
  · refine Or.inl ⟨_, _, rfl, fun z => z, ?_⟩
    show mm_E2 _ _ _ _ _ [.int v3, .int 0, .ref 358] h4 _ _
    try dsimp only
    refine me_i2l (pc' := 8) dL_save_7 rfl ?_
    refine mm_guard (fun c6 => ?_)
    refine me_last (F' := (mm_Sq q)) (pc' := 9) dL_save_8 rfl kd_358 (mm_ltw kd_358 hN) (mm_ibd_of c6) (fun z => z) ?_
    refine mm_bnd (ms_J h4 358 (Int32.toNatClampNeg (0)) ((v3).toInt64)) (fun _ => [some (.ref 0), some (.int p1), some (.ref 358), none]) (fun _ => []) (fun h7 => h7) (fun h7 => ?_)
    refine me_goto (tgt := 15) dL_save_9 (by decide) ?_
    refine me_iconst (pc' := 16) (v := 0) dL_save_15 rfl kc_i0 ?_
    exact me_iret dL_save_16 rfl (fun z => z) rfl
  · refine Or.inr ⟨_, _, rfl, fun y9 hy9 => ?_⟩
    dsimp only at hy9
    by_cases c8 : E5 = "java/lang/IndexOutOfBoundsException"
    · rw [if_pos c8] at hy9
      rw [c8]
      refine ⟨12, 13, ⟨[], ⟨0, 9, 12, 29⟩, [], rfl, fun _ h9 => absurd h9 List.not_mem_nil, by decide, by decide, rfl, clL_29, ctL_29⟩, Or.inr ⟨3, dL_save_12, Nat.le_of_ble_eq_true rfl, rfl⟩, fun z => z, ?_⟩
      rw [← hy9]
      refine me_iconst (pc' := 14) (v := 1) dL_save_13 rfl kc_i1 ?_
      exact me_iret dL_save_14 rfl (fun z => z) rfl
    · rw [if_neg c8] at hy9
      cases hy9
def gL_restore (p1 : Int32) (h : mm_H) : Option (Int32 × mm_H) :=
(gX10_restore p1 h).bind (fun (x1 : ((Int32 ⊕ String) × mm_H)) => match x1 with
| (.inl v3, h4) =>
if mm_ibd 0 1 = true then
(some (ms_J h4 358 (Int32.toNatClampNeg (0)) ((v3).toInt64))).bind (fun (h7 : mm_H) =>
some (0, h7)) else none
| (.inr E5, h4) =>
if E5 = "java/lang/IndexOutOfBoundsException" then
some (1, h4)
else
if E5 = "java/lang/IllegalStateException" then
some (2, h4)
else
none)
theorem rL_restore {q : Nat × Nat} (p1 : Int32) (h : mm_H) (hN : 360 ≤ q.1) : mm_R2 (mm_Sq q) (mm_Sq q) mL_restore [.ref 0, .int p1, .ref 358] h (gL_restore p1 h) lf_ie := by
  refine mm_bodyH (L := [some (.ref 0), some (.int p1), some (.ref 358), none]) (by decide) (by decide +kernel) (Nat.le_of_ble_eq_true rfl) rfl ?_
  unfold gL_restore
  refine me_aload_n (pc' := 1) (i := 2) dL_restore_0 rfl rfl rfl ?_
  refine me_iconst (pc' := 2) (v := 0) dL_restore_1 rfl kc_i0 ?_
  refine me_aload_n (pc' := 3) (i := 0) dL_restore_2 rfl rfl rfl ?_
  refine me_iload_n (pc' := 4) (i := 1) dL_restore_3 rfl rfl rfl ?_
  refine me_callVH (As := [.int p1]) (st := [.int 0, .ref 358]) (F' := (mm_Sq q)) (G' := (mm_Sq q)) (F'' := (mm_Sq q)) (pc' := 7) dL_restore_4 rfl mfX10_restore rfl lkL_167 kd_0 rfl (mm_ltq kd_0) ⟨Nat.le_of_ble_eq_true rfl, Nat.le_of_ble_eq_true rfl⟩ (Nat.le_of_ble_eq_true rfl) (by decide) (fun z => z) (rX10_restore (q := q) p1 h ) (fun x1 e2 => ?_)
  rcases x1 with ⟨v3 | E5, h4⟩
  · refine Or.inl ⟨_, _, rfl, fun z => z, ?_⟩
    show mm_E2 _ _ _ _ _ [.int v3, .int 0, .ref 358] h4 _ _
    try dsimp only
    refine me_i2l (pc' := 8) dL_restore_7 rfl ?_
    refine mm_guard (fun c6 => ?_)
    refine me_last (F' := (mm_Sq q)) (pc' := 9) dL_restore_8 rfl kd_358 (mm_ltw kd_358 hN) (mm_ibd_of c6) (fun z => z) ?_
    refine mm_bnd (ms_J h4 358 (Int32.toNatClampNeg (0)) ((v3).toInt64)) (fun _ => [some (.ref 0), some (.int p1), some (.ref 358), none]) (fun _ => []) (fun h7 => h7) (fun h7 => ?_)
    refine me_goto (tgt := 18) dL_restore_9 (by decide) ?_
    refine me_iconst (pc' := 19) (v := 0) dL_restore_18 rfl kc_i0 ?_
    exact me_iret dL_restore_19 rfl (fun z => z) rfl
  · refine Or.inr ⟨_, _, rfl, fun y9 hy9 => ?_⟩
    dsimp only at hy9
    by_cases c8 : E5 = "java/lang/IndexOutOfBoundsException"
    · rw [if_pos c8] at hy9
      rw [c8]
      refine ⟨12, 13, ⟨[], ⟨0, 9, 12, 29⟩, [⟨0, 9, 15, 13⟩], rfl, fun _ h9 => absurd h9 List.not_mem_nil, by decide, by decide, rfl, clL_29, ctL_29⟩, Or.inr ⟨3, dL_restore_12, Nat.le_of_ble_eq_true rfl, rfl⟩, fun z => z, ?_⟩
      rw [← hy9]
      refine me_iconst (pc' := 14) (v := 1) dL_restore_13 rfl kc_i1 ?_
      exact me_iret dL_restore_14 rfl (fun z => z) rfl
    · rw [if_neg c8] at hy9
      by_cases c9 : E5 = "java/lang/IllegalStateException"
      · rw [if_pos c9] at hy9
        rw [c9]
        refine ⟨15, 16, ⟨[⟨0, 9, 12, 29⟩], ⟨0, 9, 15, 13⟩, [], rfl, List.forall_mem_cons.mpr ⟨⟨by decide, _, clL_29, by decide +kernel⟩, fun _ h9 => absurd h9 List.not_mem_nil⟩, by decide, by decide, rfl, clL_13, ctL_13⟩, Or.inr ⟨3, dL_restore_15, Nat.le_of_ble_eq_true rfl, rfl⟩, fun z => z, ?_⟩
        rw [← hy9]
        refine me_iconst (pc' := 17) (v := 2) dL_restore_16 rfl kc_i2 ?_
        exact me_iret dL_restore_17 rfl (fun z => z) rfl
      · rw [if_neg c9] at hy9
        cases hy9
def gL_writeBatches (p1 : Int32) (h : mm_H) : Option (Int32 × mm_H) :=
(gX10_writeBatches p1 h).bind (fun (x1 : ((Int32 ⊕ String) × mm_H)) => match x1 with
| (.inl v3, h4) =>
if mm_ibd 0 1 = true then
(some (ms_J h4 358 (Int32.toNatClampNeg (0)) ((v3).toInt64))).bind (fun (h7 : mm_H) =>
some (0, h7)) else none
| (.inr E5, h4) =>
if E5 = "java/lang/IndexOutOfBoundsException" then
some (1, h4)
else
none)
theorem rL_writeBatches {q : Nat × Nat} (p1 : Int32) (h : mm_H) (hN : 360 ≤ q.1) : mm_R2 (mm_Sq q) (mm_Sq q) mL_writeBatches [.ref 0, .int p1, .ref 358] h (gL_writeBatches p1 h) lf_ie := by
  refine mm_bodyH (L := [some (.ref 0), some (.int p1), some (.ref 358), none]) (by decide) (by decide +kernel) (Nat.le_of_ble_eq_true rfl) rfl ?_
  unfold gL_writeBatches
  refine me_aload_n (pc' := 1) (i := 2) dL_writeBatches_0 rfl rfl rfl ?_
  refine me_iconst (pc' := 2) (v := 0) dL_writeBatches_1 rfl kc_i0 ?_
  refine me_aload_n (pc' := 3) (i := 0) dL_writeBatches_2 rfl rfl rfl ?_
  refine me_iload_n (pc' := 4) (i := 1) dL_writeBatches_3 rfl rfl rfl ?_
  refine me_callVH (As := [.int p1]) (st := [.int 0, .ref 358]) (F' := (mm_Sq q)) (G' := (mm_Sq q)) (F'' := (mm_Sq q)) (pc' := 7) dL_writeBatches_4 rfl mfX10_writeBatches rfl lkL_170 kd_0 rfl (mm_ltq kd_0) ⟨Nat.le_of_ble_eq_true rfl, Nat.le_of_ble_eq_true rfl⟩ (Nat.le_of_ble_eq_true rfl) (by decide) (fun z => z) (rX10_writeBatches (q := q) p1 h ) (fun x1 e2 => ?_)
  rcases x1 with ⟨v3 | E5, h4⟩
  · refine Or.inl ⟨_, _, rfl, fun z => z, ?_⟩
    show mm_E2 _ _ _ _ _ [.int v3, .int 0, .ref 358] h4 _ _
    try dsimp only
    refine me_i2l (pc' := 8) dL_writeBatches_7 rfl ?_
    refine mm_guard (fun c6 => ?_)
    refine me_last (F' := (mm_Sq q)) (pc' := 9) dL_writeBatches_8 rfl kd_358 (mm_ltw kd_358 hN) (mm_ibd_of c6) (fun z => z) ?_
    refine mm_bnd (ms_J h4 358 (Int32.toNatClampNeg (0)) ((v3).toInt64)) (fun _ => [some (.ref 0), some (.int p1), some (.ref 358), none]) (fun _ => []) (fun h7 => h7) (fun h7 => ?_)
    refine me_goto (tgt := 15) dL_writeBatches_9 (by decide) ?_
    refine me_iconst (pc' := 16) (v := 0) dL_writeBatches_15 rfl kc_i0 ?_
    exact me_iret dL_writeBatches_16 rfl (fun z => z) rfl
  · refine Or.inr ⟨_, _, rfl, fun y9 hy9 => ?_⟩
    dsimp only at hy9
    by_cases c8 : E5 = "java/lang/IndexOutOfBoundsException"
    · rw [if_pos c8] at hy9
      rw [c8]
      refine ⟨12, 13, ⟨[], ⟨0, 9, 12, 29⟩, [], rfl, fun _ h9 => absurd h9 List.not_mem_nil, by decide, by decide, rfl, clL_29, ctL_29⟩, Or.inr ⟨3, dL_writeBatches_12, Nat.le_of_ble_eq_true rfl, rfl⟩, fun z => z, ?_⟩
      rw [← hy9]
      refine me_iconst (pc' := 14) (v := 1) dL_writeBatches_13 rfl kc_i1 ?_
      exact me_iret dL_writeBatches_14 rfl (fun z => z) rfl
    · rw [if_neg c8] at hy9
      cases hy9
def gL_outputByte (p1 : Int32) (h : mm_H) : Option (Int32 × mm_H) :=
(gX10_outputByte p1 h).bind (fun (x1 : ((Int32 ⊕ String) × mm_H)) => match x1 with
| (.inl v3, h4) =>
if mm_ibd 0 1 = true then
(some (ms_J h4 358 (Int32.toNatClampNeg (0)) ((v3).toInt64))).bind (fun (h7 : mm_H) =>
some (0, h7)) else none
| (.inr E5, h4) =>
if E5 = "java/lang/IndexOutOfBoundsException" then
some (1, h4)
else
none)
theorem rL_outputByte {q : Nat × Nat} (p1 : Int32) (h : mm_H) (hN : 360 ≤ q.1) : mm_R2 (mm_Sq q) (mm_Sq q) mL_outputByte [.ref 0, .int p1, .ref 358] h (gL_outputByte p1 h) lf_ie := by
  refine mm_bodyH (L := [some (.ref 0), some (.int p1), some (.ref 358), none]) (by decide) (by decide +kernel) (Nat.le_of_ble_eq_true rfl) rfl ?_
  unfold gL_outputByte
  refine me_aload_n (pc' := 1) (i := 2) dL_outputByte_0 rfl rfl rfl ?_
  refine me_iconst (pc' := 2) (v := 0) dL_outputByte_1 rfl kc_i0 ?_
  refine me_aload_n (pc' := 3) (i := 0) dL_outputByte_2 rfl rfl rfl ?_
  refine me_iload_n (pc' := 4) (i := 1) dL_outputByte_3 rfl rfl rfl ?_
  refine me_callVH (As := [.int p1]) (st := [.int 0, .ref 358]) (F' := (mm_Sq q)) (G' := (mm_Sq q)) (F'' := (mm_Sq q)) (pc' := 7) dL_outputByte_4 rfl mfX10_outputByte rfl lkL_173 kd_0 rfl (mm_ltq kd_0) ⟨Nat.le_of_ble_eq_true rfl, Nat.le_of_ble_eq_true rfl⟩ (Nat.le_of_ble_eq_true rfl) (by decide) (fun z => z) (rX10_outputByte (q := q) p1 h ) (fun x1 e2 => ?_)
  rcases x1 with ⟨v3 | E5, h4⟩
  · refine Or.inl ⟨_, _, rfl, fun z => z, ?_⟩
    show mm_E2 _ _ _ _ _ [.int v3, .int 0, .ref 358] h4 _ _
    try dsimp only
    refine me_i2l (pc' := 8) dL_outputByte_7 rfl ?_
    refine mm_guard (fun c6 => ?_)
    refine me_last (F' := (mm_Sq q)) (pc' := 9) dL_outputByte_8 rfl kd_358 (mm_ltw kd_358 hN) (mm_ibd_of c6) (fun z => z) ?_
    refine mm_bnd (ms_J h4 358 (Int32.toNatClampNeg (0)) ((v3).toInt64)) (fun _ => [some (.ref 0), some (.int p1), some (.ref 358), none]) (fun _ => []) (fun h7 => h7) (fun h7 => ?_)
    refine me_goto (tgt := 15) dL_outputByte_9 (by decide) ?_
    refine me_iconst (pc' := 16) (v := 0) dL_outputByte_15 rfl kc_i0 ?_
    exact me_iret dL_outputByte_16 rfl (fun z => z) rfl
  · refine Or.inr ⟨_, _, rfl, fun y9 hy9 => ?_⟩
    dsimp only at hy9
    by_cases c8 : E5 = "java/lang/IndexOutOfBoundsException"
    · rw [if_pos c8] at hy9
      rw [c8]
      refine ⟨12, 13, ⟨[], ⟨0, 9, 12, 29⟩, [], rfl, fun _ h9 => absurd h9 List.not_mem_nil, by decide, by decide, rfl, clL_29, ctL_29⟩, Or.inr ⟨3, dL_outputByte_12, Nat.le_of_ble_eq_true rfl, rfl⟩, fun z => z, ?_⟩
      rw [← hy9]
      refine me_iconst (pc' := 14) (v := 1) dL_outputByte_13 rfl kc_i1 ?_
      exact me_iret dL_outputByte_14 rfl (fun z => z) rfl
    · rw [if_neg c8] at hy9
      cases hy9
end MMV

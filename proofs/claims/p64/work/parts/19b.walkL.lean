section MMWL
/-! printed walks of the law's own methods (gen19.py, dec.py) -/
theorem kc_nz4 : ¬ (4 : Int32) = 0 := by decide
theorem kc_nz8 : ¬ (8 : Int32) = 0 := by decide
theorem kc_nz12 : ¬ (12 : Int32) = 0 := by decide
theorem kc_nz13 : ¬ (13 : Int32) = 0 := by decide
theorem kc_nz15 : ¬ (15 : Int32) = 0 := by decide
theorem kc_nz16 : ¬ (16 : Int32) = 0 := by decide
theorem kc_nz20 : ¬ (20 : Int32) = 0 := by decide
theorem kc_nz25 : ¬ (25 : Int32) = 0 := by decide
theorem kc_nz30 : ¬ (30 : Int32) = 0 := by decide
theorem kc_nz64 : ¬ (64 : Int32) = 0 := by decide
theorem kc_nz128 : ¬ (128 : Int32) = 0 := by decide
theorem kc_nz256 : ¬ (256 : Int32) = 0 := by decide
theorem kc_nz1024 : ¬ (1024 : Int32) = 0 := by decide
theorem kc_nz2048 : ¬ (2048 : Int32) = 0 := by decide
theorem kc_nz8192 : ¬ (8192 : Int32) = 0 := by decide
theorem kc_nz32768 : ¬ (32768 : Int32) = 0 := by decide
theorem kc_nz65536 : ¬ (65536 : Int32) = 0 := by decide
def gX11_read_L48 (o : Nat) (u20 : Int32) (k : mm_H → Option ((Unit ⊕ String) × mm_H)) : Nat → Int32 → mm_H → Option ((Unit ⊕ String) × mm_H)
  | 0, _, _ => none
  | n + 1, w21, h22 =>
    if w21 < (mh_I h22 o 4) then
    if mm_ibd w21 10 = true then
    (gX10_allocation w21 u20 h22).bind (fun (x26 : ((Int32 ⊕ String) × mm_H)) => match x26 with
    | (.inl v28, h29) =>
    if mm_ibd u20 20 = true then
    (some (ms_I h29 (o + 3 + (Int32.toNatClampNeg (w21))) (Int32.toNatClampNeg (u20)) v28)).bind (fun (h32 : mm_H) =>
    (some (w21 + 1)).bind (fun (x33 : Int32) =>
    gX11_read_L48 o u20 k n x33 h32)) else none
    | (.inr E30, h29) => some (.inr E30, h29)) else none
    else
    k h22
def gX11_read_L24 (o : Nat) : Nat → Int32 → mm_H → Option ((Unit ⊕ String) × mm_H)
  | 0, _, _ => none
  | n + 1, w7, h8 =>
    if w7 < (mh_I h8 o 3) then
    (gX10_quantity w7 h8).bind (fun (x10 : ((Int32 ⊕ String) × mm_H)) => match x10 with
    | (.inl v12, h13) =>
    if mm_ibd w7 20 = true then
    (some (ms_I h13 (o + 1) (Int32.toNatClampNeg (w7)) v12)).bind (fun (h16 : mm_H) =>
    mm_jn (fun (h17 : mm_H) =>
    (some (w7 + 1)).bind (fun (x19 : Int32) =>
    gX11_read_L24 o n x19 h17)) (fun (j18 : mm_H → Option ((Unit ⊕ String) × mm_H)) =>
    gX11_read_L48 o w7 j18 mm_F 0 h16)) else none
    | (.inr E14, h13) => some (.inr E14, h13))
    else
    some (.inl (), h8)
def gX11_read (o : Nat) (h : mm_H) : Option ((Unit ⊕ String) × mm_H) :=
(gX10_batchCount h).bind (fun (x1 : Int32) =>
(some (ms_I h o 3 x1)).bind (fun (h3 : mm_H) =>
(gX10_reservationCount h3).bind (fun (x4 : Int32) =>
(some (ms_I h3 o 4 x4)).bind (fun (h6 : mm_H) =>
gX11_read_L24 o mm_F 0 h6))))
theorem rX11_read_L48 {q : mm_q} (o : Nat) (u20 : Int32) (k : mm_H → Option ((Unit ⊕ String) × mm_H))  (ho : mm_St q o) (kp : ∀ (h23 : mm_H), mm_E2 (mm_Sq q) (mm_Sq q) mX11_read 79 [some (.ref o), some (.int u20), none] [] h23 (k h23) lf_vt) : ∀ (n : Nat) (w21 : Int32) (h22 : mm_H), mm_E2 (mm_Sq q) (mm_Sq q) mX11_read 48 [some (.ref o), some (.int u20), some (.int w21)] [] h22 (gX11_read_L48 o u20 k  n w21 h22) lf_vt := by
  intro n
  induction n with
  | zero =>
    intro w21 h22
    exact mm_none
  | succ n ih =>
    intro w21 h22
    rw [gX11_read_L48]
    refine me_iload_n (pc' := 49) (i := 2) dX11_read_48 rfl rfl rfl ?_
    refine me_aload_n (pc' := 50) (i := 0) dX11_read_49 rfl rfl rfl ?_
    refine me_getI (pc' := 53) dX11_read_50 rfl fkX11_35 (mm_St_ls ho) (mm_St_lsn ho) rfl ?_
    refine me_icmp_ge (pc' := 56) (tgt := 79) dX11_read_53 (by decide) rfl (fun c24 => ?_) (fun c24 => ?_)
    · exact mm_maskB [true, true, false] (kp h22)
    · refine me_aload_n (pc' := 57) (i := 0) dX11_read_56 rfl rfl rfl ?_
      refine me_getR (pc' := 60) (q' := (o + 2)) dX11_read_57 rfl fkX11_15 (mm_St_ls ho) (mm_St_lsn ho) rfl (mm_St_2 ho) ?_
      refine me_iload_n (pc' := 61) (i := 2) dX11_read_60 rfl rfl rfl ?_
      refine mm_guard (fun c25 => ?_)
      refine me_aaldA (pc' := 62) (q' := (o + 3 + (Int32.toNatClampNeg (w21)))) dX11_read_61 rfl (mm_St_lp ho) (mm_St_lpn ho) (mm_ibd_of c25) (mm_St_r (mm_ibd_of c25) ho) ?_
      refine me_iload_n (pc' := 63) (i := 1) dX11_read_62 rfl rfl rfl ?_
      refine me_aload_n (pc' := 64) (i := 0) dX11_read_63 rfl rfl rfl ?_
      refine me_getR (pc' := 67) (q' := 0) dX11_read_64 rfl fkX11_18 (mm_St_ls ho) (mm_St_lsn ho) rfl (mm_St_x ho) ?_
      refine me_iload_n (pc' := 68) (i := 2) dX11_read_67 rfl rfl rfl ?_
      refine me_iload_n (pc' := 69) (i := 1) dX11_read_68 rfl rfl rfl ?_
      refine me_callV (As := [.int w21, .int u20]) (st := [.int u20, .ref (o + 3 + (Int32.toNatClampNeg (w21)))]) (F' := (mm_Sq q)) (G' := (mm_Sq q)) (F'' := (mm_Sq q)) (pc' := 72) dX11_read_69 rfl mfX10_allocation rfl lkX11_41 (mm_ks kd_0) rfl (mm_ltq kd_0) ⟨Nat.le_of_ble_eq_true rfl, Nat.le_of_ble_eq_true rfl⟩ (Nat.le_of_ble_eq_true rfl) (fun z => z) (rX10_allocation (q := q) w21 u20 h22 ) (fun x26 e27 => ?_)
      rcases x26 with ⟨v28 | E30, h29⟩
      · refine Or.inl ⟨_, _, rfl, fun z => z, ?_⟩
        show mm_E2 _ _ _ _ _ [.int v28, .int u20, .ref (o + 3 + (Int32.toNatClampNeg (w21)))] h29 _ _
        try dsimp only
        refine mm_guard (fun c31 => ?_)
        refine me_iast (F' := (mm_Sq q)) (pc' := 73) dX11_read_72 rfl (mm_St_lr (mm_ibd_of c25) ho) (mm_St_lrn (mm_ibd_of c25) ho) (mm_ibd_of c31) (fun z => z) ?_
        refine mm_bnd (ms_I h29 (o + 3 + (Int32.toNatClampNeg (w21))) (Int32.toNatClampNeg (u20)) v28) (fun _ => [some (.ref o), some (.int u20), some (.int w21)]) (fun _ => []) (fun h32 => h32) (fun h32 => ?_)
        refine me_iinc (pc' := 76) (i := 2) (x := w21) (y := w21 + 1) (L' := [some (.ref o), some (.int u20), some (.int (w21 + 1))]) dX11_read_73 rfl (Nat.le_of_ble_eq_true rfl) (Nat.le_of_ble_eq_true rfl) rfl (kc_plus kc_i1) rfl ?_
        refine mm_bnd (w21 + 1) (fun x33 => [some (.ref o), some (.int u20), some (.int x33)]) (fun _ => []) (fun _ => h32) (fun x33 => ?_)
        refine me_goto (tgt := 48) dX11_read_76 (by decide) ?_
        exact ih x33 h32
      · exact Or.inr ⟨_, _, rfl, rfl, fun z => z, fun y9 hy9 => by rw [← Option.some.inj hy9]; rfl⟩
theorem rX11_read_L24 {q : mm_q} (o : Nat)    (ho : mm_St q o) : ∀ (n : Nat) (w7 : Int32) (h8 : mm_H), mm_E2 (mm_Sq q) (mm_Sq q) mX11_read 24 [some (.ref o), some (.int w7), none] [] h8 (gX11_read_L24 o  n w7 h8) lf_vt := by
  intro n
  induction n with
  | zero =>
    intro w7 h8
    exact mm_none
  | succ n ih =>
    intro w7 h8
    rw [gX11_read_L24]
    refine me_iload_n (pc' := 25) (i := 1) dX11_read_24 rfl rfl rfl ?_
    refine me_aload_n (pc' := 26) (i := 0) dX11_read_25 rfl rfl rfl ?_
    refine me_getI (pc' := 29) dX11_read_26 rfl fkX11_28 (mm_St_ls ho) (mm_St_lsn ho) rfl ?_
    refine me_icmp_ge (pc' := 32) (tgt := 85) dX11_read_29 (by decide) rfl (fun c9 => ?_) (fun c9 => ?_)
    · exact me_vret dX11_read_85 rfl (fun z => z) rfl
    · refine me_aload_n (pc' := 33) (i := 0) dX11_read_32 rfl rfl rfl ?_
      refine me_getR (pc' := 36) (q' := (o + 1)) dX11_read_33 rfl fkX11_7 (mm_St_ls ho) (mm_St_lsn ho) rfl (mm_St_1 ho) ?_
      refine me_iload_n (pc' := 37) (i := 1) dX11_read_36 rfl rfl rfl ?_
      refine me_aload_n (pc' := 38) (i := 0) dX11_read_37 rfl rfl rfl ?_
      refine me_getR (pc' := 41) (q' := 0) dX11_read_38 rfl fkX11_18 (mm_St_ls ho) (mm_St_lsn ho) rfl (mm_St_x ho) ?_
      refine me_iload_n (pc' := 42) (i := 1) dX11_read_41 rfl rfl rfl ?_
      refine me_callV (As := [.int w7]) (st := [.int w7, .ref (o + 1)]) (F' := (mm_Sq q)) (G' := (mm_Sq q)) (F'' := (mm_Sq q)) (pc' := 45) dX11_read_42 rfl mfX10_quantity rfl lkX11_38 (mm_ks kd_0) rfl (mm_ltq kd_0) ⟨Nat.le_of_ble_eq_true rfl, Nat.le_of_ble_eq_true rfl⟩ (Nat.le_of_ble_eq_true rfl) (fun z => z) (rX10_quantity (q := q) w7 h8 ) (fun x10 e11 => ?_)
      rcases x10 with ⟨v12 | E14, h13⟩
      · refine Or.inl ⟨_, _, rfl, fun z => z, ?_⟩
        show mm_E2 _ _ _ _ _ [.int v12, .int w7, .ref (o + 1)] h13 _ _
        try dsimp only
        refine mm_guard (fun c15 => ?_)
        refine me_iast (F' := (mm_Sq q)) (pc' := 46) dX11_read_45 rfl (mm_St_lq ho) (mm_St_lqn ho) (mm_ibd_of c15) (fun z => z) ?_
        refine mm_bnd (ms_I h13 (o + 1) (Int32.toNatClampNeg (w7)) v12) (fun _ => [some (.ref o), some (.int w7), none]) (fun _ => []) (fun h16 => h16) (fun h16 => ?_)
        refine me_iconst (pc' := 47) (v := 0) dX11_read_46 rfl kc_i0 ?_
        refine me_istore_n (pc' := 48) (i := 2) (L' := [some (.ref o), some (.int w7), some (.int 0)]) dX11_read_47 rfl rfl (Nat.le_of_ble_eq_true rfl) (Nat.le_of_ble_eq_true rfl) rfl ?_
        refine mm_jnI (fun (j189 : mm_H → Option ((Unit ⊕ String) × mm_H)) => ∀ (h17 : mm_H), mm_E2 (mm_Sq q) (mm_Sq q) mX11_read 79 [some (.ref o), some (.int w7), none] [] h17 (j189 h17) lf_vt) ?_ (fun j18 j18p => ?_)
        · intro h17
          refine me_iinc (pc' := 82) (i := 1) (x := w7) (y := w7 + 1) (L' := [some (.ref o), some (.int (w7 + 1)), none]) dX11_read_79 rfl (Nat.le_of_ble_eq_true rfl) (Nat.le_of_ble_eq_true rfl) rfl (kc_plus kc_i1) rfl ?_
          refine mm_bnd (w7 + 1) (fun x19 => [some (.ref o), some (.int x19), none]) (fun _ => []) (fun _ => h17) (fun x19 => ?_)
          refine me_goto (tgt := 24) dX11_read_82 (by decide) ?_
          exact ih x19 h17
        exact rX11_read_L48 (q := q) o w7 j18 ho j18p mm_F 0 h16
      · exact Or.inr ⟨_, _, rfl, rfl, fun z => z, fun y9 hy9 => by rw [← Option.some.inj hy9]; rfl⟩
theorem rX11_read {q : mm_q} (o : Nat) (h : mm_H) (ho : mm_St q o) : mm_R2 (mm_Sq q) (mm_Sq q) mX11_read [.ref o] h (gX11_read o h) lf_vt := by
  refine mm_body (L := [some (.ref o), none, none]) rfl (by decide +kernel) (Nat.le_of_ble_eq_true rfl) rfl ?_
  unfold gX11_read
  refine me_aload_n (pc' := 1) (i := 0) dX11_read_0 rfl rfl rfl ?_
  refine me_aload_n (pc' := 2) (i := 0) dX11_read_1 rfl rfl rfl ?_
  refine me_getR (pc' := 5) (q' := 0) dX11_read_2 rfl fkX11_18 (mm_St_ls ho) (mm_St_lsn ho) rfl (mm_St_x ho) ?_
  refine me_callV (As := []) (st := [.ref o]) (F' := (mm_Sq q)) (G' := (mm_Sq q)) (F'' := (mm_Sq q)) (pc' := 8) dX11_read_5 rfl mfX10_batchCount rfl lkX11_22 (mm_ks kd_0) rfl (mm_ltq kd_0) ⟨Nat.le_of_ble_eq_true rfl, Nat.le_of_ble_eq_true rfl⟩ (Nat.le_of_ble_eq_true rfl) (fun z => z) (rX10_batchCount (q := q) h ) (fun x1 e2 => Or.inl ⟨_, _, rfl, fun z => z, ?_⟩)
  show mm_E2 _ _ _ _ _ [.int x1, .ref o] h _ _
  refine me_putI (F' := (mm_Sq q)) (pc' := 11) dX11_read_8 rfl fkX11_28 (mm_St_ls ho) (mm_St_lsn ho) rfl pgX11_3 (fun z => z) ?_
  refine mm_bnd (ms_I h o 3 x1) (fun _ => [some (.ref o), none, none]) (fun _ => []) (fun h3 => h3) (fun h3 => ?_)
  refine me_aload_n (pc' := 12) (i := 0) dX11_read_11 rfl rfl rfl ?_
  refine me_aload_n (pc' := 13) (i := 0) dX11_read_12 rfl rfl rfl ?_
  refine me_getR (pc' := 16) (q' := 0) dX11_read_13 rfl fkX11_18 (mm_St_ls ho) (mm_St_lsn ho) rfl (mm_St_x ho) ?_
  refine me_callV (As := []) (st := [.ref o]) (F' := (mm_Sq q)) (G' := (mm_Sq q)) (F'' := (mm_Sq q)) (pc' := 19) dX11_read_16 rfl mfX10_reservationCount rfl lkX11_32 (mm_ks kd_0) rfl (mm_ltq kd_0) ⟨Nat.le_of_ble_eq_true rfl, Nat.le_of_ble_eq_true rfl⟩ (Nat.le_of_ble_eq_true rfl) (fun z => z) (rX10_reservationCount (q := q) h3 ) (fun x4 e5 => Or.inl ⟨_, _, rfl, fun z => z, ?_⟩)
  show mm_E2 _ _ _ _ _ [.int x4, .ref o] h3 _ _
  refine me_putI (F' := (mm_Sq q)) (pc' := 22) dX11_read_19 rfl fkX11_35 (mm_St_ls ho) (mm_St_lsn ho) rfl pgX11_4 (fun z => z) ?_
  refine mm_bnd (ms_I h3 o 4 x4) (fun _ => [some (.ref o), none, none]) (fun _ => []) (fun h6 => h6) (fun h6 => ?_)
  refine me_iconst (pc' := 23) (v := 0) dX11_read_22 rfl kc_i0 ?_
  refine me_istore_n (pc' := 24) (i := 1) (L' := [some (.ref o), some (.int 0), none]) dX11_read_23 rfl rfl (Nat.le_of_ble_eq_true rfl) (Nat.le_of_ble_eq_true rfl) rfl ?_
  exact rX11_read_L24 (q := q) o ho mm_F 0 h6
def gX11_held_L4 (o : Nat) (u1 : Int32) : Nat → Int32 → Int32 → mm_H → Option ((Int32 ⊕ String) × mm_H)
  | 0, _, _, _ => none
  | n + 1, w2, w3, h4 =>
    if w3 < (mh_I h4 o 4) then
    (gX10_isOpen w3 h4).bind (fun (x6 : ((Bool ⊕ String) × mm_H)) => match x6 with
    | (.inl v8, h9) =>
    mm_jn (fun (y11 : Int32) (y12 : Int32) =>
    (some ((y12 + y11))).bind (fun (x14 : Int32) =>
    (some (w3 + 1)).bind (fun (x15 : Int32) =>
    gX11_held_L4 o u1 n x14 x15 h9))) (fun (j13 : Int32 → Int32 → Option ((Int32 ⊕ String) × mm_H)) =>
    if v8 = true then
    if mm_ibd w3 10 = true then
    if mm_ibd u1 20 = true then
    j13 ((mh_I h9 (o + 3 + (Int32.toNatClampNeg (w3))) (Int32.toNatClampNeg (u1)))) w2 else none else none
    else
    j13 0 w2)
    | (.inr E10, h9) => some (.inr E10, h9))
    else
    some (.inl w2, h4)
def gX11_held (o : Nat) (p0 : Int32) (h : mm_H) : Option ((Int32 ⊕ String) × mm_H) :=
gX11_held_L4 o p0 mm_F 0 0 h
theorem rX11_held_L4 {q : mm_q} (o : Nat) (u1 : Int32)   (ho : mm_St q o) : ∀ (n : Nat) (w2 : Int32) (w3 : Int32) (h4 : mm_H), mm_E2 (mm_Sq q) (mm_Sq q) mX11_held 4 [some (.ref o), some (.int u1), some (.int w2), some (.int w3)] [] h4 (gX11_held_L4 o u1  n w2 w3 h4) lf_it := by
  intro n
  induction n with
  | zero =>
    intro w2 w3 h4
    exact mm_none
  | succ n ih =>
    intro w2 w3 h4
    rw [gX11_held_L4]
    refine me_iload_n (pc' := 5) (i := 3) dX11_held_4 rfl rfl rfl ?_
    refine me_aload_n (pc' := 6) (i := 0) dX11_held_5 rfl rfl rfl ?_
    refine me_getI (pc' := 9) dX11_held_6 rfl fkX11_35 (mm_St_ls ho) (mm_St_lsn ho) rfl ?_
    refine me_icmp_ge (pc' := 12) (tgt := 44) dX11_held_9 (by decide) rfl (fun c5 => ?_) (fun c5 => ?_)
    · refine me_iload_n (pc' := 45) (i := 2) dX11_held_44 rfl rfl rfl ?_
      exact me_iret dX11_held_45 rfl (fun z => z) rfl
    · refine me_iload_n (pc' := 13) (i := 2) dX11_held_12 rfl rfl rfl ?_
      refine me_aload_n (pc' := 14) (i := 0) dX11_held_13 rfl rfl rfl ?_
      refine me_getR (pc' := 17) (q' := 0) dX11_held_14 rfl fkX11_18 (mm_St_ls ho) (mm_St_lsn ho) rfl (mm_St_x ho) ?_
      refine me_iload_n (pc' := 18) (i := 3) dX11_held_17 rfl rfl rfl ?_
      refine me_callV (As := [.int w3]) (st := [.int w2]) (F' := (mm_Sq q)) (G' := (mm_Sq q)) (F'' := (mm_Sq q)) (pc' := 21) dX11_held_18 rfl mfX10_isOpen rfl lkX11_45 (mm_ks kd_0) rfl (mm_ltq kd_0) ⟨Nat.le_of_ble_eq_true rfl, Nat.le_of_ble_eq_true rfl⟩ (Nat.le_of_ble_eq_true rfl) (fun z => z) (rX10_isOpen (q := q) w3 h4 ) (fun x6 e7 => ?_)
      rcases x6 with ⟨v8 | E10, h9⟩
      · refine Or.inl ⟨_, _, rfl, fun z => z, ?_⟩
        show mm_E2 _ _ _ _ _ [.int (mx_bi v8), .int w2] h9 _ _
        try dsimp only
        refine mm_jnI (fun (j139 : Int32 → Int32 → Option ((Int32 ⊕ String) × mm_H)) => ∀ (y11 : Int32) (y12 : Int32), mm_E2 (mm_Sq q) (mm_Sq q) mX11_held 36 [some (.ref o), some (.int u1), none, some (.int w3)] [.int y11, .int y12] h9 (j139 y11 y12) lf_it) ?_ (fun j13 j13p => ?_)
        · intro y11 y12
          refine me_iadd (pc' := 37) dX11_held_36 rfl ?_
          refine mm_bnd ((y12 + y11)) (fun x14 => [some (.ref o), some (.int u1), none, some (.int w3)]) (fun x14 => [.int x14]) (fun _ => h9) (fun x14 => ?_)
          refine me_istore_n (pc' := 38) (i := 2) (L' := [some (.ref o), some (.int u1), some (.int x14), some (.int w3)]) dX11_held_37 rfl rfl (Nat.le_of_ble_eq_true rfl) (Nat.le_of_ble_eq_true rfl) rfl ?_
          refine me_iinc (pc' := 41) (i := 3) (x := w3) (y := w3 + 1) (L' := [some (.ref o), some (.int u1), some (.int x14), some (.int (w3 + 1))]) dX11_held_38 rfl (Nat.le_of_ble_eq_true rfl) (Nat.le_of_ble_eq_true rfl) rfl (kc_plus kc_i1) rfl ?_
          refine mm_bnd (w3 + 1) (fun x15 => [some (.ref o), some (.int u1), some (.int x14), some (.int x15)]) (fun _ => []) (fun _ => h9) (fun x15 => ?_)
          refine me_goto (tgt := 4) dX11_held_41 (by decide) ?_
          exact ih x14 x15 h9
        refine me_ifB_eq (pc' := 24) (tgt := 35) dX11_held_21 (by decide) rfl (fun c16 => ?_) (fun c16 => ?_)
        · refine me_iconst (pc' := 36) (v := 0) dX11_held_35 rfl kc_i0 ?_
          exact mm_maskB [true, true, false, true] (j13p 0 w2)
        · refine me_aload_n (pc' := 25) (i := 0) dX11_held_24 rfl rfl rfl ?_
          refine me_getR (pc' := 28) (q' := (o + 2)) dX11_held_25 rfl fkX11_15 (mm_St_ls ho) (mm_St_lsn ho) rfl (mm_St_2 ho) ?_
          refine me_iload_n (pc' := 29) (i := 3) dX11_held_28 rfl rfl rfl ?_
          refine mm_guard (fun c17 => ?_)
          refine me_aaldA (pc' := 30) (q' := (o + 3 + (Int32.toNatClampNeg (w3)))) dX11_held_29 rfl (mm_St_lp ho) (mm_St_lpn ho) (mm_ibd_of c17) (mm_St_r (mm_ibd_of c17) ho) ?_
          refine me_iload_n (pc' := 31) (i := 1) dX11_held_30 rfl rfl rfl ?_
          refine mm_guard (fun c18 => ?_)
          refine me_iald (pc' := 32) dX11_held_31 rfl (mm_St_lr (mm_ibd_of c17) ho) (mm_St_lrn (mm_ibd_of c17) ho) (mm_ibd_of c18) ?_
          refine me_goto (tgt := 36) dX11_held_32 (by decide) ?_
          exact mm_maskB [true, true, false, true] (j13p ((mh_I h9 (o + 3 + (Int32.toNatClampNeg (w3))) (Int32.toNatClampNeg (u1)))) w2)
      · exact Or.inr ⟨_, _, rfl, rfl, fun z => z, fun y9 hy9 => by rw [← Option.some.inj hy9]; rfl⟩
theorem rX11_held {q : mm_q} (o : Nat) (p0 : Int32) (h : mm_H) (ho : mm_St q o) : mm_R2 (mm_Sq q) (mm_Sq q) mX11_held [.ref o, .int p0] h (gX11_held o p0 h) lf_it := by
  refine mm_body (L := [some (.ref o), some (.int p0), none, none]) rfl (by decide +kernel) (Nat.le_of_ble_eq_true rfl) rfl ?_
  unfold gX11_held
  refine me_iconst (pc' := 1) (v := 0) dX11_held_0 rfl kc_i0 ?_
  refine me_istore_n (pc' := 2) (i := 2) (L' := [some (.ref o), some (.int p0), some (.int 0), none]) dX11_held_1 rfl rfl (Nat.le_of_ble_eq_true rfl) (Nat.le_of_ble_eq_true rfl) rfl ?_
  refine me_iconst (pc' := 3) (v := 0) dX11_held_2 rfl kc_i0 ?_
  refine me_istore_n (pc' := 4) (i := 3) (L' := [some (.ref o), some (.int p0), some (.int 0), some (.int 0)]) dX11_held_3 rfl rfl (Nat.le_of_ble_eq_true rfl) (Nat.le_of_ble_eq_true rfl) rfl ?_
  exact rX11_held_L4 (q := q) o p0 ho mm_F 0 0 h
def gX11_next_L10 (o : Nat) (u2 : Int32) (u3 : Int32) : Nat → Int32 → Int32 → mm_H → Option ((Int32 ⊕ String) × mm_H)
  | 0, _, _, _ => none
  | n + 1, w4, w5, h6 =>
    if w5 < 0 then
    some (.inl w4, h6)
    else
    (gX10_productOf w5 h6).bind (fun (x8 : ((Int32 ⊕ String) × mm_H)) => match x8 with
    | (.inl v10, h11) =>
    mm_jn (fun (y13 : Int32) (h14 : mm_H) =>
    mm_jn (fun (y16 : Int32) (h17 : mm_H) =>
    (some (w5 + (-1))).bind (fun (x19 : Int32) =>
    gX11_next_L10 o u2 u3 n y16 x19 h17)) (fun (j18 : Int32 → mm_H → Option ((Int32 ⊕ String) × mm_H)) =>
    if y13 = 0 then
    j18 w4 h14
    else
    mm_jn (fun (h21 : mm_H) =>
    j18 w5 h21) (fun (j22 : mm_H → Option ((Int32 ⊕ String) × mm_H)) =>
    if w4 < 0 then
    j22 h14
    else
    (gX10_expiryDay w5 h14).bind (fun (x24 : ((Int32 ⊕ String) × mm_H)) => match x24 with
    | (.inl v26, h27) =>
    (gX10_expiryDay w4 h27).bind (fun (x29 : ((Int32 ⊕ String) × mm_H)) => match x29 with
    | (.inl v31, h32) =>
    if v31 < v26 then
    j18 w4 h32
    else
    j22 h32
    | (.inr E33, h32) => some (.inr E33, h32))
    | (.inr E28, h27) => some (.inr E28, h27))))) (fun (j15 : Int32 → mm_H → Option ((Int32 ⊕ String) × mm_H)) =>
    mm_jn (fun (h35 : mm_H) =>
    j15 0 h35) (fun (j36 : mm_H → Option ((Int32 ⊕ String) × mm_H)) =>
    if v10 = u2 then
    (gX10_expiryDay w5 h11).bind (fun (x38 : ((Int32 ⊕ String) × mm_H)) => match x38 with
    | (.inl v40, h41) =>
    if v40 < u3 then
    j36 h41
    else
    if mm_ibd w5 20 = true then
    (gX11_held o w5 h41).bind (fun (x45 : ((Int32 ⊕ String) × mm_H)) => match x45 with
    | (.inl v47, h48) =>
    if v47 < (mh_I h41 (o + 1) (Int32.toNatClampNeg (w5))) then
    j15 1 h48
    else
    j36 h48
    | (.inr E49, h48) => some (.inr E49, h48)) else none
    | (.inr E42, h41) => some (.inr E42, h41))
    else
    j36 h11))
    | (.inr E12, h11) => some (.inr E12, h11))
def gX11_next (o : Nat) (p0 : Int32) (p1 : Int32) (h : mm_H) : Option ((Int32 ⊕ String) × mm_H) :=
(some (((mh_I h o 3) - 1))).bind (fun (x1 : Int32) =>
gX11_next_L10 o p0 p1 mm_F (-1) x1 h)
theorem rX11_next_L10 {q : mm_q} (o : Nat) (u2 : Int32) (u3 : Int32)   (ho : mm_St q o) : ∀ (n : Nat) (w4 : Int32) (w5 : Int32) (h6 : mm_H), mm_E2 (mm_Sq q) (mm_Sq q) mX11_next 10 [some (.ref o), some (.int u2), some (.int u3), some (.int w4), some (.int w5), none] [] h6 (gX11_next_L10 o u2 u3  n w4 w5 h6) lf_it := by
  intro n
  induction n with
  | zero =>
    intro w4 w5 h6
    exact mm_none
  | succ n ih =>
    intro w4 w5 h6
    rw [gX11_next_L10]
    refine me_iload (pc' := 12) (i := 4) dX11_next_10 rfl rfl ?_
    refine me_if_lt (pc' := 15) (tgt := 102) dX11_next_12 (by decide) rfl (fun c7 => ?_) (fun c7 => ?_)
    · refine me_iload_n (pc' := 103) (i := 3) dX11_next_102 rfl rfl rfl ?_
      exact me_iret dX11_next_103 rfl (fun z => z) rfl
    · refine me_aload_n (pc' := 16) (i := 0) dX11_next_15 rfl rfl rfl ?_
      refine me_getR (pc' := 19) (q' := 0) dX11_next_16 rfl fkX11_18 (mm_St_ls ho) (mm_St_lsn ho) rfl (mm_St_x ho) ?_
      refine me_iload (pc' := 21) (i := 4) dX11_next_19 rfl rfl ?_
      refine me_callV (As := [.int w5]) (st := []) (F' := (mm_Sq q)) (G' := (mm_Sq q)) (F'' := (mm_Sq q)) (pc' := 24) dX11_next_21 rfl mfX10_productOf rfl lkX11_49 (mm_ks kd_0) rfl (mm_ltq kd_0) ⟨Nat.le_of_ble_eq_true rfl, Nat.le_of_ble_eq_true rfl⟩ (Nat.le_of_ble_eq_true rfl) (fun z => z) (rX10_productOf (q := q) w5 h6 ) (fun x8 e9 => ?_)
      rcases x8 with ⟨v10 | E12, h11⟩
      · refine Or.inl ⟨_, _, rfl, fun z => z, ?_⟩
        show mm_E2 _ _ _ _ _ [.int v10] h11 _ _
        try dsimp only
        refine me_iload_n (pc' := 25) (i := 1) dX11_next_24 rfl rfl rfl ?_
        refine mm_jnI (fun (j159 : Int32 → mm_H → Option ((Int32 ⊕ String) × mm_H)) => ∀ (y13 : Int32) (h14 : mm_H), mm_E2 (mm_Sq q) (mm_Sq q) mX11_next 62 [some (.ref o), some (.int u2), some (.int u3), some (.int w4), some (.int w5), none] [.int y13] h14 (j159 y13 h14) lf_it) ?_ (fun j15 j15p => ?_)
        · intro y13 h14
          refine me_istore (pc' := 64) (i := 5) (L' := [some (.ref o), some (.int u2), some (.int u3), some (.int w4), some (.int w5), some (.int y13)]) dX11_next_62 rfl (Nat.le_of_ble_eq_true rfl) (Nat.le_of_ble_eq_true rfl) rfl ?_
          refine me_iload (pc' := 66) (i := 5) dX11_next_64 rfl rfl ?_
          refine mm_jnI (fun (j189 : Int32 → mm_H → Option ((Int32 ⊕ String) × mm_H)) => ∀ (y16 : Int32) (h17 : mm_H), mm_E2 (mm_Sq q) (mm_Sq q) mX11_next 96 [some (.ref o), some (.int u2), some (.int u3), some (.int y16), some (.int w5), none] [] h17 (j189 y16 h17) lf_it) ?_ (fun j18 j18p => ?_)
          · intro y16 h17
            refine me_iinc (pc' := 99) (i := 4) (x := w5) (y := w5 + (-1)) (L' := [some (.ref o), some (.int u2), some (.int u3), some (.int y16), some (.int (w5 + (-1))), none]) dX11_next_96 rfl (Nat.le_of_ble_eq_true rfl) (Nat.le_of_ble_eq_true rfl) rfl (kc_plus kc_im1) rfl ?_
            refine mm_bnd (w5 + (-1)) (fun x19 => [some (.ref o), some (.int u2), some (.int u3), some (.int y16), some (.int x19), none]) (fun _ => []) (fun _ => h17) (fun x19 => ?_)
            refine me_goto (tgt := 10) dX11_next_99 (by decide) ?_
            exact ih y16 x19 h17
          refine me_if_eq (pc' := 69) (tgt := 96) dX11_next_66 (by decide) rfl (fun c20 => ?_) (fun c20 => ?_)
          · exact mm_maskB [true, true, true, true, true, false] (j18p w4 h14)
          · refine me_iload_n (pc' := 70) (i := 3) dX11_next_69 rfl rfl rfl ?_
            refine mm_jnI (fun (j229 : mm_H → Option ((Int32 ⊕ String) × mm_H)) => ∀ (h21 : mm_H), mm_E2 (mm_Sq q) (mm_Sq q) mX11_next 93 [some (.ref o), some (.int u2), some (.int u3), none, some (.int w5), none] [] h21 (j229 h21) lf_it) ?_ (fun j22 j22p => ?_)
            · intro h21
              refine me_iload (pc' := 95) (i := 4) dX11_next_93 rfl rfl ?_
              refine me_istore_n (pc' := 96) (i := 3) (L' := [some (.ref o), some (.int u2), some (.int u3), some (.int w5), some (.int w5), none]) dX11_next_95 rfl rfl (Nat.le_of_ble_eq_true rfl) (Nat.le_of_ble_eq_true rfl) rfl ?_
              exact j18p w5 h21
            refine me_if_lt (pc' := 73) (tgt := 93) dX11_next_70 (by decide) rfl (fun c23 => ?_) (fun c23 => ?_)
            · exact mm_maskB [true, true, true, false, true, false] (j22p h14)
            · refine me_aload_n (pc' := 74) (i := 0) dX11_next_73 rfl rfl rfl ?_
              refine me_getR (pc' := 77) (q' := 0) dX11_next_74 rfl fkX11_18 (mm_St_ls ho) (mm_St_lsn ho) rfl (mm_St_x ho) ?_
              refine me_iload (pc' := 79) (i := 4) dX11_next_77 rfl rfl ?_
              refine me_callV (As := [.int w5]) (st := []) (F' := (mm_Sq q)) (G' := (mm_Sq q)) (F'' := (mm_Sq q)) (pc' := 82) dX11_next_79 rfl mfX10_expiryDay rfl lkX11_52 (mm_ks kd_0) rfl (mm_ltq kd_0) ⟨Nat.le_of_ble_eq_true rfl, Nat.le_of_ble_eq_true rfl⟩ (Nat.le_of_ble_eq_true rfl) (fun z => z) (rX10_expiryDay (q := q) w5 h14 ) (fun x24 e25 => ?_)
              rcases x24 with ⟨v26 | E28, h27⟩
              · refine Or.inl ⟨_, _, rfl, fun z => z, ?_⟩
                show mm_E2 _ _ _ _ _ [.int v26] h27 _ _
                try dsimp only
                refine me_aload_n (pc' := 83) (i := 0) dX11_next_82 rfl rfl rfl ?_
                refine me_getR (pc' := 86) (q' := 0) dX11_next_83 rfl fkX11_18 (mm_St_ls ho) (mm_St_lsn ho) rfl (mm_St_x ho) ?_
                refine me_iload_n (pc' := 87) (i := 3) dX11_next_86 rfl rfl rfl ?_
                refine me_callV (As := [.int w4]) (st := [.int v26]) (F' := (mm_Sq q)) (G' := (mm_Sq q)) (F'' := (mm_Sq q)) (pc' := 90) dX11_next_87 rfl mfX10_expiryDay rfl lkX11_52 (mm_ks kd_0) rfl (mm_ltq kd_0) ⟨Nat.le_of_ble_eq_true rfl, Nat.le_of_ble_eq_true rfl⟩ (Nat.le_of_ble_eq_true rfl) (fun z => z) (rX10_expiryDay (q := q) w4 h27 ) (fun x29 e30 => ?_)
                rcases x29 with ⟨v31 | E33, h32⟩
                · refine Or.inl ⟨_, _, rfl, fun z => z, ?_⟩
                  show mm_E2 _ _ _ _ _ [.int v31, .int v26] h32 _ _
                  try dsimp only
                  refine me_icmp_gt (pc' := 93) (tgt := 96) dX11_next_90 (by decide) rfl (fun c34 => ?_) (fun c34 => ?_)
                  · exact mm_maskB [true, true, true, true, true, false] (j18p w4 h32)
                  · exact mm_maskB [true, true, true, false, true, false] (j22p h32)
                · exact Or.inr ⟨_, _, rfl, rfl, fun z => z, fun y9 hy9 => by rw [← Option.some.inj hy9]; rfl⟩
              · exact Or.inr ⟨_, _, rfl, rfl, fun z => z, fun y9 hy9 => by rw [← Option.some.inj hy9]; rfl⟩
        refine mm_jnI (fun (j369 : mm_H → Option ((Int32 ⊕ String) × mm_H)) => ∀ (h35 : mm_H), mm_E2 (mm_Sq q) (mm_Sq q) mX11_next 61 [some (.ref o), some (.int u2), some (.int u3), some (.int w4), some (.int w5), none] [] h35 (j369 h35) lf_it) ?_ (fun j36 j36p => ?_)
        · intro h35
          refine me_iconst (pc' := 62) (v := 0) dX11_next_61 rfl kc_i0 ?_
          exact j15p 0 h35
        refine me_icmp_ne (pc' := 28) (tgt := 61) dX11_next_25 (by decide) rfl (fun c37 => ?_) (fun c37 => ?_)
        · exact j36p h11
        · refine me_aload_n (pc' := 29) (i := 0) dX11_next_28 rfl rfl rfl ?_
          refine me_getR (pc' := 32) (q' := 0) dX11_next_29 rfl fkX11_18 (mm_St_ls ho) (mm_St_lsn ho) rfl (mm_St_x ho) ?_
          refine me_iload (pc' := 34) (i := 4) dX11_next_32 rfl rfl ?_
          refine me_callV (As := [.int w5]) (st := []) (F' := (mm_Sq q)) (G' := (mm_Sq q)) (F'' := (mm_Sq q)) (pc' := 37) dX11_next_34 rfl mfX10_expiryDay rfl lkX11_52 (mm_ks kd_0) rfl (mm_ltq kd_0) ⟨Nat.le_of_ble_eq_true rfl, Nat.le_of_ble_eq_true rfl⟩ (Nat.le_of_ble_eq_true rfl) (fun z => z) (rX10_expiryDay (q := q) w5 h11 ) (fun x38 e39 => ?_)
          rcases x38 with ⟨v40 | E42, h41⟩
          · refine Or.inl ⟨_, _, rfl, fun z => z, ?_⟩
            show mm_E2 _ _ _ _ _ [.int v40] h41 _ _
            try dsimp only
            refine me_iload_n (pc' := 38) (i := 2) dX11_next_37 rfl rfl rfl ?_
            refine me_icmp_lt (pc' := 41) (tgt := 61) dX11_next_38 (by decide) rfl (fun c43 => ?_) (fun c43 => ?_)
            · exact j36p h41
            · refine me_aload_n (pc' := 42) (i := 0) dX11_next_41 rfl rfl rfl ?_
              refine me_getR (pc' := 45) (q' := (o + 1)) dX11_next_42 rfl fkX11_7 (mm_St_ls ho) (mm_St_lsn ho) rfl (mm_St_1 ho) ?_
              refine me_iload (pc' := 47) (i := 4) dX11_next_45 rfl rfl ?_
              refine mm_guard (fun c44 => ?_)
              refine me_iald (pc' := 48) dX11_next_47 rfl (mm_St_lq ho) (mm_St_lqn ho) (mm_ibd_of c44) ?_
              refine me_aload_n (pc' := 49) (i := 0) dX11_next_48 rfl rfl rfl ?_
              refine me_iload (pc' := 51) (i := 4) dX11_next_49 rfl rfl ?_
              refine me_callV (As := [.int w5]) (st := [.int (mh_I h41 (o + 1) (Int32.toNatClampNeg (w5)))]) (F' := (mm_Sq q)) (G' := (mm_Sq q)) (F'' := (mm_Sq q)) (pc' := 54) dX11_next_51 rfl mfX11_held rfl lkX11_55 (mm_St_ls ho) rfl (mm_St_lsn ho) ⟨Nat.le_of_ble_eq_true rfl, Nat.le_of_ble_eq_true rfl⟩ (Nat.le_of_ble_eq_true rfl) (fun z => z) (rX11_held (q := q) o w5 h41 ho) (fun x45 e46 => ?_)
              rcases x45 with ⟨v47 | E49, h48⟩
              · refine Or.inl ⟨_, _, rfl, fun z => z, ?_⟩
                show mm_E2 _ _ _ _ _ [.int v47, .int (mh_I h41 (o + 1) (Int32.toNatClampNeg (w5)))] h48 _ _
                try dsimp only
                refine me_icmp_le (pc' := 57) (tgt := 61) dX11_next_54 (by decide) rfl (fun c50 => ?_) (fun c50 => ?_)
                · exact j36p h48
                · refine me_iconst (pc' := 58) (v := 1) dX11_next_57 rfl kc_i1 ?_
                  refine me_goto (tgt := 62) dX11_next_58 (by decide) ?_
                  exact j15p 1 h48
              · exact Or.inr ⟨_, _, rfl, rfl, fun z => z, fun y9 hy9 => by rw [← Option.some.inj hy9]; rfl⟩
          · exact Or.inr ⟨_, _, rfl, rfl, fun z => z, fun y9 hy9 => by rw [← Option.some.inj hy9]; rfl⟩
      · exact Or.inr ⟨_, _, rfl, rfl, fun z => z, fun y9 hy9 => by rw [← Option.some.inj hy9]; rfl⟩
theorem rX11_next {q : mm_q} (o : Nat) (p0 : Int32) (p1 : Int32) (h : mm_H) (ho : mm_St q o) : mm_R2 (mm_Sq q) (mm_Sq q) mX11_next [.ref o, .int p0, .int p1] h (gX11_next o p0 p1 h) lf_it := by
  refine mm_body (L := [some (.ref o), some (.int p0), some (.int p1), none, none, none]) rfl (by decide +kernel) (Nat.le_of_ble_eq_true rfl) rfl ?_
  unfold gX11_next
  refine me_iconst (pc' := 1) (v := (-1)) dX11_next_0 rfl kc_im1 ?_
  refine me_istore_n (pc' := 2) (i := 3) (L' := [some (.ref o), some (.int p0), some (.int p1), some (.int (-1)), none, none]) dX11_next_1 rfl rfl (Nat.le_of_ble_eq_true rfl) (Nat.le_of_ble_eq_true rfl) rfl ?_
  refine me_aload_n (pc' := 3) (i := 0) dX11_next_2 rfl rfl rfl ?_
  refine me_getI (pc' := 6) dX11_next_3 rfl fkX11_28 (mm_St_ls ho) (mm_St_lsn ho) rfl ?_
  refine me_iconst (pc' := 7) (v := 1) dX11_next_6 rfl kc_i1 ?_
  refine me_isub (pc' := 8) dX11_next_7 rfl ?_
  refine mm_bnd (((mh_I h o 3) - 1)) (fun x1 => [some (.ref o), some (.int p0), some (.int p1), some (.int (-1)), none, none]) (fun x1 => [.int x1]) (fun _ => h) (fun x1 => ?_)
  refine me_istore (pc' := 10) (i := 4) (L' := [some (.ref o), some (.int p0), some (.int p1), some (.int (-1)), some (.int x1), none]) dX11_next_8 rfl (Nat.le_of_ble_eq_true rfl) (Nat.le_of_ble_eq_true rfl) rfl ?_
  exact rX11_next_L10 (q := q) o p0 p1 ho mm_F (-1) x1 h
def gX11_free_L5 (o : Nat) (u1 : Int32) (u2 : Int32) : Nat → Int32 → Int32 → mm_H → Option ((Int32 ⊕ String) × mm_H)
  | 0, _, _, _ => none
  | n + 1, w3, w4, h5 =>
    if w4 < (mh_I h5 o 3) then
    (gX10_productOf w4 h5).bind (fun (x7 : ((Int32 ⊕ String) × mm_H)) => match x7 with
    | (.inl v9, h10) =>
    mm_jn (fun (y12 : Int32) (y13 : Int32) (h14 : mm_H) =>
    (some ((y13 + y12))).bind (fun (x16 : Int32) =>
    (some (w4 + 1)).bind (fun (x17 : Int32) =>
    gX11_free_L5 o u1 u2 n x16 x17 h14))) (fun (j15 : Int32 → Int32 → mm_H → Option ((Int32 ⊕ String) × mm_H)) =>
    mm_jn (fun (y18 : Int32) (h19 : mm_H) =>
    j15 0 y18 h19) (fun (j20 : Int32 → mm_H → Option ((Int32 ⊕ String) × mm_H)) =>
    if v9 = u1 then
    (gX10_expiryDay w4 h10).bind (fun (x22 : ((Int32 ⊕ String) × mm_H)) => match x22 with
    | (.inl v24, h25) =>
    if v24 < u2 then
    j20 w3 h25
    else
    if mm_ibd w4 20 = true then
    (gX11_held o w4 h25).bind (fun (x29 : ((Int32 ⊕ String) × mm_H)) => match x29 with
    | (.inl v31, h32) =>
    j15 (((mh_I h25 (o + 1) (Int32.toNatClampNeg (w4))) - v31)) w3 h32
    | (.inr E33, h32) => some (.inr E33, h32)) else none
    | (.inr E26, h25) => some (.inr E26, h25))
    else
    j20 w3 h10))
    | (.inr E11, h10) => some (.inr E11, h10))
    else
    some (.inl w3, h5)
def gX11_free (o : Nat) (p0 : Int32) (p1 : Int32) (h : mm_H) : Option ((Int32 ⊕ String) × mm_H) :=
gX11_free_L5 o p0 p1 mm_F 0 0 h
theorem rX11_free_L5 {q : mm_q} (o : Nat) (u1 : Int32) (u2 : Int32)   (ho : mm_St q o) : ∀ (n : Nat) (w3 : Int32) (w4 : Int32) (h5 : mm_H), mm_E2 (mm_Sq q) (mm_Sq q) mX11_free 5 [some (.ref o), some (.int u1), some (.int u2), some (.int w3), some (.int w4)] [] h5 (gX11_free_L5 o u1 u2  n w3 w4 h5) lf_it := by
  intro n
  induction n with
  | zero =>
    intro w3 w4 h5
    exact mm_none
  | succ n ih =>
    intro w3 w4 h5
    rw [gX11_free_L5]
    refine me_iload (pc' := 7) (i := 4) dX11_free_5 rfl rfl ?_
    refine me_aload_n (pc' := 8) (i := 0) dX11_free_7 rfl rfl rfl ?_
    refine me_getI (pc' := 11) dX11_free_8 rfl fkX11_28 (mm_St_ls ho) (mm_St_lsn ho) rfl ?_
    refine me_icmp_ge (pc' := 14) (tgt := 67) dX11_free_11 (by decide) rfl (fun c6 => ?_) (fun c6 => ?_)
    · refine me_iload_n (pc' := 68) (i := 3) dX11_free_67 rfl rfl rfl ?_
      exact me_iret dX11_free_68 rfl (fun z => z) rfl
    · refine me_iload_n (pc' := 15) (i := 3) dX11_free_14 rfl rfl rfl ?_
      refine me_aload_n (pc' := 16) (i := 0) dX11_free_15 rfl rfl rfl ?_
      refine me_getR (pc' := 19) (q' := 0) dX11_free_16 rfl fkX11_18 (mm_St_ls ho) (mm_St_lsn ho) rfl (mm_St_x ho) ?_
      refine me_iload (pc' := 21) (i := 4) dX11_free_19 rfl rfl ?_
      refine me_callV (As := [.int w4]) (st := [.int w3]) (F' := (mm_Sq q)) (G' := (mm_Sq q)) (F'' := (mm_Sq q)) (pc' := 24) dX11_free_21 rfl mfX10_productOf rfl lkX11_49 (mm_ks kd_0) rfl (mm_ltq kd_0) ⟨Nat.le_of_ble_eq_true rfl, Nat.le_of_ble_eq_true rfl⟩ (Nat.le_of_ble_eq_true rfl) (fun z => z) (rX10_productOf (q := q) w4 h5 ) (fun x7 e8 => ?_)
      rcases x7 with ⟨v9 | E11, h10⟩
      · refine Or.inl ⟨_, _, rfl, fun z => z, ?_⟩
        show mm_E2 _ _ _ _ _ [.int v9, .int w3] h10 _ _
        try dsimp only
        refine me_iload_n (pc' := 25) (i := 1) dX11_free_24 rfl rfl rfl ?_
        refine mm_jnI (fun (j159 : Int32 → Int32 → mm_H → Option ((Int32 ⊕ String) × mm_H)) => ∀ (y12 : Int32) (y13 : Int32) (h14 : mm_H), mm_E2 (mm_Sq q) (mm_Sq q) mX11_free 59 [some (.ref o), some (.int u1), some (.int u2), none, some (.int w4)] [.int y12, .int y13] h14 (j159 y12 y13 h14) lf_it) ?_ (fun j15 j15p => ?_)
        · intro y12 y13 h14
          refine me_iadd (pc' := 60) dX11_free_59 rfl ?_
          refine mm_bnd ((y13 + y12)) (fun x16 => [some (.ref o), some (.int u1), some (.int u2), none, some (.int w4)]) (fun x16 => [.int x16]) (fun _ => h14) (fun x16 => ?_)
          refine me_istore_n (pc' := 61) (i := 3) (L' := [some (.ref o), some (.int u1), some (.int u2), some (.int x16), some (.int w4)]) dX11_free_60 rfl rfl (Nat.le_of_ble_eq_true rfl) (Nat.le_of_ble_eq_true rfl) rfl ?_
          refine me_iinc (pc' := 64) (i := 4) (x := w4) (y := w4 + 1) (L' := [some (.ref o), some (.int u1), some (.int u2), some (.int x16), some (.int (w4 + 1))]) dX11_free_61 rfl (Nat.le_of_ble_eq_true rfl) (Nat.le_of_ble_eq_true rfl) rfl (kc_plus kc_i1) rfl ?_
          refine mm_bnd (w4 + 1) (fun x17 => [some (.ref o), some (.int u1), some (.int u2), some (.int x16), some (.int x17)]) (fun _ => []) (fun _ => h14) (fun x17 => ?_)
          refine me_goto (tgt := 5) dX11_free_64 (by decide) ?_
          exact ih x16 x17 h14
        refine mm_jnI (fun (j209 : Int32 → mm_H → Option ((Int32 ⊕ String) × mm_H)) => ∀ (y18 : Int32) (h19 : mm_H), mm_E2 (mm_Sq q) (mm_Sq q) mX11_free 58 [some (.ref o), some (.int u1), some (.int u2), none, some (.int w4)] [.int y18] h19 (j209 y18 h19) lf_it) ?_ (fun j20 j20p => ?_)
        · intro y18 h19
          refine me_iconst (pc' := 59) (v := 0) dX11_free_58 rfl kc_i0 ?_
          exact j15p 0 y18 h19
        refine me_icmp_ne (pc' := 28) (tgt := 58) dX11_free_25 (by decide) rfl (fun c21 => ?_) (fun c21 => ?_)
        · exact mm_maskB [true, true, true, false, true] (j20p w3 h10)
        · refine me_aload_n (pc' := 29) (i := 0) dX11_free_28 rfl rfl rfl ?_
          refine me_getR (pc' := 32) (q' := 0) dX11_free_29 rfl fkX11_18 (mm_St_ls ho) (mm_St_lsn ho) rfl (mm_St_x ho) ?_
          refine me_iload (pc' := 34) (i := 4) dX11_free_32 rfl rfl ?_
          refine me_callV (As := [.int w4]) (st := [.int w3]) (F' := (mm_Sq q)) (G' := (mm_Sq q)) (F'' := (mm_Sq q)) (pc' := 37) dX11_free_34 rfl mfX10_expiryDay rfl lkX11_52 (mm_ks kd_0) rfl (mm_ltq kd_0) ⟨Nat.le_of_ble_eq_true rfl, Nat.le_of_ble_eq_true rfl⟩ (Nat.le_of_ble_eq_true rfl) (fun z => z) (rX10_expiryDay (q := q) w4 h10 ) (fun x22 e23 => ?_)
          rcases x22 with ⟨v24 | E26, h25⟩
          · refine Or.inl ⟨_, _, rfl, fun z => z, ?_⟩
            show mm_E2 _ _ _ _ _ [.int v24, .int w3] h25 _ _
            try dsimp only
            refine me_iload_n (pc' := 38) (i := 2) dX11_free_37 rfl rfl rfl ?_
            refine me_icmp_lt (pc' := 41) (tgt := 58) dX11_free_38 (by decide) rfl (fun c27 => ?_) (fun c27 => ?_)
            · exact mm_maskB [true, true, true, false, true] (j20p w3 h25)
            · refine me_aload_n (pc' := 42) (i := 0) dX11_free_41 rfl rfl rfl ?_
              refine me_getR (pc' := 45) (q' := (o + 1)) dX11_free_42 rfl fkX11_7 (mm_St_ls ho) (mm_St_lsn ho) rfl (mm_St_1 ho) ?_
              refine me_iload (pc' := 47) (i := 4) dX11_free_45 rfl rfl ?_
              refine mm_guard (fun c28 => ?_)
              refine me_iald (pc' := 48) dX11_free_47 rfl (mm_St_lq ho) (mm_St_lqn ho) (mm_ibd_of c28) ?_
              refine me_aload_n (pc' := 49) (i := 0) dX11_free_48 rfl rfl rfl ?_
              refine me_iload (pc' := 51) (i := 4) dX11_free_49 rfl rfl ?_
              refine me_callV (As := [.int w4]) (st := [.int (mh_I h25 (o + 1) (Int32.toNatClampNeg (w4))), .int w3]) (F' := (mm_Sq q)) (G' := (mm_Sq q)) (F'' := (mm_Sq q)) (pc' := 54) dX11_free_51 rfl mfX11_held rfl lkX11_55 (mm_St_ls ho) rfl (mm_St_lsn ho) ⟨Nat.le_of_ble_eq_true rfl, Nat.le_of_ble_eq_true rfl⟩ (Nat.le_of_ble_eq_true rfl) (fun z => z) (rX11_held (q := q) o w4 h25 ho) (fun x29 e30 => ?_)
              rcases x29 with ⟨v31 | E33, h32⟩
              · refine Or.inl ⟨_, _, rfl, fun z => z, ?_⟩
                show mm_E2 _ _ _ _ _ [.int v31, .int (mh_I h25 (o + 1) (Int32.toNatClampNeg (w4))), .int w3] h32 _ _
                try dsimp only
                refine me_isub (pc' := 55) dX11_free_54 rfl ?_
                refine me_goto (tgt := 59) dX11_free_55 (by decide) ?_
                exact mm_maskB [true, true, true, false, true] (j15p (((mh_I h25 (o + 1) (Int32.toNatClampNeg (w4))) - v31)) w3 h32)
              · exact Or.inr ⟨_, _, rfl, rfl, fun z => z, fun y9 hy9 => by rw [← Option.some.inj hy9]; rfl⟩
          · exact Or.inr ⟨_, _, rfl, rfl, fun z => z, fun y9 hy9 => by rw [← Option.some.inj hy9]; rfl⟩
      · exact Or.inr ⟨_, _, rfl, rfl, fun z => z, fun y9 hy9 => by rw [← Option.some.inj hy9]; rfl⟩
theorem rX11_free {q : mm_q} (o : Nat) (p0 : Int32) (p1 : Int32) (h : mm_H) (ho : mm_St q o) : mm_R2 (mm_Sq q) (mm_Sq q) mX11_free [.ref o, .int p0, .int p1] h (gX11_free o p0 p1 h) lf_it := by
  refine mm_body (L := [some (.ref o), some (.int p0), some (.int p1), none, none]) rfl (by decide +kernel) (Nat.le_of_ble_eq_true rfl) rfl ?_
  unfold gX11_free
  refine me_iconst (pc' := 1) (v := 0) dX11_free_0 rfl kc_i0 ?_
  refine me_istore_n (pc' := 2) (i := 3) (L' := [some (.ref o), some (.int p0), some (.int p1), some (.int 0), none]) dX11_free_1 rfl rfl (Nat.le_of_ble_eq_true rfl) (Nat.le_of_ble_eq_true rfl) rfl ?_
  refine me_iconst (pc' := 3) (v := 0) dX11_free_2 rfl kc_i0 ?_
  refine me_istore (pc' := 5) (i := 4) (L' := [some (.ref o), some (.int p0), some (.int p1), some (.int 0), some (.int 0)]) dX11_free_3 rfl (Nat.le_of_ble_eq_true rfl) (Nat.le_of_ble_eq_true rfl) rfl ?_
  exact rX11_free_L5 (q := q) o p0 p1 ho mm_F 0 0 h
def gX11_issue_L5 (o : Nat) (u1 : Int32) (u2 : Int32) : Nat → Int32 → Int32 → mm_H → Option ((Int32 ⊕ String) × mm_H)
  | 0, _, _, _ => none
  | n + 1, w3, w4, h5 =>
    if w4 < u2 then
    (gX10_day h5).bind (fun (x7 : Int32) =>
    (gX11_next o u1 x7 h5).bind (fun (x9 : ((Int32 ⊕ String) × mm_H)) => match x9 with
    | (.inl v11, h12) =>
    if mm_ibd v11 20 = true then
    if mm_ibd v11 20 = true then
    (some (ms_I h12 (o + 1) (Int32.toNatClampNeg (v11)) (((mh_I h12 (o + 1) (Int32.toNatClampNeg (v11))) - 1)))).bind (fun (h16 : mm_H) =>
    (gX10_unitCost v11 h16).bind (fun (x17 : ((Int32 ⊕ String) × mm_H)) => match x17 with
    | (.inl v19, h20) =>
    (some ((w3 + v19))).bind (fun (x22 : Int32) =>
    (some (w4 + 1)).bind (fun (x23 : Int32) =>
    gX11_issue_L5 o u1 u2 n x22 x23 h20))
    | (.inr E21, h20) => some (.inr E21, h20))) else none else none
    | (.inr E13, h12) => some (.inr E13, h12)))
    else
    some (.inl w3, h5)
def gX11_issue (o : Nat) (p0 : Int32) (p1 : Int32) (h : mm_H) : Option ((Int32 ⊕ String) × mm_H) :=
gX11_issue_L5 o p0 p1 mm_F 0 0 h
theorem rX11_issue_L5 {q : mm_q} (o : Nat) (u1 : Int32) (u2 : Int32)   (ho : mm_St q o) : ∀ (n : Nat) (w3 : Int32) (w4 : Int32) (h5 : mm_H), mm_E2 (mm_Sq q) (mm_Sq q) mX11_issue 5 [some (.ref o), some (.int u1), some (.int u2), some (.int w3), some (.int w4), none] [] h5 (gX11_issue_L5 o u1 u2  n w3 w4 h5) lf_it := by
  intro n
  induction n with
  | zero =>
    intro w3 w4 h5
    exact mm_none
  | succ n ih =>
    intro w3 w4 h5
    rw [gX11_issue_L5]
    refine me_iload (pc' := 7) (i := 4) dX11_issue_5 rfl rfl ?_
    refine me_iload_n (pc' := 8) (i := 2) dX11_issue_7 rfl rfl rfl ?_
    refine me_icmp_ge (pc' := 11) (tgt := 54) dX11_issue_8 (by decide) rfl (fun c6 => ?_) (fun c6 => ?_)
    · refine me_iload_n (pc' := 55) (i := 3) dX11_issue_54 rfl rfl rfl ?_
      exact me_iret dX11_issue_55 rfl (fun z => z) rfl
    · refine me_aload_n (pc' := 12) (i := 0) dX11_issue_11 rfl rfl rfl ?_
      refine me_iload_n (pc' := 13) (i := 1) dX11_issue_12 rfl rfl rfl ?_
      refine me_aload_n (pc' := 14) (i := 0) dX11_issue_13 rfl rfl rfl ?_
      refine me_getR (pc' := 17) (q' := 0) dX11_issue_14 rfl fkX11_18 (mm_St_ls ho) (mm_St_lsn ho) rfl (mm_St_x ho) ?_
      refine me_callV (As := []) (st := [.int u1, .ref o]) (F' := (mm_Sq q)) (G' := (mm_Sq q)) (F'' := (mm_Sq q)) (pc' := 20) dX11_issue_17 rfl mfX10_day rfl lkX11_58 (mm_ks kd_0) rfl (mm_ltq kd_0) ⟨Nat.le_of_ble_eq_true rfl, Nat.le_of_ble_eq_true rfl⟩ (Nat.le_of_ble_eq_true rfl) (fun z => z) (rX10_day (q := q) h5 ) (fun x7 e8 => Or.inl ⟨_, _, rfl, fun z => z, ?_⟩)
      show mm_E2 _ _ _ _ _ [.int x7, .int u1, .ref o] h5 _ _
      refine me_callV (As := [.int u1, .int x7]) (st := []) (F' := (mm_Sq q)) (G' := (mm_Sq q)) (F'' := (mm_Sq q)) (pc' := 23) dX11_issue_20 rfl mfX11_next rfl lkX11_61 (mm_St_ls ho) rfl (mm_St_lsn ho) ⟨Nat.le_of_ble_eq_true rfl, Nat.le_of_ble_eq_true rfl⟩ (Nat.le_of_ble_eq_true rfl) (fun z => z) (rX11_next (q := q) o u1 x7 h5 ho) (fun x9 e10 => ?_)
      rcases x9 with ⟨v11 | E13, h12⟩
      · refine Or.inl ⟨_, _, rfl, fun z => z, ?_⟩
        show mm_E2 _ _ _ _ _ [.int v11] h12 _ _
        try dsimp only
        refine me_istore (pc' := 25) (i := 5) (L' := [some (.ref o), some (.int u1), some (.int u2), some (.int w3), some (.int w4), some (.int v11)]) dX11_issue_23 rfl (Nat.le_of_ble_eq_true rfl) (Nat.le_of_ble_eq_true rfl) rfl ?_
        refine me_aload_n (pc' := 26) (i := 0) dX11_issue_25 rfl rfl rfl ?_
        refine me_getR (pc' := 29) (q' := (o + 1)) dX11_issue_26 rfl fkX11_7 (mm_St_ls ho) (mm_St_lsn ho) rfl (mm_St_1 ho) ?_
        refine me_iload (pc' := 31) (i := 5) dX11_issue_29 rfl rfl ?_
        refine me_dup2 (pc' := 32) dX11_issue_31 rfl rfl rfl ?_
        refine mm_guard (fun c14 => ?_)
        refine me_iald (pc' := 33) dX11_issue_32 rfl (mm_St_lq ho) (mm_St_lqn ho) (mm_ibd_of c14) ?_
        refine me_iconst (pc' := 34) (v := 1) dX11_issue_33 rfl kc_i1 ?_
        refine me_isub (pc' := 35) dX11_issue_34 rfl ?_
        refine mm_guard (fun c15 => ?_)
        refine me_iast (F' := (mm_Sq q)) (pc' := 36) dX11_issue_35 rfl (mm_St_lq ho) (mm_St_lqn ho) (mm_ibd_of c15) (fun z => z) ?_
        refine mm_bnd (ms_I h12 (o + 1) (Int32.toNatClampNeg (v11)) (((mh_I h12 (o + 1) (Int32.toNatClampNeg (v11))) - 1))) (fun _ => [some (.ref o), some (.int u1), some (.int u2), some (.int w3), some (.int w4), some (.int v11)]) (fun _ => []) (fun h16 => h16) (fun h16 => ?_)
        refine me_iload_n (pc' := 37) (i := 3) dX11_issue_36 rfl rfl rfl ?_
        refine me_aload_n (pc' := 38) (i := 0) dX11_issue_37 rfl rfl rfl ?_
        refine me_getR (pc' := 41) (q' := 0) dX11_issue_38 rfl fkX11_18 (mm_St_ls ho) (mm_St_lsn ho) rfl (mm_St_x ho) ?_
        refine me_iload (pc' := 43) (i := 5) dX11_issue_41 rfl rfl ?_
        refine me_callV (As := [.int v11]) (st := [.int w3]) (F' := (mm_Sq q)) (G' := (mm_Sq q)) (F'' := (mm_Sq q)) (pc' := 46) dX11_issue_43 rfl mfX10_unitCost rfl lkX11_64 (mm_ks kd_0) rfl (mm_ltq kd_0) ⟨Nat.le_of_ble_eq_true rfl, Nat.le_of_ble_eq_true rfl⟩ (Nat.le_of_ble_eq_true rfl) (fun z => z) (rX10_unitCost (q := q) v11 h16 ) (fun x17 e18 => ?_)
        rcases x17 with ⟨v19 | E21, h20⟩
        · refine Or.inl ⟨_, _, rfl, fun z => z, ?_⟩
          show mm_E2 _ _ _ _ _ [.int v19, .int w3] h20 _ _
          try dsimp only
          refine me_iadd (pc' := 47) dX11_issue_46 rfl ?_
          refine mm_bnd ((w3 + v19)) (fun x22 => [some (.ref o), some (.int u1), some (.int u2), some (.int w3), some (.int w4), some (.int v11)]) (fun x22 => [.int x22]) (fun _ => h20) (fun x22 => ?_)
          refine me_istore_n (pc' := 48) (i := 3) (L' := [some (.ref o), some (.int u1), some (.int u2), some (.int x22), some (.int w4), some (.int v11)]) dX11_issue_47 rfl rfl (Nat.le_of_ble_eq_true rfl) (Nat.le_of_ble_eq_true rfl) rfl ?_
          refine me_iinc (pc' := 51) (i := 4) (x := w4) (y := w4 + 1) (L' := [some (.ref o), some (.int u1), some (.int u2), some (.int x22), some (.int (w4 + 1)), some (.int v11)]) dX11_issue_48 rfl (Nat.le_of_ble_eq_true rfl) (Nat.le_of_ble_eq_true rfl) rfl (kc_plus kc_i1) rfl ?_
          refine mm_bnd (w4 + 1) (fun x23 => [some (.ref o), some (.int u1), some (.int u2), some (.int x22), some (.int x23), some (.int v11)]) (fun _ => []) (fun _ => h20) (fun x23 => ?_)
          refine me_goto (tgt := 5) dX11_issue_51 (by decide) ?_
          exact mm_maskB [true, true, true, true, true, false] (ih x22 x23 h20)
        · exact Or.inr ⟨_, _, rfl, rfl, fun z => z, fun y9 hy9 => by rw [← Option.some.inj hy9]; rfl⟩
      · exact Or.inr ⟨_, _, rfl, rfl, fun z => z, fun y9 hy9 => by rw [← Option.some.inj hy9]; rfl⟩
theorem rX11_issue {q : mm_q} (o : Nat) (p0 : Int32) (p1 : Int32) (h : mm_H) (ho : mm_St q o) : mm_R2 (mm_Sq q) (mm_Sq q) mX11_issue [.ref o, .int p0, .int p1] h (gX11_issue o p0 p1 h) lf_it := by
  refine mm_body (L := [some (.ref o), some (.int p0), some (.int p1), none, none, none]) rfl (by decide +kernel) (Nat.le_of_ble_eq_true rfl) rfl ?_
  unfold gX11_issue
  refine me_iconst (pc' := 1) (v := 0) dX11_issue_0 rfl kc_i0 ?_
  refine me_istore_n (pc' := 2) (i := 3) (L' := [some (.ref o), some (.int p0), some (.int p1), some (.int 0), none, none]) dX11_issue_1 rfl rfl (Nat.le_of_ble_eq_true rfl) (Nat.le_of_ble_eq_true rfl) rfl ?_
  refine me_iconst (pc' := 3) (v := 0) dX11_issue_2 rfl kc_i0 ?_
  refine me_istore (pc' := 5) (i := 4) (L' := [some (.ref o), some (.int p0), some (.int p1), some (.int 0), some (.int 0), none]) dX11_issue_3 rfl (Nat.le_of_ble_eq_true rfl) (Nat.le_of_ble_eq_true rfl) rfl ?_
  exact rX11_issue_L5 (q := q) o p0 p1 ho mm_F 0 0 h
def gX11_allocate_L12 (o : Nat) (u6 : Int32) (u7 : Int32) (u8 : Int32) (u9 : Int32) : Nat → Int32 → Int32 → mm_H → Option ((Int32 ⊕ String) × mm_H)
  | 0, _, _, _ => none
  | n + 1, w10, w11, h12 =>
    if w11 < 0 then
    some (.inl w10, h12)
    else
    if w10 < u8 then
    if mm_ibd u6 10 = true then
    if mm_ibd w11 20 = true then
    if mm_ibd w11 20 = true then
    (some (ms_I h12 (o + 3 + (Int32.toNatClampNeg (u6))) (Int32.toNatClampNeg (w11)) (((mh_I h12 (o + 3 + (Int32.toNatClampNeg (u6))) (Int32.toNatClampNeg (w11))) + 1)))).bind (fun (h18 : mm_H) =>
    (some (w10 + 1)).bind (fun (x19 : Int32) =>
    (gX11_next o u7 u9 h18).bind (fun (x20 : ((Int32 ⊕ String) × mm_H)) => match x20 with
    | (.inl v22, h23) =>
    gX11_allocate_L12 o u6 u7 u8 u9 n x19 v22 h23
    | (.inr E24, h23) => some (.inr E24, h23)))) else none else none else none
    else
    some (.inl w10, h12)
def gX11_allocate (o : Nat) (p0 : Int32) (p1 : Int32) (p2 : Int32) (p3 : Int32) (h : mm_H) : Option ((Int32 ⊕ String) × mm_H) :=
(gX11_next o p1 p3 h).bind (fun (x1 : ((Int32 ⊕ String) × mm_H)) => match x1 with
| (.inl v3, h4) =>
gX11_allocate_L12 o p0 p1 p2 p3 mm_F 0 v3 h4
| (.inr E5, h4) => some (.inr E5, h4))
theorem rX11_allocate_L12 {q : mm_q} (o : Nat) (u6 : Int32) (u7 : Int32) (u8 : Int32) (u9 : Int32)   (ho : mm_St q o) : ∀ (n : Nat) (w10 : Int32) (w11 : Int32) (h12 : mm_H), mm_E2 (mm_Sq q) (mm_Sq q) mX11_allocate 12 [some (.ref o), some (.int u6), some (.int u7), some (.int u8), some (.int u9), some (.int w10), some (.int w11)] [] h12 (gX11_allocate_L12 o u6 u7 u8 u9  n w10 w11 h12) lf_it := by
  intro n
  induction n with
  | zero =>
    intro w10 w11 h12
    exact mm_none
  | succ n ih =>
    intro w10 w11 h12
    rw [gX11_allocate_L12]
    refine me_iload (pc' := 14) (i := 6) dX11_allocate_12 rfl rfl ?_
    refine me_if_lt (pc' := 17) (tgt := 51) dX11_allocate_14 (by decide) rfl (fun c13 => ?_) (fun c13 => ?_)
    · refine me_iload (pc' := 53) (i := 5) dX11_allocate_51 rfl rfl ?_
      exact me_iret dX11_allocate_53 rfl (fun z => z) rfl
    · refine me_iload (pc' := 19) (i := 5) dX11_allocate_17 rfl rfl ?_
      refine me_iload_n (pc' := 20) (i := 3) dX11_allocate_19 rfl rfl rfl ?_
      refine me_icmp_ge (pc' := 23) (tgt := 51) dX11_allocate_20 (by decide) rfl (fun c14 => ?_) (fun c14 => ?_)
      · refine me_iload (pc' := 53) (i := 5) dX11_allocate_51 rfl rfl ?_
        exact me_iret dX11_allocate_53 rfl (fun z => z) rfl
      · refine me_aload_n (pc' := 24) (i := 0) dX11_allocate_23 rfl rfl rfl ?_
        refine me_getR (pc' := 27) (q' := (o + 2)) dX11_allocate_24 rfl fkX11_15 (mm_St_ls ho) (mm_St_lsn ho) rfl (mm_St_2 ho) ?_
        refine me_iload_n (pc' := 28) (i := 1) dX11_allocate_27 rfl rfl rfl ?_
        refine mm_guard (fun c15 => ?_)
        refine me_aaldA (pc' := 29) (q' := (o + 3 + (Int32.toNatClampNeg (u6)))) dX11_allocate_28 rfl (mm_St_lp ho) (mm_St_lpn ho) (mm_ibd_of c15) (mm_St_r (mm_ibd_of c15) ho) ?_
        refine me_iload (pc' := 31) (i := 6) dX11_allocate_29 rfl rfl ?_
        refine me_dup2 (pc' := 32) dX11_allocate_31 rfl rfl rfl ?_
        refine mm_guard (fun c16 => ?_)
        refine me_iald (pc' := 33) dX11_allocate_32 rfl (mm_St_lr (mm_ibd_of c15) ho) (mm_St_lrn (mm_ibd_of c15) ho) (mm_ibd_of c16) ?_
        refine me_iconst (pc' := 34) (v := 1) dX11_allocate_33 rfl kc_i1 ?_
        refine me_iadd (pc' := 35) dX11_allocate_34 rfl ?_
        refine mm_guard (fun c17 => ?_)
        refine me_iast (F' := (mm_Sq q)) (pc' := 36) dX11_allocate_35 rfl (mm_St_lr (mm_ibd_of c15) ho) (mm_St_lrn (mm_ibd_of c15) ho) (mm_ibd_of c17) (fun z => z) ?_
        refine mm_bnd (ms_I h12 (o + 3 + (Int32.toNatClampNeg (u6))) (Int32.toNatClampNeg (w11)) (((mh_I h12 (o + 3 + (Int32.toNatClampNeg (u6))) (Int32.toNatClampNeg (w11))) + 1))) (fun _ => [some (.ref o), some (.int u6), some (.int u7), some (.int u8), some (.int u9), some (.int w10), some (.int w11)]) (fun _ => []) (fun h18 => h18) (fun h18 => ?_)
        refine me_iinc (pc' := 39) (i := 5) (x := w10) (y := w10 + 1) (L' := [some (.ref o), some (.int u6), some (.int u7), some (.int u8), some (.int u9), some (.int (w10 + 1)), some (.int w11)]) dX11_allocate_36 rfl (Nat.le_of_ble_eq_true rfl) (Nat.le_of_ble_eq_true rfl) rfl (kc_plus kc_i1) rfl ?_
        refine mm_bnd (w10 + 1) (fun x19 => [some (.ref o), some (.int u6), some (.int u7), some (.int u8), some (.int u9), some (.int x19), some (.int w11)]) (fun _ => []) (fun _ => h18) (fun x19 => ?_)
        refine me_aload_n (pc' := 40) (i := 0) dX11_allocate_39 rfl rfl rfl ?_
        refine me_iload_n (pc' := 41) (i := 2) dX11_allocate_40 rfl rfl rfl ?_
        refine me_iload (pc' := 43) (i := 4) dX11_allocate_41 rfl rfl ?_
        refine me_callV (As := [.int u7, .int u9]) (st := []) (F' := (mm_Sq q)) (G' := (mm_Sq q)) (F'' := (mm_Sq q)) (pc' := 46) dX11_allocate_43 rfl mfX11_next rfl lkX11_61 (mm_St_ls ho) rfl (mm_St_lsn ho) ⟨Nat.le_of_ble_eq_true rfl, Nat.le_of_ble_eq_true rfl⟩ (Nat.le_of_ble_eq_true rfl) (fun z => z) (rX11_next (q := q) o u7 u9 h18 ho) (fun x20 e21 => ?_)
        rcases x20 with ⟨v22 | E24, h23⟩
        · refine Or.inl ⟨_, _, rfl, fun z => z, ?_⟩
          show mm_E2 _ _ _ _ _ [.int v22] h23 _ _
          try dsimp only
          refine me_istore (pc' := 48) (i := 6) (L' := [some (.ref o), some (.int u6), some (.int u7), some (.int u8), some (.int u9), some (.int x19), some (.int v22)]) dX11_allocate_46 rfl (Nat.le_of_ble_eq_true rfl) (Nat.le_of_ble_eq_true rfl) rfl ?_
          refine me_goto (tgt := 12) dX11_allocate_48 (by decide) ?_
          exact ih x19 v22 h23
        · exact Or.inr ⟨_, _, rfl, rfl, fun z => z, fun y9 hy9 => by rw [← Option.some.inj hy9]; rfl⟩
theorem rX11_allocate {q : mm_q} (o : Nat) (p0 : Int32) (p1 : Int32) (p2 : Int32) (p3 : Int32) (h : mm_H) (ho : mm_St q o) : mm_R2 (mm_Sq q) (mm_Sq q) mX11_allocate [.ref o, .int p0, .int p1, .int p2, .int p3] h (gX11_allocate o p0 p1 p2 p3 h) lf_it := by
  refine mm_body (L := [some (.ref o), some (.int p0), some (.int p1), some (.int p2), some (.int p3), none, none]) rfl (by decide +kernel) (Nat.le_of_ble_eq_true rfl) rfl ?_
  unfold gX11_allocate
  refine me_iconst (pc' := 1) (v := 0) dX11_allocate_0 rfl kc_i0 ?_
  refine me_istore (pc' := 3) (i := 5) (L' := [some (.ref o), some (.int p0), some (.int p1), some (.int p2), some (.int p3), some (.int 0), none]) dX11_allocate_1 rfl (Nat.le_of_ble_eq_true rfl) (Nat.le_of_ble_eq_true rfl) rfl ?_
  refine me_aload_n (pc' := 4) (i := 0) dX11_allocate_3 rfl rfl rfl ?_
  refine me_iload_n (pc' := 5) (i := 2) dX11_allocate_4 rfl rfl rfl ?_
  refine me_iload (pc' := 7) (i := 4) dX11_allocate_5 rfl rfl ?_
  refine me_callV (As := [.int p1, .int p3]) (st := []) (F' := (mm_Sq q)) (G' := (mm_Sq q)) (F'' := (mm_Sq q)) (pc' := 10) dX11_allocate_7 rfl mfX11_next rfl lkX11_61 (mm_St_ls ho) rfl (mm_St_lsn ho) ⟨Nat.le_of_ble_eq_true rfl, Nat.le_of_ble_eq_true rfl⟩ (Nat.le_of_ble_eq_true rfl) (fun z => z) (rX11_next (q := q) o p1 p3 h ho) (fun x1 e2 => ?_)
  rcases x1 with ⟨v3 | E5, h4⟩
  · refine Or.inl ⟨_, _, rfl, fun z => z, ?_⟩
    show mm_E2 _ _ _ _ _ [.int v3] h4 _ _
    try dsimp only
    refine me_istore (pc' := 12) (i := 6) (L' := [some (.ref o), some (.int p0), some (.int p1), some (.int p2), some (.int p3), some (.int 0), some (.int v3)]) dX11_allocate_10 rfl (Nat.le_of_ble_eq_true rfl) (Nat.le_of_ble_eq_true rfl) rfl ?_
    exact rX11_allocate_L12 (q := q) o p0 p1 p2 p3 ho mm_F 0 v3 h4
  · exact Or.inr ⟨_, _, rfl, rfl, fun z => z, fun y9 hy9 => by rw [← Option.some.inj hy9]; rfl⟩
def gX11_agrees_L117 (o : Nat) (u46 : Int32) (k : Int32 → Option ((Bool ⊕ String) × mm_H)) (h : mm_H) : Nat → Int32 → Int32 → Option ((Bool ⊕ String) × mm_H)
  | 0, _, _ => none
  | n + 1, w47, w48 =>
    if w48 < (mh_I h o 3) then
    if mm_ibd u46 10 = true then
    if mm_ibd w48 20 = true then
    (some ((w47 + (mh_I h (o + 3 + (Int32.toNatClampNeg (u46))) (Int32.toNatClampNeg (w48)))))).bind (fun (x53 : Int32) =>
    (some (w48 + 1)).bind (fun (x54 : Int32) =>
    gX11_agrees_L117 o u46 k h n x53 x54)) else none else none
    else
    k w47
def gX11_agrees_L105 (o : Nat) : Nat → Int32 → mm_H → Option ((Bool ⊕ String) × mm_H)
  | 0, _, _ => none
  | n + 1, w4, h5 =>
    if w4 < (mh_I h5 o 4) then
    mm_jn (fun (y16 : Int32) =>
    (gX10_missing w4 h5).bind (fun (x18 : ((Int32 ⊕ String) × mm_H)) => match x18 with
    | (.inl v20, h21) =>
    (gX10_isOpen w4 h21).bind (fun (x23 : ((Bool ⊕ String) × mm_H)) => match x23 with
    | (.inl v25, h26) =>
    mm_jn (fun (y28 : Int32) (y29 : Int32) (h30 : mm_H) =>
    if y29 = y28 then
    (gX10_missing w4 h30).bind (fun (x33 : ((Int32 ⊕ String) × mm_H)) => match x33 with
    | (.inl v35, h36) =>
    if v35 < 0 then
    some (.inl false, h36)
    else
    (some (w4 + 1)).bind (fun (x39 : Int32) =>
    gX11_agrees_L105 o n x39 h36)
    | (.inr E37, h36) => some (.inr E37, h36))
    else
    some (.inl false, h30)) (fun (j31 : Int32 → Int32 → mm_H → Option ((Bool ⊕ String) × mm_H)) =>
    if v25 = true then
    (gX10_reservedQuantity w4 h26).bind (fun (x41 : ((Int32 ⊕ String) × mm_H)) => match x41 with
    | (.inl v43, h44) =>
    j31 ((v43 - y16)) v20 h44
    | (.inr E45, h44) => some (.inr E45, h44))
    else
    j31 0 v20 h26)
    | (.inr E27, h26) => some (.inr E27, h26))
    | (.inr E22, h21) => some (.inr E22, h21))) (fun (j17 : Int32 → Option ((Bool ⊕ String) × mm_H)) =>
    gX11_agrees_L117 o w4 j17 h5 mm_F 0 0)
    else
    (gX10_batchCount h5).bind (fun (x7 : Int32) =>
    if x7 = (mh_I h5 o 3) then
    (gX10_reservationCount h5).bind (fun (x10 : Int32) =>
    if x10 = (mh_I h5 o 4) then
    (gX10_inconsistencies h5).bind (fun (x13 : Int32) =>
    if x13 = 0 then
    some (.inl true, h5)
    else
    some (.inl false, h5))
    else
    some (.inl false, h5))
    else
    some (.inl false, h5))
def gX11_agrees_L61 (o : Nat) (u83 : Int32) (k : mm_H → Option ((Bool ⊕ String) × mm_H)) : Nat → Int32 → mm_H → Option ((Bool ⊕ String) × mm_H)
  | 0, _, _ => none
  | n + 1, w84, h85 =>
    if w84 < (mh_I h85 o 4) then
    (gX10_allocation w84 u83 h85).bind (fun (x88 : ((Int32 ⊕ String) × mm_H)) => match x88 with
    | (.inl v90, h91) =>
    if mm_ibd w84 10 = true then
    if mm_ibd u83 20 = true then
    if v90 = (mh_I h91 (o + 3 + (Int32.toNatClampNeg (w84))) (Int32.toNatClampNeg (u83))) then
    (some (w84 + 1)).bind (fun (x96 : Int32) =>
    gX11_agrees_L61 o u83 k n x96 h91)
    else
    some (.inl false, h91) else none else none
    | (.inr E92, h91) => some (.inr E92, h91))
    else
    k h85
def gX11_agrees_L2 (o : Nat) : Nat → Int32 → mm_H → Option ((Bool ⊕ String) × mm_H)
  | 0, _, _ => none
  | n + 1, w1, h2 =>
    if w1 < (mh_I h2 o 3) then
    (gX10_quantity w1 h2).bind (fun (x55 : ((Int32 ⊕ String) × mm_H)) => match x55 with
    | (.inl v57, h58) =>
    if mm_ibd w1 20 = true then
    if v57 = (mh_I h58 (o + 1) (Int32.toNatClampNeg (w1))) then
    (gX10_reservedOf w1 h58).bind (fun (x62 : ((Int32 ⊕ String) × mm_H)) => match x62 with
    | (.inl v64, h65) =>
    (gX11_held o w1 h65).bind (fun (x67 : ((Int32 ⊕ String) × mm_H)) => match x67 with
    | (.inl v69, h70) =>
    if v64 = v69 then
    if mm_ibd w1 20 = true then
    (gX11_held o w1 h70).bind (fun (x74 : ((Int32 ⊕ String) × mm_H)) => match x74 with
    | (.inl v76, h77) =>
    if (mh_I h70 (o + 1) (Int32.toNatClampNeg (w1))) < v76 then
    some (.inl false, h77)
    else
    mm_jn (fun (h80 : mm_H) =>
    (some (w1 + 1)).bind (fun (x82 : Int32) =>
    gX11_agrees_L2 o n x82 h80)) (fun (j81 : mm_H → Option ((Bool ⊕ String) × mm_H)) =>
    gX11_agrees_L61 o w1 j81 mm_F 0 h77)
    | (.inr E78, h77) => some (.inr E78, h77)) else none
    else
    some (.inl false, h70)
    | (.inr E71, h70) => some (.inr E71, h70))
    | (.inr E66, h65) => some (.inr E66, h65))
    else
    some (.inl false, h58) else none
    | (.inr E59, h58) => some (.inr E59, h58))
    else
    gX11_agrees_L105 o mm_F 0 h2
def gX11_agrees (o : Nat) (h : mm_H) : Option ((Bool ⊕ String) × mm_H) :=
gX11_agrees_L2 o mm_F 0 h
theorem rX11_agrees_L117 {q : mm_q} (o : Nat) (u46 : Int32) (k : Int32 → Option ((Bool ⊕ String) × mm_H)) (h : mm_H) (ho : mm_St q o) (kp : ∀ (y49 : Int32), mm_E2 (mm_Sq q) (mm_Sq q) mX11_agrees 142 [some (.ref o), some (.int u46), some (.int y49), none] [] h (k y49) lf_zt) : ∀ (n : Nat) (w47 : Int32) (w48 : Int32), mm_E2 (mm_Sq q) (mm_Sq q) mX11_agrees 117 [some (.ref o), some (.int u46), some (.int w47), some (.int w48)] [] h (gX11_agrees_L117 o u46 k h n w47 w48) lf_zt := by
  intro n
  induction n with
  | zero =>
    intro w47 w48
    exact mm_none
  | succ n ih =>
    intro w47 w48
    rw [gX11_agrees_L117]
    refine me_iload_n (pc' := 118) (i := 3) dX11_agrees_117 rfl rfl rfl ?_
    refine me_aload_n (pc' := 119) (i := 0) dX11_agrees_118 rfl rfl rfl ?_
    refine me_getI (pc' := 122) dX11_agrees_119 rfl fkX11_28 (mm_St_ls ho) (mm_St_lsn ho) rfl ?_
    refine me_icmp_ge (pc' := 125) (tgt := 142) dX11_agrees_122 (by decide) rfl (fun c50 => ?_) (fun c50 => ?_)
    · exact mm_maskB [true, true, true, false] (kp w47)
    · refine me_iload_n (pc' := 126) (i := 2) dX11_agrees_125 rfl rfl rfl ?_
      refine me_aload_n (pc' := 127) (i := 0) dX11_agrees_126 rfl rfl rfl ?_
      refine me_getR (pc' := 130) (q' := (o + 2)) dX11_agrees_127 rfl fkX11_15 (mm_St_ls ho) (mm_St_lsn ho) rfl (mm_St_2 ho) ?_
      refine me_iload_n (pc' := 131) (i := 1) dX11_agrees_130 rfl rfl rfl ?_
      refine mm_guard (fun c51 => ?_)
      refine me_aaldA (pc' := 132) (q' := (o + 3 + (Int32.toNatClampNeg (u46)))) dX11_agrees_131 rfl (mm_St_lp ho) (mm_St_lpn ho) (mm_ibd_of c51) (mm_St_r (mm_ibd_of c51) ho) ?_
      refine me_iload_n (pc' := 133) (i := 3) dX11_agrees_132 rfl rfl rfl ?_
      refine mm_guard (fun c52 => ?_)
      refine me_iald (pc' := 134) dX11_agrees_133 rfl (mm_St_lr (mm_ibd_of c51) ho) (mm_St_lrn (mm_ibd_of c51) ho) (mm_ibd_of c52) ?_
      refine me_iadd (pc' := 135) dX11_agrees_134 rfl ?_
      refine mm_bnd ((w47 + (mh_I h (o + 3 + (Int32.toNatClampNeg (u46))) (Int32.toNatClampNeg (w48))))) (fun x53 => [some (.ref o), some (.int u46), some (.int w47), some (.int w48)]) (fun x53 => [.int x53]) (fun _ => h) (fun x53 => ?_)
      refine me_istore_n (pc' := 136) (i := 2) (L' := [some (.ref o), some (.int u46), some (.int x53), some (.int w48)]) dX11_agrees_135 rfl rfl (Nat.le_of_ble_eq_true rfl) (Nat.le_of_ble_eq_true rfl) rfl ?_
      refine me_iinc (pc' := 139) (i := 3) (x := w48) (y := w48 + 1) (L' := [some (.ref o), some (.int u46), some (.int x53), some (.int (w48 + 1))]) dX11_agrees_136 rfl (Nat.le_of_ble_eq_true rfl) (Nat.le_of_ble_eq_true rfl) rfl (kc_plus kc_i1) rfl ?_
      refine mm_bnd (w48 + 1) (fun x54 => [some (.ref o), some (.int u46), some (.int x53), some (.int x54)]) (fun _ => []) (fun _ => h) (fun x54 => ?_)
      refine me_goto (tgt := 117) dX11_agrees_139 (by decide) ?_
      exact ih x53 x54
theorem rX11_agrees_L105 {q : mm_q} (o : Nat)    (ho : mm_St q o) : ∀ (n : Nat) (w4 : Int32) (h5 : mm_H), mm_E2 (mm_Sq q) (mm_Sq q) mX11_agrees 105 [some (.ref o), some (.int w4), none, none] [] h5 (gX11_agrees_L105 o  n w4 h5) lf_zt := by
  intro n
  induction n with
  | zero =>
    intro w4 h5
    exact mm_none
  | succ n ih =>
    intro w4 h5
    rw [gX11_agrees_L105]
    refine me_iload_n (pc' := 106) (i := 1) dX11_agrees_105 rfl rfl rfl ?_
    refine me_aload_n (pc' := 107) (i := 0) dX11_agrees_106 rfl rfl rfl ?_
    refine me_getI (pc' := 110) dX11_agrees_107 rfl fkX11_35 (mm_St_ls ho) (mm_St_lsn ho) rfl ?_
    refine me_icmp_ge (pc' := 113) (tgt := 197) dX11_agrees_110 (by decide) rfl (fun c6 => ?_) (fun c6 => ?_)
    · refine me_aload_n (pc' := 198) (i := 0) dX11_agrees_197 rfl rfl rfl ?_
      refine me_getR (pc' := 201) (q' := 0) dX11_agrees_198 rfl fkX11_18 (mm_St_ls ho) (mm_St_lsn ho) rfl (mm_St_x ho) ?_
      refine me_callV (As := []) (st := []) (F' := (mm_Sq q)) (G' := (mm_Sq q)) (F'' := (mm_Sq q)) (pc' := 204) dX11_agrees_201 rfl mfX10_batchCount rfl lkX11_22 (mm_ks kd_0) rfl (mm_ltq kd_0) ⟨Nat.le_of_ble_eq_true rfl, Nat.le_of_ble_eq_true rfl⟩ (Nat.le_of_ble_eq_true rfl) (fun z => z) (rX10_batchCount (q := q) h5 ) (fun x7 e8 => Or.inl ⟨_, _, rfl, fun z => z, ?_⟩)
      show mm_E2 _ _ _ _ _ [.int x7] h5 _ _
      refine me_aload_n (pc' := 205) (i := 0) dX11_agrees_204 rfl rfl rfl ?_
      refine me_getI (pc' := 208) dX11_agrees_205 rfl fkX11_28 (mm_St_ls ho) (mm_St_lsn ho) rfl ?_
      refine me_icmp_ne (pc' := 211) (tgt := 239) dX11_agrees_208 (by decide) rfl (fun c9 => ?_) (fun c9 => ?_)
      · refine me_iconst (pc' := 240) (v := 0) dX11_agrees_239 rfl kc_i0 ?_
        exact me_zret (b := false) dX11_agrees_240 rfl (fun z => z) rfl
      · refine me_aload_n (pc' := 212) (i := 0) dX11_agrees_211 rfl rfl rfl ?_
        refine me_getR (pc' := 215) (q' := 0) dX11_agrees_212 rfl fkX11_18 (mm_St_ls ho) (mm_St_lsn ho) rfl (mm_St_x ho) ?_
        refine me_callV (As := []) (st := []) (F' := (mm_Sq q)) (G' := (mm_Sq q)) (F'' := (mm_Sq q)) (pc' := 218) dX11_agrees_215 rfl mfX10_reservationCount rfl lkX11_32 (mm_ks kd_0) rfl (mm_ltq kd_0) ⟨Nat.le_of_ble_eq_true rfl, Nat.le_of_ble_eq_true rfl⟩ (Nat.le_of_ble_eq_true rfl) (fun z => z) (rX10_reservationCount (q := q) h5 ) (fun x10 e11 => Or.inl ⟨_, _, rfl, fun z => z, ?_⟩)
        show mm_E2 _ _ _ _ _ [.int x10] h5 _ _
        refine me_aload_n (pc' := 219) (i := 0) dX11_agrees_218 rfl rfl rfl ?_
        refine me_getI (pc' := 222) dX11_agrees_219 rfl fkX11_35 (mm_St_ls ho) (mm_St_lsn ho) rfl ?_
        refine me_icmp_ne (pc' := 225) (tgt := 239) dX11_agrees_222 (by decide) rfl (fun c12 => ?_) (fun c12 => ?_)
        · refine me_iconst (pc' := 240) (v := 0) dX11_agrees_239 rfl kc_i0 ?_
          exact me_zret (b := false) dX11_agrees_240 rfl (fun z => z) rfl
        · refine me_aload_n (pc' := 226) (i := 0) dX11_agrees_225 rfl rfl rfl ?_
          refine me_getR (pc' := 229) (q' := 0) dX11_agrees_226 rfl fkX11_18 (mm_St_ls ho) (mm_St_lsn ho) rfl (mm_St_x ho) ?_
          refine me_callV (As := []) (st := []) (F' := (mm_Sq q)) (G' := (mm_Sq q)) (F'' := (mm_Sq q)) (pc' := 232) dX11_agrees_229 rfl mfX10_inconsistencies rfl lkX11_76 (mm_ks kd_0) rfl (mm_ltq kd_0) ⟨Nat.le_of_ble_eq_true rfl, Nat.le_of_ble_eq_true rfl⟩ (Nat.le_of_ble_eq_true rfl) (fun z => z) (rX10_inconsistencies (q := q) h5 ) (fun x13 e14 => Or.inl ⟨_, _, rfl, fun z => z, ?_⟩)
          show mm_E2 _ _ _ _ _ [.int x13] h5 _ _
          refine me_if_ne (pc' := 235) (tgt := 239) dX11_agrees_232 (by decide) rfl (fun c15 => ?_) (fun c15 => ?_)
          · refine me_iconst (pc' := 240) (v := 0) dX11_agrees_239 rfl kc_i0 ?_
            exact me_zret (b := false) dX11_agrees_240 rfl (fun z => z) rfl
          · refine me_iconst (pc' := 236) (v := 1) dX11_agrees_235 rfl kc_i1 ?_
            refine me_goto (tgt := 240) dX11_agrees_236 (by decide) ?_
            exact me_zret (b := true) dX11_agrees_240 rfl (fun z => z) rfl
    · refine me_iconst (pc' := 114) (v := 0) dX11_agrees_113 rfl kc_i0 ?_
      refine me_istore_n (pc' := 115) (i := 2) (L' := [some (.ref o), some (.int w4), some (.int 0), none]) dX11_agrees_114 rfl rfl (Nat.le_of_ble_eq_true rfl) (Nat.le_of_ble_eq_true rfl) rfl ?_
      refine me_iconst (pc' := 116) (v := 0) dX11_agrees_115 rfl kc_i0 ?_
      refine me_istore_n (pc' := 117) (i := 3) (L' := [some (.ref o), some (.int w4), some (.int 0), some (.int 0)]) dX11_agrees_116 rfl rfl (Nat.le_of_ble_eq_true rfl) (Nat.le_of_ble_eq_true rfl) rfl ?_
      refine mm_jnI (fun (j179 : Int32 → Option ((Bool ⊕ String) × mm_H)) => ∀ (y16 : Int32), mm_E2 (mm_Sq q) (mm_Sq q) mX11_agrees 142 [some (.ref o), some (.int w4), some (.int y16), none] [] h5 (j179 y16) lf_zt) ?_ (fun j17 j17p => ?_)
      · intro y16
        refine me_aload_n (pc' := 143) (i := 0) dX11_agrees_142 rfl rfl rfl ?_
        refine me_getR (pc' := 146) (q' := 0) dX11_agrees_143 rfl fkX11_18 (mm_St_ls ho) (mm_St_lsn ho) rfl (mm_St_x ho) ?_
        refine me_iload_n (pc' := 147) (i := 1) dX11_agrees_146 rfl rfl rfl ?_
        refine me_callV (As := [.int w4]) (st := []) (F' := (mm_Sq q)) (G' := (mm_Sq q)) (F'' := (mm_Sq q)) (pc' := 150) dX11_agrees_147 rfl mfX10_missing rfl lkX11_70 (mm_ks kd_0) rfl (mm_ltq kd_0) ⟨Nat.le_of_ble_eq_true rfl, Nat.le_of_ble_eq_true rfl⟩ (Nat.le_of_ble_eq_true rfl) (fun z => z) (rX10_missing (q := q) w4 h5 ) (fun x18 e19 => ?_)
        rcases x18 with ⟨v20 | E22, h21⟩
        · refine Or.inl ⟨_, _, rfl, fun z => z, ?_⟩
          show mm_E2 _ _ _ _ _ [.int v20] h21 _ _
          try dsimp only
          refine me_aload_n (pc' := 151) (i := 0) dX11_agrees_150 rfl rfl rfl ?_
          refine me_getR (pc' := 154) (q' := 0) dX11_agrees_151 rfl fkX11_18 (mm_St_ls ho) (mm_St_lsn ho) rfl (mm_St_x ho) ?_
          refine me_iload_n (pc' := 155) (i := 1) dX11_agrees_154 rfl rfl rfl ?_
          refine me_callV (As := [.int w4]) (st := [.int v20]) (F' := (mm_Sq q)) (G' := (mm_Sq q)) (F'' := (mm_Sq q)) (pc' := 158) dX11_agrees_155 rfl mfX10_isOpen rfl lkX11_45 (mm_ks kd_0) rfl (mm_ltq kd_0) ⟨Nat.le_of_ble_eq_true rfl, Nat.le_of_ble_eq_true rfl⟩ (Nat.le_of_ble_eq_true rfl) (fun z => z) (rX10_isOpen (q := q) w4 h21 ) (fun x23 e24 => ?_)
          rcases x23 with ⟨v25 | E27, h26⟩
          · refine Or.inl ⟨_, _, rfl, fun z => z, ?_⟩
            show mm_E2 _ _ _ _ _ [.int (mx_bi v25), .int v20] h26 _ _
            try dsimp only
            refine mm_jnI (fun (j319 : Int32 → Int32 → mm_H → Option ((Bool ⊕ String) × mm_H)) => ∀ (y28 : Int32) (y29 : Int32) (h30 : mm_H), mm_E2 (mm_Sq q) (mm_Sq q) mX11_agrees 175 [some (.ref o), some (.int w4), none, none] [.int y28, .int y29] h30 (j319 y28 y29 h30) lf_zt) ?_ (fun j31 j31p => ?_)
            · intro y28 y29 h30
              refine me_icmp_ne (pc' := 178) (tgt := 189) dX11_agrees_175 (by decide) rfl (fun c32 => ?_) (fun c32 => ?_)
              · refine me_iconst (pc' := 190) (v := 0) dX11_agrees_189 rfl kc_i0 ?_
                exact me_zret (b := false) dX11_agrees_190 rfl (fun z => z) rfl
              · refine me_aload_n (pc' := 179) (i := 0) dX11_agrees_178 rfl rfl rfl ?_
                refine me_getR (pc' := 182) (q' := 0) dX11_agrees_179 rfl fkX11_18 (mm_St_ls ho) (mm_St_lsn ho) rfl (mm_St_x ho) ?_
                refine me_iload_n (pc' := 183) (i := 1) dX11_agrees_182 rfl rfl rfl ?_
                refine me_callV (As := [.int w4]) (st := []) (F' := (mm_Sq q)) (G' := (mm_Sq q)) (F'' := (mm_Sq q)) (pc' := 186) dX11_agrees_183 rfl mfX10_missing rfl lkX11_70 (mm_ks kd_0) rfl (mm_ltq kd_0) ⟨Nat.le_of_ble_eq_true rfl, Nat.le_of_ble_eq_true rfl⟩ (Nat.le_of_ble_eq_true rfl) (fun z => z) (rX10_missing (q := q) w4 h30 ) (fun x33 e34 => ?_)
                rcases x33 with ⟨v35 | E37, h36⟩
                · refine Or.inl ⟨_, _, rfl, fun z => z, ?_⟩
                  show mm_E2 _ _ _ _ _ [.int v35] h36 _ _
                  try dsimp only
                  refine me_if_ge (pc' := 189) (tgt := 191) dX11_agrees_186 (by decide) rfl (fun c38 => ?_) (fun c38 => ?_)
                  · refine me_iinc (pc' := 194) (i := 1) (x := w4) (y := w4 + 1) (L' := [some (.ref o), some (.int (w4 + 1)), none, none]) dX11_agrees_191 rfl (Nat.le_of_ble_eq_true rfl) (Nat.le_of_ble_eq_true rfl) rfl (kc_plus kc_i1) rfl ?_
                    refine mm_bnd (w4 + 1) (fun x39 => [some (.ref o), some (.int x39), none, none]) (fun _ => []) (fun _ => h36) (fun x39 => ?_)
                    refine me_goto (tgt := 105) dX11_agrees_194 (by decide) ?_
                    exact ih x39 h36
                  · refine me_iconst (pc' := 190) (v := 0) dX11_agrees_189 rfl kc_i0 ?_
                    exact me_zret (b := false) dX11_agrees_190 rfl (fun z => z) rfl
                · exact Or.inr ⟨_, _, rfl, rfl, fun z => z, fun y9 hy9 => by rw [← Option.some.inj hy9]; rfl⟩
            refine me_ifB_eq (pc' := 161) (tgt := 174) dX11_agrees_158 (by decide) rfl (fun c40 => ?_) (fun c40 => ?_)
            · refine me_iconst (pc' := 175) (v := 0) dX11_agrees_174 rfl kc_i0 ?_
              exact mm_maskB [true, true, false, false] (j31p 0 v20 h26)
            · refine me_aload_n (pc' := 162) (i := 0) dX11_agrees_161 rfl rfl rfl ?_
              refine me_getR (pc' := 165) (q' := 0) dX11_agrees_162 rfl fkX11_18 (mm_St_ls ho) (mm_St_lsn ho) rfl (mm_St_x ho) ?_
              refine me_iload_n (pc' := 166) (i := 1) dX11_agrees_165 rfl rfl rfl ?_
              refine me_callV (As := [.int w4]) (st := [.int v20]) (F' := (mm_Sq q)) (G' := (mm_Sq q)) (F'' := (mm_Sq q)) (pc' := 169) dX11_agrees_166 rfl mfX10_reservedQuantity rfl lkX11_73 (mm_ks kd_0) rfl (mm_ltq kd_0) ⟨Nat.le_of_ble_eq_true rfl, Nat.le_of_ble_eq_true rfl⟩ (Nat.le_of_ble_eq_true rfl) (fun z => z) (rX10_reservedQuantity (q := q) w4 h26 ) (fun x41 e42 => ?_)
              rcases x41 with ⟨v43 | E45, h44⟩
              · refine Or.inl ⟨_, _, rfl, fun z => z, ?_⟩
                show mm_E2 _ _ _ _ _ [.int v43, .int v20] h44 _ _
                try dsimp only
                refine me_iload_n (pc' := 170) (i := 2) dX11_agrees_169 rfl rfl rfl ?_
                refine me_isub (pc' := 171) dX11_agrees_170 rfl ?_
                refine me_goto (tgt := 175) dX11_agrees_171 (by decide) ?_
                exact mm_maskB [true, true, false, false] (j31p ((v43 - y16)) v20 h44)
              · exact Or.inr ⟨_, _, rfl, rfl, fun z => z, fun y9 hy9 => by rw [← Option.some.inj hy9]; rfl⟩
          · exact Or.inr ⟨_, _, rfl, rfl, fun z => z, fun y9 hy9 => by rw [← Option.some.inj hy9]; rfl⟩
        · exact Or.inr ⟨_, _, rfl, rfl, fun z => z, fun y9 hy9 => by rw [← Option.some.inj hy9]; rfl⟩
      exact rX11_agrees_L117 (q := q) o w4 j17 h5 ho j17p mm_F 0 0
theorem rX11_agrees_L61 {q : mm_q} (o : Nat) (u83 : Int32) (k : mm_H → Option ((Bool ⊕ String) × mm_H))  (ho : mm_St q o) (kp : ∀ (h86 : mm_H), mm_E2 (mm_Sq q) (mm_Sq q) mX11_agrees 97 [some (.ref o), some (.int u83), none, none] [] h86 (k h86) lf_zt) : ∀ (n : Nat) (w84 : Int32) (h85 : mm_H), mm_E2 (mm_Sq q) (mm_Sq q) mX11_agrees 61 [some (.ref o), some (.int u83), some (.int w84), none] [] h85 (gX11_agrees_L61 o u83 k  n w84 h85) lf_zt := by
  intro n
  induction n with
  | zero =>
    intro w84 h85
    exact mm_none
  | succ n ih =>
    intro w84 h85
    rw [gX11_agrees_L61]
    refine me_iload_n (pc' := 62) (i := 2) dX11_agrees_61 rfl rfl rfl ?_
    refine me_aload_n (pc' := 63) (i := 0) dX11_agrees_62 rfl rfl rfl ?_
    refine me_getI (pc' := 66) dX11_agrees_63 rfl fkX11_35 (mm_St_ls ho) (mm_St_lsn ho) rfl ?_
    refine me_icmp_ge (pc' := 69) (tgt := 97) dX11_agrees_66 (by decide) rfl (fun c87 => ?_) (fun c87 => ?_)
    · exact mm_maskB [true, true, false, false] (kp h85)
    · refine me_aload_n (pc' := 70) (i := 0) dX11_agrees_69 rfl rfl rfl ?_
      refine me_getR (pc' := 73) (q' := 0) dX11_agrees_70 rfl fkX11_18 (mm_St_ls ho) (mm_St_lsn ho) rfl (mm_St_x ho) ?_
      refine me_iload_n (pc' := 74) (i := 2) dX11_agrees_73 rfl rfl rfl ?_
      refine me_iload_n (pc' := 75) (i := 1) dX11_agrees_74 rfl rfl rfl ?_
      refine me_callV (As := [.int w84, .int u83]) (st := []) (F' := (mm_Sq q)) (G' := (mm_Sq q)) (F'' := (mm_Sq q)) (pc' := 78) dX11_agrees_75 rfl mfX10_allocation rfl lkX11_41 (mm_ks kd_0) rfl (mm_ltq kd_0) ⟨Nat.le_of_ble_eq_true rfl, Nat.le_of_ble_eq_true rfl⟩ (Nat.le_of_ble_eq_true rfl) (fun z => z) (rX10_allocation (q := q) w84 u83 h85 ) (fun x88 e89 => ?_)
      rcases x88 with ⟨v90 | E92, h91⟩
      · refine Or.inl ⟨_, _, rfl, fun z => z, ?_⟩
        show mm_E2 _ _ _ _ _ [.int v90] h91 _ _
        try dsimp only
        refine me_aload_n (pc' := 79) (i := 0) dX11_agrees_78 rfl rfl rfl ?_
        refine me_getR (pc' := 82) (q' := (o + 2)) dX11_agrees_79 rfl fkX11_15 (mm_St_ls ho) (mm_St_lsn ho) rfl (mm_St_2 ho) ?_
        refine me_iload_n (pc' := 83) (i := 2) dX11_agrees_82 rfl rfl rfl ?_
        refine mm_guard (fun c93 => ?_)
        refine me_aaldA (pc' := 84) (q' := (o + 3 + (Int32.toNatClampNeg (w84)))) dX11_agrees_83 rfl (mm_St_lp ho) (mm_St_lpn ho) (mm_ibd_of c93) (mm_St_r (mm_ibd_of c93) ho) ?_
        refine me_iload_n (pc' := 85) (i := 1) dX11_agrees_84 rfl rfl rfl ?_
        refine mm_guard (fun c94 => ?_)
        refine me_iald (pc' := 86) dX11_agrees_85 rfl (mm_St_lr (mm_ibd_of c93) ho) (mm_St_lrn (mm_ibd_of c93) ho) (mm_ibd_of c94) ?_
        refine me_icmp_eq (pc' := 89) (tgt := 91) dX11_agrees_86 (by decide) rfl (fun c95 => ?_) (fun c95 => ?_)
        · refine me_iinc (pc' := 94) (i := 2) (x := w84) (y := w84 + 1) (L' := [some (.ref o), some (.int u83), some (.int (w84 + 1)), none]) dX11_agrees_91 rfl (Nat.le_of_ble_eq_true rfl) (Nat.le_of_ble_eq_true rfl) rfl (kc_plus kc_i1) rfl ?_
          refine mm_bnd (w84 + 1) (fun x96 => [some (.ref o), some (.int u83), some (.int x96), none]) (fun _ => []) (fun _ => h91) (fun x96 => ?_)
          refine me_goto (tgt := 61) dX11_agrees_94 (by decide) ?_
          exact ih x96 h91
        · refine me_iconst (pc' := 90) (v := 0) dX11_agrees_89 rfl kc_i0 ?_
          exact me_zret (b := false) dX11_agrees_90 rfl (fun z => z) rfl
      · exact Or.inr ⟨_, _, rfl, rfl, fun z => z, fun y9 hy9 => by rw [← Option.some.inj hy9]; rfl⟩
theorem rX11_agrees_L2 {q : mm_q} (o : Nat)    (ho : mm_St q o) : ∀ (n : Nat) (w1 : Int32) (h2 : mm_H), mm_E2 (mm_Sq q) (mm_Sq q) mX11_agrees 2 [some (.ref o), some (.int w1), none, none] [] h2 (gX11_agrees_L2 o  n w1 h2) lf_zt := by
  intro n
  induction n with
  | zero =>
    intro w1 h2
    exact mm_none
  | succ n ih =>
    intro w1 h2
    rw [gX11_agrees_L2]
    refine me_iload_n (pc' := 3) (i := 1) dX11_agrees_2 rfl rfl rfl ?_
    refine me_aload_n (pc' := 4) (i := 0) dX11_agrees_3 rfl rfl rfl ?_
    refine me_getI (pc' := 7) dX11_agrees_4 rfl fkX11_28 (mm_St_ls ho) (mm_St_lsn ho) rfl ?_
    refine me_icmp_ge (pc' := 10) (tgt := 103) dX11_agrees_7 (by decide) rfl (fun c3 => ?_) (fun c3 => ?_)
    · refine me_iconst (pc' := 104) (v := 0) dX11_agrees_103 rfl kc_i0 ?_
      refine me_istore_n (pc' := 105) (i := 1) (L' := [some (.ref o), some (.int 0), none, none]) dX11_agrees_104 rfl rfl (Nat.le_of_ble_eq_true rfl) (Nat.le_of_ble_eq_true rfl) rfl ?_
      exact rX11_agrees_L105 (q := q) o ho mm_F 0 h2
    · refine me_aload_n (pc' := 11) (i := 0) dX11_agrees_10 rfl rfl rfl ?_
      refine me_getR (pc' := 14) (q' := 0) dX11_agrees_11 rfl fkX11_18 (mm_St_ls ho) (mm_St_lsn ho) rfl (mm_St_x ho) ?_
      refine me_iload_n (pc' := 15) (i := 1) dX11_agrees_14 rfl rfl rfl ?_
      refine me_callV (As := [.int w1]) (st := []) (F' := (mm_Sq q)) (G' := (mm_Sq q)) (F'' := (mm_Sq q)) (pc' := 18) dX11_agrees_15 rfl mfX10_quantity rfl lkX11_38 (mm_ks kd_0) rfl (mm_ltq kd_0) ⟨Nat.le_of_ble_eq_true rfl, Nat.le_of_ble_eq_true rfl⟩ (Nat.le_of_ble_eq_true rfl) (fun z => z) (rX10_quantity (q := q) w1 h2 ) (fun x55 e56 => ?_)
      rcases x55 with ⟨v57 | E59, h58⟩
      · refine Or.inl ⟨_, _, rfl, fun z => z, ?_⟩
        show mm_E2 _ _ _ _ _ [.int v57] h58 _ _
        try dsimp only
        refine me_aload_n (pc' := 19) (i := 0) dX11_agrees_18 rfl rfl rfl ?_
        refine me_getR (pc' := 22) (q' := (o + 1)) dX11_agrees_19 rfl fkX11_7 (mm_St_ls ho) (mm_St_lsn ho) rfl (mm_St_1 ho) ?_
        refine me_iload_n (pc' := 23) (i := 1) dX11_agrees_22 rfl rfl rfl ?_
        refine mm_guard (fun c60 => ?_)
        refine me_iald (pc' := 24) dX11_agrees_23 rfl (mm_St_lq ho) (mm_St_lqn ho) (mm_ibd_of c60) ?_
        refine me_icmp_ne (pc' := 27) (tgt := 57) dX11_agrees_24 (by decide) rfl (fun c61 => ?_) (fun c61 => ?_)
        · refine me_iconst (pc' := 58) (v := 0) dX11_agrees_57 rfl kc_i0 ?_
          exact me_zret (b := false) dX11_agrees_58 rfl (fun z => z) rfl
        · refine me_aload_n (pc' := 28) (i := 0) dX11_agrees_27 rfl rfl rfl ?_
          refine me_getR (pc' := 31) (q' := 0) dX11_agrees_28 rfl fkX11_18 (mm_St_ls ho) (mm_St_lsn ho) rfl (mm_St_x ho) ?_
          refine me_iload_n (pc' := 32) (i := 1) dX11_agrees_31 rfl rfl rfl ?_
          refine me_callV (As := [.int w1]) (st := []) (F' := (mm_Sq q)) (G' := (mm_Sq q)) (F'' := (mm_Sq q)) (pc' := 35) dX11_agrees_32 rfl mfX10_reservedOf rfl lkX11_67 (mm_ks kd_0) rfl (mm_ltq kd_0) ⟨Nat.le_of_ble_eq_true rfl, Nat.le_of_ble_eq_true rfl⟩ (Nat.le_of_ble_eq_true rfl) (fun z => z) (rX10_reservedOf (q := q) w1 h58 ) (fun x62 e63 => ?_)
          rcases x62 with ⟨v64 | E66, h65⟩
          · refine Or.inl ⟨_, _, rfl, fun z => z, ?_⟩
            show mm_E2 _ _ _ _ _ [.int v64] h65 _ _
            try dsimp only
            refine me_aload_n (pc' := 36) (i := 0) dX11_agrees_35 rfl rfl rfl ?_
            refine me_iload_n (pc' := 37) (i := 1) dX11_agrees_36 rfl rfl rfl ?_
            refine me_callV (As := [.int w1]) (st := [.int v64]) (F' := (mm_Sq q)) (G' := (mm_Sq q)) (F'' := (mm_Sq q)) (pc' := 40) dX11_agrees_37 rfl mfX11_held rfl lkX11_55 (mm_St_ls ho) rfl (mm_St_lsn ho) ⟨Nat.le_of_ble_eq_true rfl, Nat.le_of_ble_eq_true rfl⟩ (Nat.le_of_ble_eq_true rfl) (fun z => z) (rX11_held (q := q) o w1 h65 ho) (fun x67 e68 => ?_)
            rcases x67 with ⟨v69 | E71, h70⟩
            · refine Or.inl ⟨_, _, rfl, fun z => z, ?_⟩
              show mm_E2 _ _ _ _ _ [.int v69, .int v64] h70 _ _
              try dsimp only
              refine me_icmp_ne (pc' := 43) (tgt := 57) dX11_agrees_40 (by decide) rfl (fun c72 => ?_) (fun c72 => ?_)
              · refine me_iconst (pc' := 58) (v := 0) dX11_agrees_57 rfl kc_i0 ?_
                exact me_zret (b := false) dX11_agrees_58 rfl (fun z => z) rfl
              · refine me_aload_n (pc' := 44) (i := 0) dX11_agrees_43 rfl rfl rfl ?_
                refine me_getR (pc' := 47) (q' := (o + 1)) dX11_agrees_44 rfl fkX11_7 (mm_St_ls ho) (mm_St_lsn ho) rfl (mm_St_1 ho) ?_
                refine me_iload_n (pc' := 48) (i := 1) dX11_agrees_47 rfl rfl rfl ?_
                refine mm_guard (fun c73 => ?_)
                refine me_iald (pc' := 49) dX11_agrees_48 rfl (mm_St_lq ho) (mm_St_lqn ho) (mm_ibd_of c73) ?_
                refine me_aload_n (pc' := 50) (i := 0) dX11_agrees_49 rfl rfl rfl ?_
                refine me_iload_n (pc' := 51) (i := 1) dX11_agrees_50 rfl rfl rfl ?_
                refine me_callV (As := [.int w1]) (st := [.int (mh_I h70 (o + 1) (Int32.toNatClampNeg (w1)))]) (F' := (mm_Sq q)) (G' := (mm_Sq q)) (F'' := (mm_Sq q)) (pc' := 54) dX11_agrees_51 rfl mfX11_held rfl lkX11_55 (mm_St_ls ho) rfl (mm_St_lsn ho) ⟨Nat.le_of_ble_eq_true rfl, Nat.le_of_ble_eq_true rfl⟩ (Nat.le_of_ble_eq_true rfl) (fun z => z) (rX11_held (q := q) o w1 h70 ho) (fun x74 e75 => ?_)
                rcases x74 with ⟨v76 | E78, h77⟩
                · refine Or.inl ⟨_, _, rfl, fun z => z, ?_⟩
                  show mm_E2 _ _ _ _ _ [.int v76, .int (mh_I h70 (o + 1) (Int32.toNatClampNeg (w1)))] h77 _ _
                  try dsimp only
                  refine me_icmp_ge (pc' := 57) (tgt := 59) dX11_agrees_54 (by decide) rfl (fun c79 => ?_) (fun c79 => ?_)
                  · refine me_iconst (pc' := 60) (v := 0) dX11_agrees_59 rfl kc_i0 ?_
                    refine me_istore_n (pc' := 61) (i := 2) (L' := [some (.ref o), some (.int w1), some (.int 0), none]) dX11_agrees_60 rfl rfl (Nat.le_of_ble_eq_true rfl) (Nat.le_of_ble_eq_true rfl) rfl ?_
                    refine mm_jnI (fun (j819 : mm_H → Option ((Bool ⊕ String) × mm_H)) => ∀ (h80 : mm_H), mm_E2 (mm_Sq q) (mm_Sq q) mX11_agrees 97 [some (.ref o), some (.int w1), none, none] [] h80 (j819 h80) lf_zt) ?_ (fun j81 j81p => ?_)
                    · intro h80
                      refine me_iinc (pc' := 100) (i := 1) (x := w1) (y := w1 + 1) (L' := [some (.ref o), some (.int (w1 + 1)), none, none]) dX11_agrees_97 rfl (Nat.le_of_ble_eq_true rfl) (Nat.le_of_ble_eq_true rfl) rfl (kc_plus kc_i1) rfl ?_
                      refine mm_bnd (w1 + 1) (fun x82 => [some (.ref o), some (.int x82), none, none]) (fun _ => []) (fun _ => h80) (fun x82 => ?_)
                      refine me_goto (tgt := 2) dX11_agrees_100 (by decide) ?_
                      exact ih x82 h80
                    exact rX11_agrees_L61 (q := q) o w1 j81 ho j81p mm_F 0 h77
                  · refine me_iconst (pc' := 58) (v := 0) dX11_agrees_57 rfl kc_i0 ?_
                    exact me_zret (b := false) dX11_agrees_58 rfl (fun z => z) rfl
                · exact Or.inr ⟨_, _, rfl, rfl, fun z => z, fun y9 hy9 => by rw [← Option.some.inj hy9]; rfl⟩
            · exact Or.inr ⟨_, _, rfl, rfl, fun z => z, fun y9 hy9 => by rw [← Option.some.inj hy9]; rfl⟩
          · exact Or.inr ⟨_, _, rfl, rfl, fun z => z, fun y9 hy9 => by rw [← Option.some.inj hy9]; rfl⟩
      · exact Or.inr ⟨_, _, rfl, rfl, fun z => z, fun y9 hy9 => by rw [← Option.some.inj hy9]; rfl⟩
theorem rX11_agrees {q : mm_q} (o : Nat) (h : mm_H) (ho : mm_St q o) : mm_R2 (mm_Sq q) (mm_Sq q) mX11_agrees [.ref o] h (gX11_agrees o h) lf_zt := by
  refine mm_body (L := [some (.ref o), none, none, none]) rfl (by decide +kernel) (Nat.le_of_ble_eq_true rfl) rfl ?_
  unfold gX11_agrees
  refine me_iconst (pc' := 1) (v := 0) dX11_agrees_0 rfl kc_i0 ?_
  refine me_istore_n (pc' := 2) (i := 1) (L' := [some (.ref o), some (.int 0), none, none]) dX11_agrees_1 rfl rfl (Nat.le_of_ble_eq_true rfl) (Nat.le_of_ble_eq_true rfl) rfl ?_
  exact rX11_agrees_L2 (q := q) o ho mm_F 0 h
def gL_pick (p1 : Int32) (p2 : Int32) (h : mm_H) : Option Int32 :=
if p1 < (mh_I h 400 0) then
if mm_isb p1 (mh_I h 400 0) = true then
if p2 = 0 then none else
some ((((mh_I h 400 (Int32.toNatClampNeg p1 + 1)) &&& 2147483647) - ((mh_I h 400 (Int32.toNatClampNeg p1 + 1)) &&& 2147483647) / p2 * p2)) else none
else
some 0
theorem rL_pick {q : mm_q} (p1 : Int32) (p2 : Int32) (h : mm_H) : mm_R2 (mm_Sq q) (mm_Sq q) mL_pick [.ref 400, .int p1, .int p2] h (gL_pick p1 p2 h) (lf_i h) := by
  refine mm_body (L := [some (.ref 400), some (.int p1), some (.int p2)]) rfl (by decide +kernel) (Nat.le_of_ble_eq_true rfl) rfl ?_
  unfold gL_pick
  refine me_iload_n (pc' := 1) (i := 1) dL_pick_0 rfl rfl rfl ?_
  refine me_aload_n (pc' := 2) (i := 0) dL_pick_1 rfl rfl rfl ?_
  refine me_scln (pc' := 3) dL_pick_2 rfl ?_
  refine me_icmp_ge (pc' := 6) (tgt := 17) dL_pick_3 (by decide) rfl (fun c1 => ?_) (fun c1 => ?_)
  · refine me_iconst (pc' := 18) (v := 0) dL_pick_17 rfl kc_i0 ?_
    exact me_iret dL_pick_18 rfl (fun z => z) rfl
  · refine me_aload_n (pc' := 7) (i := 0) dL_pick_6 rfl rfl rfl ?_
    refine me_iload_n (pc' := 8) (i := 1) dL_pick_7 rfl rfl rfl ?_
    refine mm_guard (fun c2 => ?_)
    refine me_scld (pc' := 9) dL_pick_8 rfl c2 ?_
    refine me_ldcI (pc' := 11) (v := 2147483647) dL_pick_9 rfl (mm_gw_of (List.mem_of_getElem? (i := 986) (by decide +kernel)) rfl) ?_
    refine me_iand (pc' := 12) dL_pick_11 rfl ?_
    refine me_iload_n (pc' := 13) (i := 2) dL_pick_12 rfl rfl rfl ?_
    refine mm_if (fun _ => mm_none) (fun c3 => ?_)
    refine me_irem (pc' := 14) dL_pick_13 rfl c3 ?_
    refine me_goto (tgt := 18) dL_pick_14 (by decide) ?_
    exact me_iret dL_pick_18 rfl (fun z => z) rfl
def gL_word_L4 (p0 : Nat) (u1 : Int32) (h : mm_H) : Nat → Int32 → Int32 → Option Int32
  | 0, _, _ => none
  | n + 1, w2, w3 =>
    if w3 < (u1 + 4) then
    if mh_I h p0 1 = 0 then
    mm_jn (fun (y6 : Int32) (y7 : Int32) =>
    (some ((y7 ||| y6))).bind (fun (x9 : Int32) =>
    (some (w3 + 1)).bind (fun (x10 : Int32) =>
    gL_word_L4 p0 u1 h n x9 x10))) (fun (j8 : Int32 → Int32 → Option Int32) =>
    if w3 < (nI (mh_D h (p0 + 1) 1)) then
    if mh_I h p0 1 = 0 ∧ mm_ibd w3 (mh_D h (p0 + 1) 1) = true then
    j8 ((mh_I h (p0 + 1) (Int32.toNatClampNeg w3) &&& 255)) ((w2 <<< (8 &&& 31))) else none
    else
    j8 32 ((w2 <<< (8 &&& 31)))) else none
    else
    some w2
def gL_word (p0 : Nat) (p1 : Int32) (h : mm_H) : Option Int32 :=
gL_word_L4 p0 p1 h mm_F 0 p1
theorem rL_word_L4 {q : mm_q} (p0 : Nat) (u1 : Int32)  (h : mm_H) (hp0 : mm_Tx q p0) : ∀ (n : Nat) (w2 : Int32) (w3 : Int32), mm_E2 (mm_Sq q) (mm_Sq q) mL_word 4 [some (.ref p0), some (.int u1), some (.int w2), some (.int w3)] [] h (gL_word_L4 p0 u1 h n w2 w3) (lf_i h) := by
  intro n
  induction n with
  | zero =>
    intro w2 w3
    exact mm_none
  | succ n ih =>
    intro w2 w3
    rw [gL_word_L4]
    refine me_iload_n (pc' := 5) (i := 3) dL_word_4 rfl rfl rfl ?_
    refine me_iload_n (pc' := 6) (i := 1) dL_word_5 rfl rfl rfl ?_
    refine me_iconst (pc' := 7) (v := 4) dL_word_6 rfl kc_i4 ?_
    refine me_iadd (pc' := 8) dL_word_7 rfl ?_
    refine me_icmp_ge (pc' := 11) (tgt := 41) dL_word_8 (by decide) rfl (fun c4 => ?_) (fun c4 => ?_)
    · refine me_iload_n (pc' := 42) (i := 2) dL_word_41 rfl rfl rfl ?_
      exact me_iret dL_word_42 rfl (fun z => z) rfl
    · refine me_iload_n (pc' := 12) (i := 2) dL_word_11 rfl rfl rfl ?_
      refine me_bipush (pc' := 14) (v := 8) dL_word_12 rfl kc_b8 ?_
      refine me_ishl (pc' := 15) dL_word_14 rfl ?_
      refine me_iload_n (pc' := 16) (i := 3) dL_word_15 rfl rfl rfl ?_
      refine me_aload_n (pc' := 17) (i := 0) dL_word_16 rfl rfl rfl ?_
      refine mm_guard (fun c5 => ?_)
      refine me_tlenD (pc' := 20) dL_word_17 rfl ljL_8 hp0 c5 ⟨Nat.le_of_ble_eq_true rfl, Nat.le_of_ble_eq_true rfl⟩ (Nat.le_of_ble_eq_true rfl) ?_
      refine mm_jnI (fun (j89 : Int32 → Int32 → Option Int32) => ∀ (y6 : Int32) (y7 : Int32), mm_E2 (mm_Sq q) (mm_Sq q) mL_word 33 [some (.ref p0), some (.int u1), none, some (.int w3)] [.int y6, .int y7] h (j89 y6 y7) (lf_i h)) ?_ (fun j8 j8p => ?_)
      · intro y6 y7
        refine me_ior (pc' := 34) dL_word_33 rfl ?_
        refine mm_bnd ((y7 ||| y6)) (fun x9 => [some (.ref p0), some (.int u1), none, some (.int w3)]) (fun x9 => [.int x9]) (fun _ => h) (fun x9 => ?_)
        refine me_istore_n (pc' := 35) (i := 2) (L' := [some (.ref p0), some (.int u1), some (.int x9), some (.int w3)]) dL_word_34 rfl rfl (Nat.le_of_ble_eq_true rfl) (Nat.le_of_ble_eq_true rfl) rfl ?_
        refine me_iinc (pc' := 38) (i := 3) (x := w3) (y := w3 + 1) (L' := [some (.ref p0), some (.int u1), some (.int x9), some (.int (w3 + 1))]) dL_word_35 rfl (Nat.le_of_ble_eq_true rfl) (Nat.le_of_ble_eq_true rfl) rfl (kc_plus kc_i1) rfl ?_
        refine mm_bnd (w3 + 1) (fun x10 => [some (.ref p0), some (.int u1), some (.int x9), some (.int x10)]) (fun _ => []) (fun _ => h) (fun x10 => ?_)
        refine me_goto (tgt := 4) dL_word_38 (by decide) ?_
        exact ih x9 x10
      refine me_icmp_ge (pc' := 23) (tgt := 31) dL_word_20 (by decide) rfl (fun c11 => ?_) (fun c11 => ?_)
      · refine me_bipush (pc' := 33) (v := 32) dL_word_31 rfl kc_b32 ?_
        exact mm_maskB [true, true, false, true] (j8p 32 ((w2 <<< (8 &&& 31))))
      · refine me_aload_n (pc' := 24) (i := 0) dL_word_23 rfl rfl rfl ?_
        refine me_iload_n (pc' := 25) (i := 3) dL_word_24 rfl rfl rfl ?_
        refine mm_guard (fun c12 => ?_)
        refine me_tcharD (pc' := 28) dL_word_25 rfl ljL_14 hp0 c12.1 (mm_ibd_of c12.2) ⟨Nat.le_of_ble_eq_true rfl, Nat.le_of_ble_eq_true rfl⟩ (Nat.le_of_ble_eq_true rfl) ?_
        refine me_goto (tgt := 33) dL_word_28 (by decide) ?_
        exact mm_maskB [true, true, false, true] (j8p ((mh_I h (p0 + 1) (Int32.toNatClampNeg w3) &&& 255)) ((w2 <<< (8 &&& 31))))
theorem rL_word {q : mm_q} (p0 : Nat) (p1 : Int32) (h : mm_H) (hp0 : mm_Tx q p0) : mm_R2 (mm_Sq q) (mm_Sq q) mL_word [.ref p0, .int p1] h (gL_word p0 p1 h) (lf_i h) := by
  refine mm_body (L := [some (.ref p0), some (.int p1), none, none]) rfl (by decide +kernel) (Nat.le_of_ble_eq_true rfl) rfl ?_
  unfold gL_word
  refine me_iconst (pc' := 1) (v := 0) dL_word_0 rfl kc_i0 ?_
  refine me_istore_n (pc' := 2) (i := 2) (L' := [some (.ref p0), some (.int p1), some (.int 0), none]) dL_word_1 rfl rfl (Nat.le_of_ble_eq_true rfl) (Nat.le_of_ble_eq_true rfl) rfl ?_
  refine me_iload_n (pc' := 3) (i := 1) dL_word_2 rfl rfl rfl ?_
  refine me_istore_n (pc' := 4) (i := 3) (L' := [some (.ref p0), some (.int p1), some (.int 0), some (.int p1)]) dL_word_3 rfl rfl (Nat.le_of_ble_eq_true rfl) (Nat.le_of_ble_eq_true rfl) rfl ?_
  exact rL_word_L4 (q := q) p0 p1 h hp0 mm_F 0 p1
def gL_say_L8 (p1 : Nat) : Nat → Int32 → mm_H → Option ((Bool ⊕ String) × mm_H)
  | 0, _, _ => none
  | n + 1, w6, h7 =>
    if mh_I h7 p1 1 = 0 then
    if w6 < (nI (mh_D h7 (p1 + 1) 1)) then
    (gL_word p1 w6 h7).bind (fun (x18 : Int32) =>
    (gL_word p1 ((w6 + 4)) h7).bind (fun (x20 : Int32) =>
    (gL_word p1 ((w6 + 8)) h7).bind (fun (x22 : Int32) =>
    (gL_word p1 ((w6 + 12)) h7).bind (fun (x24 : Int32) =>
    (gL_word p1 ((w6 + 16)) h7).bind (fun (x26 : Int32) =>
    (gX10_append x18 x20 x22 x24 x26 h7).bind (fun (x28 : ((Int32 ⊕ String) × mm_H)) => match x28 with
    | (.inl v30, h31) =>
    (some (w6 + 20)).bind (fun (x33 : Int32) =>
    gL_say_L8 p1 n x33 h31)
    | (.inr E32, h31) => some (.inr E32, h31)))))))
    else
    if mh_I h7 p1 1 = 0 then
    (gX10_truncate ((nI (mh_D h7 (p1 + 1) 1))) h7).bind (fun (x11 : ((Int32 ⊕ String) × mm_H)) => match x11 with
    | (.inl v13, h14) =>
    if mh_I h14 p1 1 = 0 then
    if v13 = (nI (mh_D h14 (p1 + 1) 1)) then
    some (.inl true, h14)
    else
    some (.inl false, h14) else none
    | (.inr E15, h14) => some (.inr E15, h14)) else none else none
def gL_say (p1 : Nat) (h : mm_H) : Option ((Bool ⊕ String) × mm_H) :=
(gX10_truncate 0 h).bind (fun (x1 : ((Int32 ⊕ String) × mm_H)) => match x1 with
| (.inl v3, h4) =>
gL_say_L8 p1 mm_F 0 h4
| (.inr E5, h4) => some (.inr E5, h4))
theorem rL_say_L8 {q : mm_q} (p1 : Nat)    (hp1 : mm_Tx q p1) : ∀ (n : Nat) (w6 : Int32) (h7 : mm_H), mm_E2 (mm_Sq q) (mm_Sq q) mL_say 8 [some (.ref 0), some (.ref p1), some (.int w6)] [] h7 (gL_say_L8 p1  n w6 h7) lf_zt := by
  intro n
  induction n with
  | zero =>
    intro w6 h7
    exact mm_none
  | succ n ih =>
    intro w6 h7
    rw [gL_say_L8]
    refine me_iload_n (pc' := 9) (i := 2) dL_say_8 rfl rfl rfl ?_
    refine me_aload_n (pc' := 10) (i := 1) dL_say_9 rfl rfl rfl ?_
    refine mm_guard (fun c8 => ?_)
    refine me_tlenD (pc' := 13) dL_say_10 rfl ljL_8 hp1 c8 ⟨Nat.le_of_ble_eq_true rfl, Nat.le_of_ble_eq_true rfl⟩ (Nat.le_of_ble_eq_true rfl) ?_
    refine me_icmp_ge (pc' := 16) (tgt := 63) dL_say_13 (by decide) rfl (fun c9 => ?_) (fun c9 => ?_)
    · refine me_aload_n (pc' := 64) (i := 0) dL_say_63 rfl rfl rfl ?_
      refine me_aload_n (pc' := 65) (i := 1) dL_say_64 rfl rfl rfl ?_
      refine mm_guard (fun c10 => ?_)
      refine me_tlenD (pc' := 68) dL_say_65 rfl ljL_8 hp1 c10 ⟨Nat.le_of_ble_eq_true rfl, Nat.le_of_ble_eq_true rfl⟩ (Nat.le_of_ble_eq_true rfl) ?_
      refine me_callV (As := [.int (nI (mh_D h7 (p1 + 1) 1))]) (st := []) (F' := (mm_Sq q)) (G' := (mm_Sq q)) (F'' := (mm_Sq q)) (pc' := 71) dL_say_68 rfl mfX10_truncate rfl lkL_18 (mm_ks kd_0) rfl (mm_ltq kd_0) ⟨Nat.le_of_ble_eq_true rfl, Nat.le_of_ble_eq_true rfl⟩ (Nat.le_of_ble_eq_true rfl) (fun z => z) (rX10_truncate (q := q) ((nI (mh_D h7 (p1 + 1) 1))) h7 ) (fun x11 e12 => ?_)
      rcases x11 with ⟨v13 | E15, h14⟩
      · refine Or.inl ⟨_, _, rfl, fun z => z, ?_⟩
        show mm_E2 _ _ _ _ _ [.int v13] h14 _ _
        try dsimp only
        refine me_aload_n (pc' := 72) (i := 1) dL_say_71 rfl rfl rfl ?_
        refine mm_guard (fun c16 => ?_)
        refine me_tlenD (pc' := 75) dL_say_72 rfl ljL_8 hp1 c16 ⟨Nat.le_of_ble_eq_true rfl, Nat.le_of_ble_eq_true rfl⟩ (Nat.le_of_ble_eq_true rfl) ?_
        refine me_icmp_ne (pc' := 78) (tgt := 82) dL_say_75 (by decide) rfl (fun c17 => ?_) (fun c17 => ?_)
        · refine me_iconst (pc' := 83) (v := 0) dL_say_82 rfl kc_i0 ?_
          exact me_zret (b := false) dL_say_83 rfl (fun z => z) rfl
        · refine me_iconst (pc' := 79) (v := 1) dL_say_78 rfl kc_i1 ?_
          refine me_goto (tgt := 83) dL_say_79 (by decide) ?_
          exact me_zret (b := true) dL_say_83 rfl (fun z => z) rfl
      · exact Or.inr ⟨_, _, rfl, rfl, fun z => z, fun y9 hy9 => by rw [← Option.some.inj hy9]; rfl⟩
    · refine me_aload_n (pc' := 17) (i := 0) dL_say_16 rfl rfl rfl ?_
      refine me_aload_n (pc' := 18) (i := 1) dL_say_17 rfl rfl rfl ?_
      refine me_iload_n (pc' := 19) (i := 2) dL_say_18 rfl rfl rfl ?_
      refine me_callS (As := [.ref p1, .int w6]) (st := [.ref 0]) (F' := (mm_Sq q)) (G' := (mm_Sq q)) (F'' := (mm_Sq q)) (pc' := 22) dL_say_19 rfl mfL_word rfl lkL_24 ⟨Nat.le_of_ble_eq_true rfl, Nat.le_of_ble_eq_true rfl⟩ (Nat.le_of_ble_eq_true rfl) (fun z => z) (rL_word (q := q) p1 w6 h7 hp1) (fun x18 e19 => Or.inl ⟨_, _, rfl, fun z => z, ?_⟩)
      show mm_E2 _ _ _ _ _ [.int x18, .ref 0] h7 _ _
      refine me_aload_n (pc' := 23) (i := 1) dL_say_22 rfl rfl rfl ?_
      refine me_iload_n (pc' := 24) (i := 2) dL_say_23 rfl rfl rfl ?_
      refine me_iconst (pc' := 25) (v := 4) dL_say_24 rfl kc_i4 ?_
      refine me_iadd (pc' := 26) dL_say_25 rfl ?_
      refine me_callS (As := [.ref p1, .int (w6 + 4)]) (st := [.int x18, .ref 0]) (F' := (mm_Sq q)) (G' := (mm_Sq q)) (F'' := (mm_Sq q)) (pc' := 29) dL_say_26 rfl mfL_word rfl lkL_24 ⟨Nat.le_of_ble_eq_true rfl, Nat.le_of_ble_eq_true rfl⟩ (Nat.le_of_ble_eq_true rfl) (fun z => z) (rL_word (q := q) p1 ((w6 + 4)) h7 hp1) (fun x20 e21 => Or.inl ⟨_, _, rfl, fun z => z, ?_⟩)
      show mm_E2 _ _ _ _ _ [.int x20, .int x18, .ref 0] h7 _ _
      refine me_aload_n (pc' := 30) (i := 1) dL_say_29 rfl rfl rfl ?_
      refine me_iload_n (pc' := 31) (i := 2) dL_say_30 rfl rfl rfl ?_
      refine me_bipush (pc' := 33) (v := 8) dL_say_31 rfl kc_b8 ?_
      refine me_iadd (pc' := 34) dL_say_33 rfl ?_
      refine me_callS (As := [.ref p1, .int (w6 + 8)]) (st := [.int x20, .int x18, .ref 0]) (F' := (mm_Sq q)) (G' := (mm_Sq q)) (F'' := (mm_Sq q)) (pc' := 37) dL_say_34 rfl mfL_word rfl lkL_24 ⟨Nat.le_of_ble_eq_true rfl, Nat.le_of_ble_eq_true rfl⟩ (Nat.le_of_ble_eq_true rfl) (fun z => z) (rL_word (q := q) p1 ((w6 + 8)) h7 hp1) (fun x22 e23 => Or.inl ⟨_, _, rfl, fun z => z, ?_⟩)
      show mm_E2 _ _ _ _ _ [.int x22, .int x20, .int x18, .ref 0] h7 _ _
      refine me_aload_n (pc' := 38) (i := 1) dL_say_37 rfl rfl rfl ?_
      refine me_iload_n (pc' := 39) (i := 2) dL_say_38 rfl rfl rfl ?_
      refine me_bipush (pc' := 41) (v := 12) dL_say_39 rfl kc_b12 ?_
      refine me_iadd (pc' := 42) dL_say_41 rfl ?_
      refine me_callS (As := [.ref p1, .int (w6 + 12)]) (st := [.int x22, .int x20, .int x18, .ref 0]) (F' := (mm_Sq q)) (G' := (mm_Sq q)) (F'' := (mm_Sq q)) (pc' := 45) dL_say_42 rfl mfL_word rfl lkL_24 ⟨Nat.le_of_ble_eq_true rfl, Nat.le_of_ble_eq_true rfl⟩ (Nat.le_of_ble_eq_true rfl) (fun z => z) (rL_word (q := q) p1 ((w6 + 12)) h7 hp1) (fun x24 e25 => Or.inl ⟨_, _, rfl, fun z => z, ?_⟩)
      show mm_E2 _ _ _ _ _ [.int x24, .int x22, .int x20, .int x18, .ref 0] h7 _ _
      refine me_aload_n (pc' := 46) (i := 1) dL_say_45 rfl rfl rfl ?_
      refine me_iload_n (pc' := 47) (i := 2) dL_say_46 rfl rfl rfl ?_
      refine me_bipush (pc' := 49) (v := 16) dL_say_47 rfl kc_b16 ?_
      refine me_iadd (pc' := 50) dL_say_49 rfl ?_
      refine me_callS (As := [.ref p1, .int (w6 + 16)]) (st := [.int x24, .int x22, .int x20, .int x18, .ref 0]) (F' := (mm_Sq q)) (G' := (mm_Sq q)) (F'' := (mm_Sq q)) (pc' := 53) dL_say_50 rfl mfL_word rfl lkL_24 ⟨Nat.le_of_ble_eq_true rfl, Nat.le_of_ble_eq_true rfl⟩ (Nat.le_of_ble_eq_true rfl) (fun z => z) (rL_word (q := q) p1 ((w6 + 16)) h7 hp1) (fun x26 e27 => Or.inl ⟨_, _, rfl, fun z => z, ?_⟩)
      show mm_E2 _ _ _ _ _ [.int x26, .int x24, .int x22, .int x20, .int x18, .ref 0] h7 _ _
      refine me_callV (As := [.int x18, .int x20, .int x22, .int x24, .int x26]) (st := []) (F' := (mm_Sq q)) (G' := (mm_Sq q)) (F'' := (mm_Sq q)) (pc' := 56) dL_say_53 rfl mfX10_append rfl lkL_30 (mm_ks kd_0) rfl (mm_ltq kd_0) ⟨Nat.le_of_ble_eq_true rfl, Nat.le_of_ble_eq_true rfl⟩ (Nat.le_of_ble_eq_true rfl) (fun z => z) (rX10_append (q := q) x18 x20 x22 x24 x26 h7 ) (fun x28 e29 => ?_)
      rcases x28 with ⟨v30 | E32, h31⟩
      · refine Or.inl ⟨_, _, rfl, fun z => z, ?_⟩
        show mm_E2 _ _ _ _ _ [.int v30] h31 _ _
        try dsimp only
        refine me_pop (pc' := 57) dL_say_56 rfl rfl ?_
        refine me_iinc (pc' := 60) (i := 2) (x := w6) (y := w6 + 20) (L' := [some (.ref 0), some (.ref p1), some (.int (w6 + 20))]) dL_say_57 rfl (Nat.le_of_ble_eq_true rfl) (Nat.le_of_ble_eq_true rfl) rfl (kc_plus kc_i20) rfl ?_
        refine mm_bnd (w6 + 20) (fun x33 => [some (.ref 0), some (.ref p1), some (.int x33)]) (fun _ => []) (fun _ => h31) (fun x33 => ?_)
        refine me_goto (tgt := 8) dL_say_60 (by decide) ?_
        exact ih x33 h31
      · exact Or.inr ⟨_, _, rfl, rfl, fun z => z, fun y9 hy9 => by rw [← Option.some.inj hy9]; rfl⟩
theorem rL_say {q : mm_q} (p1 : Nat) (h : mm_H) (hp1 : mm_Tx q p1) : mm_R2 (mm_Sq q) (mm_Sq q) mL_say [.ref 0, .ref p1] h (gL_say p1 h) lf_zt := by
  refine mm_body (L := [some (.ref 0), some (.ref p1), none]) rfl (by decide +kernel) (Nat.le_of_ble_eq_true rfl) rfl ?_
  unfold gL_say
  refine me_aload_n (pc' := 1) (i := 0) dL_say_0 rfl rfl rfl ?_
  refine me_iconst (pc' := 2) (v := 0) dL_say_1 rfl kc_i0 ?_
  refine me_callV (As := [.int 0]) (st := []) (F' := (mm_Sq q)) (G' := (mm_Sq q)) (F'' := (mm_Sq q)) (pc' := 5) dL_say_2 rfl mfX10_truncate rfl lkL_18 (mm_ks kd_0) rfl (mm_ltq kd_0) ⟨Nat.le_of_ble_eq_true rfl, Nat.le_of_ble_eq_true rfl⟩ (Nat.le_of_ble_eq_true rfl) (fun z => z) (rX10_truncate (q := q) 0 h ) (fun x1 e2 => ?_)
  rcases x1 with ⟨v3 | E5, h4⟩
  · refine Or.inl ⟨_, _, rfl, fun z => z, ?_⟩
    show mm_E2 _ _ _ _ _ [.int v3] h4 _ _
    try dsimp only
    refine me_pop (pc' := 6) dL_say_5 rfl rfl ?_
    refine me_iconst (pc' := 7) (v := 0) dL_say_6 rfl kc_i0 ?_
    refine me_istore_n (pc' := 8) (i := 2) (L' := [some (.ref 0), some (.ref p1), some (.int 0)]) dL_say_7 rfl rfl (Nat.le_of_ble_eq_true rfl) (Nat.le_of_ble_eq_true rfl) rfl ?_
    exact rL_say_L8 (q := q) p1 hp1 mm_F 0 h4
  · exact Or.inr ⟨_, _, rfl, rfl, fun z => z, fun y9 hy9 => by rw [← Option.some.inj hy9]; rfl⟩
def gL_act (p1 : Int32) (h : mm_H) : Option ((Unit ⊕ String) × mm_H) :=
(gX10_productCount h).bind (fun (x1 : Int32) =>
if x1 = 0 then none else
(some (((p1 / 16) - (p1 / 16) / x1 * x1))).bind (fun (x4 : Int32) =>
(some ((1 + ((p1 / 128) - (p1 / 128) / 15 * 15)))).bind (fun (x5 : Int32) =>
(gX10_reservationCount h).bind (fun (x6 : Int32) =>
mm_jn (fun (y8 : Int32) =>
(gX10_batchCount h).bind (fun (x10 : Int32) =>
mm_jn (fun (y12 : Int32) =>
if (p1 - p1 / 13 * 13) = 0 then
(gX10_batchCount h).bind (fun (x15 : Int32) =>
if x15 < 18 then
(gX10_day h).bind (fun (x18 : Int32) =>
(gX10_receive x4 x5 ((x18 + ((p1 / 2048) - (p1 / 2048) / 16 * 16))) ((1 + ((p1 / 65536) - (p1 / 65536) / 30 * 30))) h).bind (fun (x20 : ((Int32 ⊕ String) × mm_H)) => match x20 with
| (.inl v22, h23) =>
some (.inl (), h23)
| (.inr E24, h23) => some (.inr E24, h23)))
else
some (.inl (), h))
else
if (p1 - p1 / 13 * 13) = 1 then
(gX10_batchCount h).bind (fun (x26 : Int32) =>
if x26 < 18 then
(gX10_day h).bind (fun (x29 : Int32) =>
(gX10_receive x4 x5 ((x29 + ((p1 / 2048) - (p1 / 2048) / 16 * 16))) ((1 + ((p1 / 65536) - (p1 / 65536) / 30 * 30))) h).bind (fun (x31 : ((Int32 ⊕ String) × mm_H)) => match x31 with
| (.inl v33, h34) =>
some (.inl (), h34)
| (.inr E35, h34) => some (.inr E35, h34)))
else
some (.inl (), h))
else
if (p1 - p1 / 13 * 13) = 2 then
(gX10_day h).bind (fun (x37 : Int32) =>
(gX10_availableOn x4 x37 h).bind (fun (x39 : ((Int32 ⊕ String) × mm_H)) => match x39 with
| (.inl v41, h42) =>
if v41 < x5 then
some (.inl (), h42)
else
(gX10_issue x4 x5 h42).bind (fun (x45 : ((Int32 ⊕ String) × mm_H)) => match x45 with
| (.inl v47, h48) =>
some (.inl (), h48)
| (.inr E49, h48) => some (.inr E49, h48))
| (.inr E43, h42) => some (.inr E43, h42)))
else
if (p1 - p1 / 13 * 13) = 3 then
(gX10_day h).bind (fun (x51 : Int32) =>
(gX10_availableOn x4 x51 h).bind (fun (x53 : ((Int32 ⊕ String) × mm_H)) => match x53 with
| (.inl v55, h56) =>
if v55 < x5 then
some (.inl (), h56)
else
(gX10_issue x4 x5 h56).bind (fun (x59 : ((Int32 ⊕ String) × mm_H)) => match x59 with
| (.inl v61, h62) =>
some (.inl (), h62)
| (.inr E63, h62) => some (.inr E63, h62))
| (.inr E57, h56) => some (.inr E57, h56)))
else
if (p1 - p1 / 13 * 13) = 4 then
(gX10_day h).bind (fun (x65 : Int32) =>
(some ((x65 + ((p1 / 2048) - (p1 / 2048) / 10 * 10)))).bind (fun (x67 : Int32) =>
(gX10_reservationCount h).bind (fun (x68 : Int32) =>
if x68 < 10 then
(gX10_availableOn x4 x67 h).bind (fun (x71 : ((Int32 ⊕ String) × mm_H)) => match x71 with
| (.inl v73, h74) =>
if v73 < x5 then
some (.inl (), h74)
else
(gX10_reserve x4 x5 x67 h74).bind (fun (x77 : ((Int32 ⊕ String) × mm_H)) => match x77 with
| (.inl v79, h80) =>
some (.inl (), h80)
| (.inr E81, h80) => some (.inr E81, h80))
| (.inr E75, h74) => some (.inr E75, h74))
else
some (.inl (), h))))
else
if (p1 - p1 / 13 * 13) = 5 then
(gX10_day h).bind (fun (x83 : Int32) =>
(some ((x83 + ((p1 / 2048) - (p1 / 2048) / 10 * 10)))).bind (fun (x85 : Int32) =>
(gX10_reservationCount h).bind (fun (x86 : Int32) =>
if x86 < 10 then
(gX10_availableOn x4 x85 h).bind (fun (x89 : ((Int32 ⊕ String) × mm_H)) => match x89 with
| (.inl v91, h92) =>
if v91 < x5 then
some (.inl (), h92)
else
(gX10_reserve x4 x5 x85 h92).bind (fun (x95 : ((Int32 ⊕ String) × mm_H)) => match x95 with
| (.inl v97, h98) =>
some (.inl (), h98)
| (.inr E99, h98) => some (.inr E99, h98))
| (.inr E93, h92) => some (.inr E93, h92))
else
some (.inl (), h))))
else
if (p1 - p1 / 13 * 13) = 6 then
(gX10_day h).bind (fun (x101 : Int32) =>
(some ((x101 + ((p1 / 2048) - (p1 / 2048) / 10 * 10)))).bind (fun (x103 : Int32) =>
(gX10_reservationCount h).bind (fun (x104 : Int32) =>
if x104 < 10 then
(gX10_availableOn x4 x103 h).bind (fun (x107 : ((Int32 ⊕ String) × mm_H)) => match x107 with
| (.inl v109, h110) =>
if v109 < x5 then
some (.inl (), h110)
else
(gX10_reserve x4 x5 x103 h110).bind (fun (x113 : ((Int32 ⊕ String) × mm_H)) => match x113 with
| (.inl v115, h116) =>
some (.inl (), h116)
| (.inr E117, h116) => some (.inr E117, h116))
| (.inr E111, h110) => some (.inr E111, h110))
else
some (.inl (), h))))
else
if (p1 - p1 / 13 * 13) = 7 then
if y8 < 0 then
some (.inl (), h)
else
(gX10_whyNotShipped y8 h).bind (fun (x120 : ((Int32 ⊕ String) × mm_H)) => match x120 with
| (.inl v122, h123) =>
if v122 = 0 then
(gX10_ship y8 h123).bind (fun (x126 : ((Int32 ⊕ String) × mm_H)) => match x126 with
| (.inl v128, h129) =>
some (.inl (), h129)
| (.inr E130, h129) => some (.inr E130, h129))
else
some (.inl (), h123)
| (.inr E124, h123) => some (.inr E124, h123))
else
if (p1 - p1 / 13 * 13) = 8 then
if y8 < 0 then
some (.inl (), h)
else
(gX10_isOpen y8 h).bind (fun (x133 : ((Bool ⊕ String) × mm_H)) => match x133 with
| (.inl v135, h136) =>
if v135 = true then
if ((p1 / 2048) - (p1 / 2048) / 2 * 2) = 0 then
(gX10_cancel y8 h136).bind (fun (x140 : ((Int32 ⊕ String) × mm_H)) => match x140 with
| (.inl v142, h143) =>
some (.inl (), h143)
| (.inr E144, h143) => some (.inr E144, h143))
else
some (.inl (), h136)
else
some (.inl (), h136)
| (.inr E137, h136) => some (.inr E137, h136))
else
if (p1 - p1 / 13 * 13) = 9 then
if y8 < 0 then
some (.inl (), h)
else
(gX10_isOpen y8 h).bind (fun (x147 : ((Bool ⊕ String) × mm_H)) => match x147 with
| (.inl v149, h150) =>
if v149 = true then
(gX10_refill y8 h150).bind (fun (x153 : ((Int32 ⊕ String) × mm_H)) => match x153 with
| (.inl v155, h156) =>
some (.inl (), h156)
| (.inr E157, h156) => some (.inr E157, h156))
else
some (.inl (), h150)
| (.inr E151, h150) => some (.inr E151, h150))
else
if (p1 - p1 / 13 * 13) = 10 then
if y12 < 0 then
some (.inl (), h)
else
(gX10_reservedOf y12 h).bind (fun (x160 : ((Int32 ⊕ String) × mm_H)) => match x160 with
| (.inl v162, h163) =>
if ((p1 / 2048) - (p1 / 2048) / 25 * 25) < v162 then
some (.inl (), h163)
else
(gX10_takeStock y12 (((p1 / 2048) - (p1 / 2048) / 25 * 25)) h163).bind (fun (x166 : ((Int32 ⊕ String) × mm_H)) => match x166 with
| (.inl v168, h169) =>
some (.inl (), h169)
| (.inr E170, h169) => some (.inr E170, h169))
| (.inr E164, h163) => some (.inr E164, h163))
else
if (p1 - p1 / 13 * 13) = 11 then
(gX10_writeOffExpired h).bind (fun (x172 : (Int32 × mm_H)) =>
some (.inl (), x172.2))
else
(gX10_passDays ((1 + ((p1 / 2048) - (p1 / 2048) / 4 * 4))) h).bind (fun (x174 : ((Int32 ⊕ String) × mm_H)) => match x174 with
| (.inl v176, h177) =>
some (.inl (), h177)
| (.inr E178, h177) => some (.inr E178, h177))) (fun (j13 : Int32 → Option ((Unit ⊕ String) × mm_H)) =>
if x10 = 0 then
j13 (-1)
else
(gX10_batchCount h).bind (fun (x180 : Int32) =>
if x180 = 0 then none else
j13 (((p1 / 16) - (p1 / 16) / x180 * x180)))))) (fun (j9 : Int32 → Option ((Unit ⊕ String) × mm_H)) =>
if x6 = 0 then
j9 (-1)
else
(gX10_reservationCount h).bind (fun (x184 : Int32) =>
if x184 = 0 then none else
j9 (((p1 / 16) - (p1 / 16) / x184 * x184))))))))
theorem rL_act {q : mm_q} (p1 : Int32) (h : mm_H) : mm_R2 (mm_Sq q) (mm_Sq q) mL_act [.ref 0, .int p1] h (gL_act p1 h) lf_vt := by
  refine mm_body (L := [some (.ref 0), some (.int p1), none, none, none, none, none]) rfl (by decide +kernel) (Nat.le_of_ble_eq_true rfl) rfl ?_
  unfold gL_act
  refine me_iload_n (pc' := 1) (i := 1) dL_act_0 rfl rfl rfl ?_
  refine me_bipush (pc' := 3) (v := 16) dL_act_1 rfl kc_b16 ?_
  refine me_idiv (pc' := 4) dL_act_3 rfl kc_nz16 ?_
  refine me_aload_n (pc' := 5) (i := 0) dL_act_4 rfl rfl rfl ?_
  refine me_callV (As := []) (st := [.int (p1 / 16)]) (F' := (mm_Sq q)) (G' := (mm_Sq q)) (F'' := (mm_Sq q)) (pc' := 8) dL_act_5 rfl mfX10_productCount rfl lkL_63 (mm_ks kd_0) rfl (mm_ltq kd_0) ⟨Nat.le_of_ble_eq_true rfl, Nat.le_of_ble_eq_true rfl⟩ (Nat.le_of_ble_eq_true rfl) (fun z => z) (rX10_productCount (q := q) h ) (fun x1 e2 => Or.inl ⟨_, _, rfl, fun z => z, ?_⟩)
  show mm_E2 _ _ _ _ _ [.int x1, .int (p1 / 16)] h _ _
  refine mm_if (fun _ => mm_none) (fun c3 => ?_)
  refine me_irem (pc' := 9) dL_act_8 rfl c3 ?_
  refine mm_bnd (((p1 / 16) - (p1 / 16) / x1 * x1)) (fun x4 => [some (.ref 0), some (.int p1), none, none, none, none, none]) (fun x4 => [.int x4]) (fun _ => h) (fun x4 => ?_)
  refine me_istore_n (pc' := 10) (i := 2) (L' := [some (.ref 0), some (.int p1), some (.int x4), none, none, none, none]) dL_act_9 rfl rfl (Nat.le_of_ble_eq_true rfl) (Nat.le_of_ble_eq_true rfl) rfl ?_
  refine me_iconst (pc' := 11) (v := 1) dL_act_10 rfl kc_i1 ?_
  refine me_iload_n (pc' := 12) (i := 1) dL_act_11 rfl rfl rfl ?_
  refine me_sipush (pc' := 15) (v := 128) dL_act_12 rfl kc_s128 ?_
  refine me_idiv (pc' := 16) dL_act_15 rfl kc_nz128 ?_
  refine me_bipush (pc' := 18) (v := 15) dL_act_16 rfl kc_b15 ?_
  refine me_irem (pc' := 19) dL_act_18 rfl kc_nz15 ?_
  refine me_iadd (pc' := 20) dL_act_19 rfl ?_
  refine mm_bnd ((1 + ((p1 / 128) - (p1 / 128) / 15 * 15))) (fun x5 => [some (.ref 0), some (.int p1), some (.int x4), none, none, none, none]) (fun x5 => [.int x5]) (fun _ => h) (fun x5 => ?_)
  refine me_istore_n (pc' := 21) (i := 3) (L' := [some (.ref 0), some (.int p1), some (.int x4), some (.int x5), none, none, none]) dL_act_20 rfl rfl (Nat.le_of_ble_eq_true rfl) (Nat.le_of_ble_eq_true rfl) rfl ?_
  refine me_aload_n (pc' := 22) (i := 0) dL_act_21 rfl rfl rfl ?_
  refine me_callV (As := []) (st := []) (F' := (mm_Sq q)) (G' := (mm_Sq q)) (F'' := (mm_Sq q)) (pc' := 25) dL_act_22 rfl mfX10_reservationCount rfl lkL_66 (mm_ks kd_0) rfl (mm_ltq kd_0) ⟨Nat.le_of_ble_eq_true rfl, Nat.le_of_ble_eq_true rfl⟩ (Nat.le_of_ble_eq_true rfl) (fun z => z) (rX10_reservationCount (q := q) h ) (fun x6 e7 => Or.inl ⟨_, _, rfl, fun z => z, ?_⟩)
  show mm_E2 _ _ _ _ _ [.int x6] h _ _
  refine mm_jnI (fun (j99 : Int32 → Option ((Unit ⊕ String) × mm_H)) => ∀ (y8 : Int32), mm_E2 (mm_Sq q) (mm_Sq q) mL_act 41 [some (.ref 0), some (.int p1), some (.int x4), some (.int x5), none, none, none] [.int y8] h (j99 y8) lf_vt) ?_ (fun j9 j9p => ?_)
  · intro y8
    refine me_istore (pc' := 43) (i := 4) (L' := [some (.ref 0), some (.int p1), some (.int x4), some (.int x5), some (.int y8), none, none]) dL_act_41 rfl (Nat.le_of_ble_eq_true rfl) (Nat.le_of_ble_eq_true rfl) rfl ?_
    refine me_aload_n (pc' := 44) (i := 0) dL_act_43 rfl rfl rfl ?_
    refine me_callV (As := []) (st := []) (F' := (mm_Sq q)) (G' := (mm_Sq q)) (F'' := (mm_Sq q)) (pc' := 47) dL_act_44 rfl mfX10_batchCount rfl lkL_69 (mm_ks kd_0) rfl (mm_ltq kd_0) ⟨Nat.le_of_ble_eq_true rfl, Nat.le_of_ble_eq_true rfl⟩ (Nat.le_of_ble_eq_true rfl) (fun z => z) (rX10_batchCount (q := q) h ) (fun x10 e11 => Or.inl ⟨_, _, rfl, fun z => z, ?_⟩)
    show mm_E2 _ _ _ _ _ [.int x10] h _ _
    refine mm_jnI (fun (j139 : Int32 → Option ((Unit ⊕ String) × mm_H)) => ∀ (y12 : Int32), mm_E2 (mm_Sq q) (mm_Sq q) mL_act 63 [some (.ref 0), some (.int p1), some (.int x4), some (.int x5), some (.int y8), none, none] [.int y12] h (j139 y12) lf_vt) ?_ (fun j13 j13p => ?_)
    · intro y12
      refine me_istore (pc' := 65) (i := 5) (L' := [some (.ref 0), some (.int p1), some (.int x4), some (.int x5), some (.int y8), some (.int y12), none]) dL_act_63 rfl (Nat.le_of_ble_eq_true rfl) (Nat.le_of_ble_eq_true rfl) rfl ?_
      refine me_iload_n (pc' := 66) (i := 1) dL_act_65 rfl rfl rfl ?_
      refine me_bipush (pc' := 68) (v := 13) dL_act_66 rfl kc_b13 ?_
      refine me_irem (pc' := 69) dL_act_68 rfl kc_nz13 ?_
      refine mm_if (fun c14 => ?_) (fun c14 => ?_)
      · refine me_tsw c14 dL_act_69 (by decide) (by decide) (tgt := 132) (off := 63) (by decide) (by decide) ?_
        refine me_aload_n (pc' := 133) (i := 0) dL_act_132 rfl rfl rfl ?_
        refine me_callV (As := []) (st := []) (F' := (mm_Sq q)) (G' := (mm_Sq q)) (F'' := (mm_Sq q)) (pc' := 136) dL_act_133 rfl mfX10_batchCount rfl lkL_69 (mm_ks kd_0) rfl (mm_ltq kd_0) ⟨Nat.le_of_ble_eq_true rfl, Nat.le_of_ble_eq_true rfl⟩ (Nat.le_of_ble_eq_true rfl) (fun z => z) (rX10_batchCount (q := q) h ) (fun x15 e16 => Or.inl ⟨_, _, rfl, fun z => z, ?_⟩)
        show mm_E2 _ _ _ _ _ [.int x15] h _ _
        refine me_bipush (pc' := 138) (v := 18) dL_act_136 rfl kc_b18 ?_
        refine me_icmp_ge (pc' := 141) (tgt := 387) dL_act_138 (by decide) rfl (fun c17 => ?_) (fun c17 => ?_)
        · exact me_vret dL_act_387 rfl (fun z => z) rfl
        · refine me_aload_n (pc' := 142) (i := 0) dL_act_141 rfl rfl rfl ?_
          refine me_iload_n (pc' := 143) (i := 2) dL_act_142 rfl rfl rfl ?_
          refine me_iload_n (pc' := 144) (i := 3) dL_act_143 rfl rfl rfl ?_
          refine me_aload_n (pc' := 145) (i := 0) dL_act_144 rfl rfl rfl ?_
          refine me_callV (As := []) (st := [.int x5, .int x4, .ref 0]) (F' := (mm_Sq q)) (G' := (mm_Sq q)) (F'' := (mm_Sq q)) (pc' := 148) dL_act_145 rfl mfX10_day rfl lkL_72 (mm_ks kd_0) rfl (mm_ltq kd_0) ⟨Nat.le_of_ble_eq_true rfl, Nat.le_of_ble_eq_true rfl⟩ (Nat.le_of_ble_eq_true rfl) (fun z => z) (rX10_day (q := q) h ) (fun x18 e19 => Or.inl ⟨_, _, rfl, fun z => z, ?_⟩)
          show mm_E2 _ _ _ _ _ [.int x18, .int x5, .int x4, .ref 0] h _ _
          refine me_iload_n (pc' := 149) (i := 1) dL_act_148 rfl rfl rfl ?_
          refine me_sipush (pc' := 152) (v := 2048) dL_act_149 rfl kc_s2048 ?_
          refine me_idiv (pc' := 153) dL_act_152 rfl kc_nz2048 ?_
          refine me_bipush (pc' := 155) (v := 16) dL_act_153 rfl kc_b16 ?_
          refine me_irem (pc' := 156) dL_act_155 rfl kc_nz16 ?_
          refine me_iadd (pc' := 157) dL_act_156 rfl ?_
          refine me_iconst (pc' := 158) (v := 1) dL_act_157 rfl kc_i1 ?_
          refine me_iload_n (pc' := 159) (i := 1) dL_act_158 rfl rfl rfl ?_
          refine me_ldcI (pc' := 161) (v := 65536) dL_act_159 rfl (mm_gw_of (List.mem_of_getElem? (i := 1254) (by decide +kernel)) rfl) ?_
          refine me_idiv (pc' := 162) dL_act_161 rfl kc_nz65536 ?_
          refine me_bipush (pc' := 164) (v := 30) dL_act_162 rfl kc_b30 ?_
          refine me_irem (pc' := 165) dL_act_164 rfl kc_nz30 ?_
          refine me_iadd (pc' := 166) dL_act_165 rfl ?_
          refine me_callV (As := [.int x4, .int x5, .int (x18 + ((p1 / 2048) - (p1 / 2048) / 16 * 16)), .int (1 + ((p1 / 65536) - (p1 / 65536) / 30 * 30))]) (st := []) (F' := (mm_Sq q)) (G' := (mm_Sq q)) (F'' := (mm_Sq q)) (pc' := 169) dL_act_166 rfl mfX10_receive rfl lkL_76 (mm_ks kd_0) rfl (mm_ltq kd_0) ⟨Nat.le_of_ble_eq_true rfl, Nat.le_of_ble_eq_true rfl⟩ (Nat.le_of_ble_eq_true rfl) (fun z => z) (rX10_receive (q := q) x4 x5 ((x18 + ((p1 / 2048) - (p1 / 2048) / 16 * 16))) ((1 + ((p1 / 65536) - (p1 / 65536) / 30 * 30))) h ) (fun x20 e21 => ?_)
          rcases x20 with ⟨v22 | E24, h23⟩
          · refine Or.inl ⟨_, _, rfl, fun z => z, ?_⟩
            show mm_E2 _ _ _ _ _ [.int v22] h23 _ _
            try dsimp only
            refine me_pop (pc' := 170) dL_act_169 rfl rfl ?_
            refine me_goto (tgt := 387) dL_act_170 (by decide) ?_
            exact me_vret dL_act_387 rfl (fun z => z) rfl
          · exact Or.inr ⟨_, _, rfl, rfl, fun z => z, fun y9 hy9 => by rw [← Option.some.inj hy9]; rfl⟩
      refine mm_if (fun c25 => ?_) (fun c25 => ?_)
      · refine me_tsw c25 dL_act_69 (by decide) (by decide) (tgt := 132) (off := 63) (by decide) (by decide) ?_
        refine me_aload_n (pc' := 133) (i := 0) dL_act_132 rfl rfl rfl ?_
        refine me_callV (As := []) (st := []) (F' := (mm_Sq q)) (G' := (mm_Sq q)) (F'' := (mm_Sq q)) (pc' := 136) dL_act_133 rfl mfX10_batchCount rfl lkL_69 (mm_ks kd_0) rfl (mm_ltq kd_0) ⟨Nat.le_of_ble_eq_true rfl, Nat.le_of_ble_eq_true rfl⟩ (Nat.le_of_ble_eq_true rfl) (fun z => z) (rX10_batchCount (q := q) h ) (fun x26 e27 => Or.inl ⟨_, _, rfl, fun z => z, ?_⟩)
        show mm_E2 _ _ _ _ _ [.int x26] h _ _
        refine me_bipush (pc' := 138) (v := 18) dL_act_136 rfl kc_b18 ?_
        refine me_icmp_ge (pc' := 141) (tgt := 387) dL_act_138 (by decide) rfl (fun c28 => ?_) (fun c28 => ?_)
        · exact me_vret dL_act_387 rfl (fun z => z) rfl
        · refine me_aload_n (pc' := 142) (i := 0) dL_act_141 rfl rfl rfl ?_
          refine me_iload_n (pc' := 143) (i := 2) dL_act_142 rfl rfl rfl ?_
          refine me_iload_n (pc' := 144) (i := 3) dL_act_143 rfl rfl rfl ?_
          refine me_aload_n (pc' := 145) (i := 0) dL_act_144 rfl rfl rfl ?_
          refine me_callV (As := []) (st := [.int x5, .int x4, .ref 0]) (F' := (mm_Sq q)) (G' := (mm_Sq q)) (F'' := (mm_Sq q)) (pc' := 148) dL_act_145 rfl mfX10_day rfl lkL_72 (mm_ks kd_0) rfl (mm_ltq kd_0) ⟨Nat.le_of_ble_eq_true rfl, Nat.le_of_ble_eq_true rfl⟩ (Nat.le_of_ble_eq_true rfl) (fun z => z) (rX10_day (q := q) h ) (fun x29 e30 => Or.inl ⟨_, _, rfl, fun z => z, ?_⟩)
          show mm_E2 _ _ _ _ _ [.int x29, .int x5, .int x4, .ref 0] h _ _
          refine me_iload_n (pc' := 149) (i := 1) dL_act_148 rfl rfl rfl ?_
          refine me_sipush (pc' := 152) (v := 2048) dL_act_149 rfl kc_s2048 ?_
          refine me_idiv (pc' := 153) dL_act_152 rfl kc_nz2048 ?_
          refine me_bipush (pc' := 155) (v := 16) dL_act_153 rfl kc_b16 ?_
          refine me_irem (pc' := 156) dL_act_155 rfl kc_nz16 ?_
          refine me_iadd (pc' := 157) dL_act_156 rfl ?_
          refine me_iconst (pc' := 158) (v := 1) dL_act_157 rfl kc_i1 ?_
          refine me_iload_n (pc' := 159) (i := 1) dL_act_158 rfl rfl rfl ?_
          refine me_ldcI (pc' := 161) (v := 65536) dL_act_159 rfl (mm_gw_of (List.mem_of_getElem? (i := 1254) (by decide +kernel)) rfl) ?_
          refine me_idiv (pc' := 162) dL_act_161 rfl kc_nz65536 ?_
          refine me_bipush (pc' := 164) (v := 30) dL_act_162 rfl kc_b30 ?_
          refine me_irem (pc' := 165) dL_act_164 rfl kc_nz30 ?_
          refine me_iadd (pc' := 166) dL_act_165 rfl ?_
          refine me_callV (As := [.int x4, .int x5, .int (x29 + ((p1 / 2048) - (p1 / 2048) / 16 * 16)), .int (1 + ((p1 / 65536) - (p1 / 65536) / 30 * 30))]) (st := []) (F' := (mm_Sq q)) (G' := (mm_Sq q)) (F'' := (mm_Sq q)) (pc' := 169) dL_act_166 rfl mfX10_receive rfl lkL_76 (mm_ks kd_0) rfl (mm_ltq kd_0) ⟨Nat.le_of_ble_eq_true rfl, Nat.le_of_ble_eq_true rfl⟩ (Nat.le_of_ble_eq_true rfl) (fun z => z) (rX10_receive (q := q) x4 x5 ((x29 + ((p1 / 2048) - (p1 / 2048) / 16 * 16))) ((1 + ((p1 / 65536) - (p1 / 65536) / 30 * 30))) h ) (fun x31 e32 => ?_)
          rcases x31 with ⟨v33 | E35, h34⟩
          · refine Or.inl ⟨_, _, rfl, fun z => z, ?_⟩
            show mm_E2 _ _ _ _ _ [.int v33] h34 _ _
            try dsimp only
            refine me_pop (pc' := 170) dL_act_169 rfl rfl ?_
            refine me_goto (tgt := 387) dL_act_170 (by decide) ?_
            exact me_vret dL_act_387 rfl (fun z => z) rfl
          · exact Or.inr ⟨_, _, rfl, rfl, fun z => z, fun y9 hy9 => by rw [← Option.some.inj hy9]; rfl⟩
      refine mm_if (fun c36 => ?_) (fun c36 => ?_)
      · refine me_tsw c36 dL_act_69 (by decide) (by decide) (tgt := 173) (off := 104) (by decide) (by decide) ?_
        refine me_aload_n (pc' := 174) (i := 0) dL_act_173 rfl rfl rfl ?_
        refine me_iload_n (pc' := 175) (i := 2) dL_act_174 rfl rfl rfl ?_
        refine me_aload_n (pc' := 176) (i := 0) dL_act_175 rfl rfl rfl ?_
        refine me_callV (As := []) (st := [.int x4, .ref 0]) (F' := (mm_Sq q)) (G' := (mm_Sq q)) (F'' := (mm_Sq q)) (pc' := 179) dL_act_176 rfl mfX10_day rfl lkL_72 (mm_ks kd_0) rfl (mm_ltq kd_0) ⟨Nat.le_of_ble_eq_true rfl, Nat.le_of_ble_eq_true rfl⟩ (Nat.le_of_ble_eq_true rfl) (fun z => z) (rX10_day (q := q) h ) (fun x37 e38 => Or.inl ⟨_, _, rfl, fun z => z, ?_⟩)
        show mm_E2 _ _ _ _ _ [.int x37, .int x4, .ref 0] h _ _
        refine me_callV (As := [.int x4, .int x37]) (st := []) (F' := (mm_Sq q)) (G' := (mm_Sq q)) (F'' := (mm_Sq q)) (pc' := 182) dL_act_179 rfl mfX10_availableOn rfl lkL_80 (mm_ks kd_0) rfl (mm_ltq kd_0) ⟨Nat.le_of_ble_eq_true rfl, Nat.le_of_ble_eq_true rfl⟩ (Nat.le_of_ble_eq_true rfl) (fun z => z) (rX10_availableOn (q := q) x4 x37 h ) (fun x39 e40 => ?_)
        rcases x39 with ⟨v41 | E43, h42⟩
        · refine Or.inl ⟨_, _, rfl, fun z => z, ?_⟩
          show mm_E2 _ _ _ _ _ [.int v41] h42 _ _
          try dsimp only
          refine me_iload_n (pc' := 183) (i := 3) dL_act_182 rfl rfl rfl ?_
          refine me_icmp_lt (pc' := 186) (tgt := 387) dL_act_183 (by decide) rfl (fun c44 => ?_) (fun c44 => ?_)
          · exact me_vret dL_act_387 rfl (fun z => z) rfl
          · refine me_aload_n (pc' := 187) (i := 0) dL_act_186 rfl rfl rfl ?_
            refine me_iload_n (pc' := 188) (i := 2) dL_act_187 rfl rfl rfl ?_
            refine me_iload_n (pc' := 189) (i := 3) dL_act_188 rfl rfl rfl ?_
            refine me_callV (As := [.int x4, .int x5]) (st := []) (F' := (mm_Sq q)) (G' := (mm_Sq q)) (F'' := (mm_Sq q)) (pc' := 192) dL_act_189 rfl mfX10_issue rfl lkL_84 (mm_ks kd_0) rfl (mm_ltq kd_0) ⟨Nat.le_of_ble_eq_true rfl, Nat.le_of_ble_eq_true rfl⟩ (Nat.le_of_ble_eq_true rfl) (fun z => z) (rX10_issue (q := q) x4 x5 h42 ) (fun x45 e46 => ?_)
            rcases x45 with ⟨v47 | E49, h48⟩
            · refine Or.inl ⟨_, _, rfl, fun z => z, ?_⟩
              show mm_E2 _ _ _ _ _ [.int v47] h48 _ _
              try dsimp only
              refine me_pop (pc' := 193) dL_act_192 rfl rfl ?_
              refine me_goto (tgt := 387) dL_act_193 (by decide) ?_
              exact me_vret dL_act_387 rfl (fun z => z) rfl
            · exact Or.inr ⟨_, _, rfl, rfl, fun z => z, fun y9 hy9 => by rw [← Option.some.inj hy9]; rfl⟩
        · exact Or.inr ⟨_, _, rfl, rfl, fun z => z, fun y9 hy9 => by rw [← Option.some.inj hy9]; rfl⟩
      refine mm_if (fun c50 => ?_) (fun c50 => ?_)
      · refine me_tsw c50 dL_act_69 (by decide) (by decide) (tgt := 173) (off := 104) (by decide) (by decide) ?_
        refine me_aload_n (pc' := 174) (i := 0) dL_act_173 rfl rfl rfl ?_
        refine me_iload_n (pc' := 175) (i := 2) dL_act_174 rfl rfl rfl ?_
        refine me_aload_n (pc' := 176) (i := 0) dL_act_175 rfl rfl rfl ?_
        refine me_callV (As := []) (st := [.int x4, .ref 0]) (F' := (mm_Sq q)) (G' := (mm_Sq q)) (F'' := (mm_Sq q)) (pc' := 179) dL_act_176 rfl mfX10_day rfl lkL_72 (mm_ks kd_0) rfl (mm_ltq kd_0) ⟨Nat.le_of_ble_eq_true rfl, Nat.le_of_ble_eq_true rfl⟩ (Nat.le_of_ble_eq_true rfl) (fun z => z) (rX10_day (q := q) h ) (fun x51 e52 => Or.inl ⟨_, _, rfl, fun z => z, ?_⟩)
        show mm_E2 _ _ _ _ _ [.int x51, .int x4, .ref 0] h _ _
        refine me_callV (As := [.int x4, .int x51]) (st := []) (F' := (mm_Sq q)) (G' := (mm_Sq q)) (F'' := (mm_Sq q)) (pc' := 182) dL_act_179 rfl mfX10_availableOn rfl lkL_80 (mm_ks kd_0) rfl (mm_ltq kd_0) ⟨Nat.le_of_ble_eq_true rfl, Nat.le_of_ble_eq_true rfl⟩ (Nat.le_of_ble_eq_true rfl) (fun z => z) (rX10_availableOn (q := q) x4 x51 h ) (fun x53 e54 => ?_)
        rcases x53 with ⟨v55 | E57, h56⟩
        · refine Or.inl ⟨_, _, rfl, fun z => z, ?_⟩
          show mm_E2 _ _ _ _ _ [.int v55] h56 _ _
          try dsimp only
          refine me_iload_n (pc' := 183) (i := 3) dL_act_182 rfl rfl rfl ?_
          refine me_icmp_lt (pc' := 186) (tgt := 387) dL_act_183 (by decide) rfl (fun c58 => ?_) (fun c58 => ?_)
          · exact me_vret dL_act_387 rfl (fun z => z) rfl
          · refine me_aload_n (pc' := 187) (i := 0) dL_act_186 rfl rfl rfl ?_
            refine me_iload_n (pc' := 188) (i := 2) dL_act_187 rfl rfl rfl ?_
            refine me_iload_n (pc' := 189) (i := 3) dL_act_188 rfl rfl rfl ?_
            refine me_callV (As := [.int x4, .int x5]) (st := []) (F' := (mm_Sq q)) (G' := (mm_Sq q)) (F'' := (mm_Sq q)) (pc' := 192) dL_act_189 rfl mfX10_issue rfl lkL_84 (mm_ks kd_0) rfl (mm_ltq kd_0) ⟨Nat.le_of_ble_eq_true rfl, Nat.le_of_ble_eq_true rfl⟩ (Nat.le_of_ble_eq_true rfl) (fun z => z) (rX10_issue (q := q) x4 x5 h56 ) (fun x59 e60 => ?_)
            rcases x59 with ⟨v61 | E63, h62⟩
            · refine Or.inl ⟨_, _, rfl, fun z => z, ?_⟩
              show mm_E2 _ _ _ _ _ [.int v61] h62 _ _
              try dsimp only
              refine me_pop (pc' := 193) dL_act_192 rfl rfl ?_
              refine me_goto (tgt := 387) dL_act_193 (by decide) ?_
              exact me_vret dL_act_387 rfl (fun z => z) rfl
            · exact Or.inr ⟨_, _, rfl, rfl, fun z => z, fun y9 hy9 => by rw [← Option.some.inj hy9]; rfl⟩
        · exact Or.inr ⟨_, _, rfl, rfl, fun z => z, fun y9 hy9 => by rw [← Option.some.inj hy9]; rfl⟩
      refine mm_if (fun c64 => ?_) (fun c64 => ?_)
      · refine me_tsw c64 dL_act_69 (by decide) (by decide) (tgt := 196) (off := 127) (by decide) (by decide) ?_
        refine me_aload_n (pc' := 197) (i := 0) dL_act_196 rfl rfl rfl ?_
        refine me_callV (As := []) (st := []) (F' := (mm_Sq q)) (G' := (mm_Sq q)) (F'' := (mm_Sq q)) (pc' := 200) dL_act_197 rfl mfX10_day rfl lkL_72 (mm_ks kd_0) rfl (mm_ltq kd_0) ⟨Nat.le_of_ble_eq_true rfl, Nat.le_of_ble_eq_true rfl⟩ (Nat.le_of_ble_eq_true rfl) (fun z => z) (rX10_day (q := q) h ) (fun x65 e66 => Or.inl ⟨_, _, rfl, fun z => z, ?_⟩)
        show mm_E2 _ _ _ _ _ [.int x65] h _ _
        refine me_iload_n (pc' := 201) (i := 1) dL_act_200 rfl rfl rfl ?_
        refine me_sipush (pc' := 204) (v := 2048) dL_act_201 rfl kc_s2048 ?_
        refine me_idiv (pc' := 205) dL_act_204 rfl kc_nz2048 ?_
        refine me_bipush (pc' := 207) (v := 10) dL_act_205 rfl kc_b10 ?_
        refine me_irem (pc' := 208) dL_act_207 rfl kc_nz10 ?_
        refine me_iadd (pc' := 209) dL_act_208 rfl ?_
        refine mm_bnd ((x65 + ((p1 / 2048) - (p1 / 2048) / 10 * 10))) (fun x67 => [some (.ref 0), some (.int p1), some (.int x4), some (.int x5), some (.int y8), some (.int y12), none]) (fun x67 => [.int x67]) (fun _ => h) (fun x67 => ?_)
        refine me_istore (pc' := 211) (i := 6) (L' := [some (.ref 0), some (.int p1), some (.int x4), some (.int x5), some (.int y8), some (.int y12), some (.int x67)]) dL_act_209 rfl (Nat.le_of_ble_eq_true rfl) (Nat.le_of_ble_eq_true rfl) rfl ?_
        refine me_aload_n (pc' := 212) (i := 0) dL_act_211 rfl rfl rfl ?_
        refine me_callV (As := []) (st := []) (F' := (mm_Sq q)) (G' := (mm_Sq q)) (F'' := (mm_Sq q)) (pc' := 215) dL_act_212 rfl mfX10_reservationCount rfl lkL_66 (mm_ks kd_0) rfl (mm_ltq kd_0) ⟨Nat.le_of_ble_eq_true rfl, Nat.le_of_ble_eq_true rfl⟩ (Nat.le_of_ble_eq_true rfl) (fun z => z) (rX10_reservationCount (q := q) h ) (fun x68 e69 => Or.inl ⟨_, _, rfl, fun z => z, ?_⟩)
        show mm_E2 _ _ _ _ _ [.int x68] h _ _
        refine me_bipush (pc' := 217) (v := 10) dL_act_215 rfl kc_b10 ?_
        refine me_icmp_ge (pc' := 220) (tgt := 387) dL_act_217 (by decide) rfl (fun c70 => ?_) (fun c70 => ?_)
        · exact me_vret dL_act_387 rfl (fun z => z) rfl
        · refine me_aload_n (pc' := 221) (i := 0) dL_act_220 rfl rfl rfl ?_
          refine me_iload_n (pc' := 222) (i := 2) dL_act_221 rfl rfl rfl ?_
          refine me_iload (pc' := 224) (i := 6) dL_act_222 rfl rfl ?_
          refine me_callV (As := [.int x4, .int x67]) (st := []) (F' := (mm_Sq q)) (G' := (mm_Sq q)) (F'' := (mm_Sq q)) (pc' := 227) dL_act_224 rfl mfX10_availableOn rfl lkL_80 (mm_ks kd_0) rfl (mm_ltq kd_0) ⟨Nat.le_of_ble_eq_true rfl, Nat.le_of_ble_eq_true rfl⟩ (Nat.le_of_ble_eq_true rfl) (fun z => z) (rX10_availableOn (q := q) x4 x67 h ) (fun x71 e72 => ?_)
          rcases x71 with ⟨v73 | E75, h74⟩
          · refine Or.inl ⟨_, _, rfl, fun z => z, ?_⟩
            show mm_E2 _ _ _ _ _ [.int v73] h74 _ _
            try dsimp only
            refine me_iload_n (pc' := 228) (i := 3) dL_act_227 rfl rfl rfl ?_
            refine me_icmp_lt (pc' := 231) (tgt := 387) dL_act_228 (by decide) rfl (fun c76 => ?_) (fun c76 => ?_)
            · exact me_vret dL_act_387 rfl (fun z => z) rfl
            · refine me_aload_n (pc' := 232) (i := 0) dL_act_231 rfl rfl rfl ?_
              refine me_iload_n (pc' := 233) (i := 2) dL_act_232 rfl rfl rfl ?_
              refine me_iload_n (pc' := 234) (i := 3) dL_act_233 rfl rfl rfl ?_
              refine me_iload (pc' := 236) (i := 6) dL_act_234 rfl rfl ?_
              refine me_callV (As := [.int x4, .int x5, .int x67]) (st := []) (F' := (mm_Sq q)) (G' := (mm_Sq q)) (F'' := (mm_Sq q)) (pc' := 239) dL_act_236 rfl mfX10_reserve rfl lkL_87 (mm_ks kd_0) rfl (mm_ltq kd_0) ⟨Nat.le_of_ble_eq_true rfl, Nat.le_of_ble_eq_true rfl⟩ (Nat.le_of_ble_eq_true rfl) (fun z => z) (rX10_reserve (q := q) x4 x5 x67 h74 ) (fun x77 e78 => ?_)
              rcases x77 with ⟨v79 | E81, h80⟩
              · refine Or.inl ⟨_, _, rfl, fun z => z, ?_⟩
                show mm_E2 _ _ _ _ _ [.int v79] h80 _ _
                try dsimp only
                refine me_pop (pc' := 240) dL_act_239 rfl rfl ?_
                refine me_goto (tgt := 387) dL_act_240 (by decide) ?_
                exact me_vret dL_act_387 rfl (fun z => z) rfl
              · exact Or.inr ⟨_, _, rfl, rfl, fun z => z, fun y9 hy9 => by rw [← Option.some.inj hy9]; rfl⟩
          · exact Or.inr ⟨_, _, rfl, rfl, fun z => z, fun y9 hy9 => by rw [← Option.some.inj hy9]; rfl⟩
      refine mm_if (fun c82 => ?_) (fun c82 => ?_)
      · refine me_tsw c82 dL_act_69 (by decide) (by decide) (tgt := 196) (off := 127) (by decide) (by decide) ?_
        refine me_aload_n (pc' := 197) (i := 0) dL_act_196 rfl rfl rfl ?_
        refine me_callV (As := []) (st := []) (F' := (mm_Sq q)) (G' := (mm_Sq q)) (F'' := (mm_Sq q)) (pc' := 200) dL_act_197 rfl mfX10_day rfl lkL_72 (mm_ks kd_0) rfl (mm_ltq kd_0) ⟨Nat.le_of_ble_eq_true rfl, Nat.le_of_ble_eq_true rfl⟩ (Nat.le_of_ble_eq_true rfl) (fun z => z) (rX10_day (q := q) h ) (fun x83 e84 => Or.inl ⟨_, _, rfl, fun z => z, ?_⟩)
        show mm_E2 _ _ _ _ _ [.int x83] h _ _
        refine me_iload_n (pc' := 201) (i := 1) dL_act_200 rfl rfl rfl ?_
        refine me_sipush (pc' := 204) (v := 2048) dL_act_201 rfl kc_s2048 ?_
        refine me_idiv (pc' := 205) dL_act_204 rfl kc_nz2048 ?_
        refine me_bipush (pc' := 207) (v := 10) dL_act_205 rfl kc_b10 ?_
        refine me_irem (pc' := 208) dL_act_207 rfl kc_nz10 ?_
        refine me_iadd (pc' := 209) dL_act_208 rfl ?_
        refine mm_bnd ((x83 + ((p1 / 2048) - (p1 / 2048) / 10 * 10))) (fun x85 => [some (.ref 0), some (.int p1), some (.int x4), some (.int x5), some (.int y8), some (.int y12), none]) (fun x85 => [.int x85]) (fun _ => h) (fun x85 => ?_)
        refine me_istore (pc' := 211) (i := 6) (L' := [some (.ref 0), some (.int p1), some (.int x4), some (.int x5), some (.int y8), some (.int y12), some (.int x85)]) dL_act_209 rfl (Nat.le_of_ble_eq_true rfl) (Nat.le_of_ble_eq_true rfl) rfl ?_
        refine me_aload_n (pc' := 212) (i := 0) dL_act_211 rfl rfl rfl ?_
        refine me_callV (As := []) (st := []) (F' := (mm_Sq q)) (G' := (mm_Sq q)) (F'' := (mm_Sq q)) (pc' := 215) dL_act_212 rfl mfX10_reservationCount rfl lkL_66 (mm_ks kd_0) rfl (mm_ltq kd_0) ⟨Nat.le_of_ble_eq_true rfl, Nat.le_of_ble_eq_true rfl⟩ (Nat.le_of_ble_eq_true rfl) (fun z => z) (rX10_reservationCount (q := q) h ) (fun x86 e87 => Or.inl ⟨_, _, rfl, fun z => z, ?_⟩)
        show mm_E2 _ _ _ _ _ [.int x86] h _ _
        refine me_bipush (pc' := 217) (v := 10) dL_act_215 rfl kc_b10 ?_
        refine me_icmp_ge (pc' := 220) (tgt := 387) dL_act_217 (by decide) rfl (fun c88 => ?_) (fun c88 => ?_)
        · exact me_vret dL_act_387 rfl (fun z => z) rfl
        · refine me_aload_n (pc' := 221) (i := 0) dL_act_220 rfl rfl rfl ?_
          refine me_iload_n (pc' := 222) (i := 2) dL_act_221 rfl rfl rfl ?_
          refine me_iload (pc' := 224) (i := 6) dL_act_222 rfl rfl ?_
          refine me_callV (As := [.int x4, .int x85]) (st := []) (F' := (mm_Sq q)) (G' := (mm_Sq q)) (F'' := (mm_Sq q)) (pc' := 227) dL_act_224 rfl mfX10_availableOn rfl lkL_80 (mm_ks kd_0) rfl (mm_ltq kd_0) ⟨Nat.le_of_ble_eq_true rfl, Nat.le_of_ble_eq_true rfl⟩ (Nat.le_of_ble_eq_true rfl) (fun z => z) (rX10_availableOn (q := q) x4 x85 h ) (fun x89 e90 => ?_)
          rcases x89 with ⟨v91 | E93, h92⟩
          · refine Or.inl ⟨_, _, rfl, fun z => z, ?_⟩
            show mm_E2 _ _ _ _ _ [.int v91] h92 _ _
            try dsimp only
            refine me_iload_n (pc' := 228) (i := 3) dL_act_227 rfl rfl rfl ?_
            refine me_icmp_lt (pc' := 231) (tgt := 387) dL_act_228 (by decide) rfl (fun c94 => ?_) (fun c94 => ?_)
            · exact me_vret dL_act_387 rfl (fun z => z) rfl
            · refine me_aload_n (pc' := 232) (i := 0) dL_act_231 rfl rfl rfl ?_
              refine me_iload_n (pc' := 233) (i := 2) dL_act_232 rfl rfl rfl ?_
              refine me_iload_n (pc' := 234) (i := 3) dL_act_233 rfl rfl rfl ?_
              refine me_iload (pc' := 236) (i := 6) dL_act_234 rfl rfl ?_
              refine me_callV (As := [.int x4, .int x5, .int x85]) (st := []) (F' := (mm_Sq q)) (G' := (mm_Sq q)) (F'' := (mm_Sq q)) (pc' := 239) dL_act_236 rfl mfX10_reserve rfl lkL_87 (mm_ks kd_0) rfl (mm_ltq kd_0) ⟨Nat.le_of_ble_eq_true rfl, Nat.le_of_ble_eq_true rfl⟩ (Nat.le_of_ble_eq_true rfl) (fun z => z) (rX10_reserve (q := q) x4 x5 x85 h92 ) (fun x95 e96 => ?_)
              rcases x95 with ⟨v97 | E99, h98⟩
              · refine Or.inl ⟨_, _, rfl, fun z => z, ?_⟩
                show mm_E2 _ _ _ _ _ [.int v97] h98 _ _
                try dsimp only
                refine me_pop (pc' := 240) dL_act_239 rfl rfl ?_
                refine me_goto (tgt := 387) dL_act_240 (by decide) ?_
                exact me_vret dL_act_387 rfl (fun z => z) rfl
              · exact Or.inr ⟨_, _, rfl, rfl, fun z => z, fun y9 hy9 => by rw [← Option.some.inj hy9]; rfl⟩
          · exact Or.inr ⟨_, _, rfl, rfl, fun z => z, fun y9 hy9 => by rw [← Option.some.inj hy9]; rfl⟩
      refine mm_if (fun c100 => ?_) (fun c100 => ?_)
      · refine me_tsw c100 dL_act_69 (by decide) (by decide) (tgt := 196) (off := 127) (by decide) (by decide) ?_
        refine me_aload_n (pc' := 197) (i := 0) dL_act_196 rfl rfl rfl ?_
        refine me_callV (As := []) (st := []) (F' := (mm_Sq q)) (G' := (mm_Sq q)) (F'' := (mm_Sq q)) (pc' := 200) dL_act_197 rfl mfX10_day rfl lkL_72 (mm_ks kd_0) rfl (mm_ltq kd_0) ⟨Nat.le_of_ble_eq_true rfl, Nat.le_of_ble_eq_true rfl⟩ (Nat.le_of_ble_eq_true rfl) (fun z => z) (rX10_day (q := q) h ) (fun x101 e102 => Or.inl ⟨_, _, rfl, fun z => z, ?_⟩)
        show mm_E2 _ _ _ _ _ [.int x101] h _ _
        refine me_iload_n (pc' := 201) (i := 1) dL_act_200 rfl rfl rfl ?_
        refine me_sipush (pc' := 204) (v := 2048) dL_act_201 rfl kc_s2048 ?_
        refine me_idiv (pc' := 205) dL_act_204 rfl kc_nz2048 ?_
        refine me_bipush (pc' := 207) (v := 10) dL_act_205 rfl kc_b10 ?_
        refine me_irem (pc' := 208) dL_act_207 rfl kc_nz10 ?_
        refine me_iadd (pc' := 209) dL_act_208 rfl ?_
        refine mm_bnd ((x101 + ((p1 / 2048) - (p1 / 2048) / 10 * 10))) (fun x103 => [some (.ref 0), some (.int p1), some (.int x4), some (.int x5), some (.int y8), some (.int y12), none]) (fun x103 => [.int x103]) (fun _ => h) (fun x103 => ?_)
        refine me_istore (pc' := 211) (i := 6) (L' := [some (.ref 0), some (.int p1), some (.int x4), some (.int x5), some (.int y8), some (.int y12), some (.int x103)]) dL_act_209 rfl (Nat.le_of_ble_eq_true rfl) (Nat.le_of_ble_eq_true rfl) rfl ?_
        refine me_aload_n (pc' := 212) (i := 0) dL_act_211 rfl rfl rfl ?_
        refine me_callV (As := []) (st := []) (F' := (mm_Sq q)) (G' := (mm_Sq q)) (F'' := (mm_Sq q)) (pc' := 215) dL_act_212 rfl mfX10_reservationCount rfl lkL_66 (mm_ks kd_0) rfl (mm_ltq kd_0) ⟨Nat.le_of_ble_eq_true rfl, Nat.le_of_ble_eq_true rfl⟩ (Nat.le_of_ble_eq_true rfl) (fun z => z) (rX10_reservationCount (q := q) h ) (fun x104 e105 => Or.inl ⟨_, _, rfl, fun z => z, ?_⟩)
        show mm_E2 _ _ _ _ _ [.int x104] h _ _
        refine me_bipush (pc' := 217) (v := 10) dL_act_215 rfl kc_b10 ?_
        refine me_icmp_ge (pc' := 220) (tgt := 387) dL_act_217 (by decide) rfl (fun c106 => ?_) (fun c106 => ?_)
        · exact me_vret dL_act_387 rfl (fun z => z) rfl
        · refine me_aload_n (pc' := 221) (i := 0) dL_act_220 rfl rfl rfl ?_
          refine me_iload_n (pc' := 222) (i := 2) dL_act_221 rfl rfl rfl ?_
          refine me_iload (pc' := 224) (i := 6) dL_act_222 rfl rfl ?_
          refine me_callV (As := [.int x4, .int x103]) (st := []) (F' := (mm_Sq q)) (G' := (mm_Sq q)) (F'' := (mm_Sq q)) (pc' := 227) dL_act_224 rfl mfX10_availableOn rfl lkL_80 (mm_ks kd_0) rfl (mm_ltq kd_0) ⟨Nat.le_of_ble_eq_true rfl, Nat.le_of_ble_eq_true rfl⟩ (Nat.le_of_ble_eq_true rfl) (fun z => z) (rX10_availableOn (q := q) x4 x103 h ) (fun x107 e108 => ?_)
          rcases x107 with ⟨v109 | E111, h110⟩
          · refine Or.inl ⟨_, _, rfl, fun z => z, ?_⟩
            show mm_E2 _ _ _ _ _ [.int v109] h110 _ _
            try dsimp only
            refine me_iload_n (pc' := 228) (i := 3) dL_act_227 rfl rfl rfl ?_
            refine me_icmp_lt (pc' := 231) (tgt := 387) dL_act_228 (by decide) rfl (fun c112 => ?_) (fun c112 => ?_)
            · exact me_vret dL_act_387 rfl (fun z => z) rfl
            · refine me_aload_n (pc' := 232) (i := 0) dL_act_231 rfl rfl rfl ?_
              refine me_iload_n (pc' := 233) (i := 2) dL_act_232 rfl rfl rfl ?_
              refine me_iload_n (pc' := 234) (i := 3) dL_act_233 rfl rfl rfl ?_
              refine me_iload (pc' := 236) (i := 6) dL_act_234 rfl rfl ?_
              refine me_callV (As := [.int x4, .int x5, .int x103]) (st := []) (F' := (mm_Sq q)) (G' := (mm_Sq q)) (F'' := (mm_Sq q)) (pc' := 239) dL_act_236 rfl mfX10_reserve rfl lkL_87 (mm_ks kd_0) rfl (mm_ltq kd_0) ⟨Nat.le_of_ble_eq_true rfl, Nat.le_of_ble_eq_true rfl⟩ (Nat.le_of_ble_eq_true rfl) (fun z => z) (rX10_reserve (q := q) x4 x5 x103 h110 ) (fun x113 e114 => ?_)
              rcases x113 with ⟨v115 | E117, h116⟩
              · refine Or.inl ⟨_, _, rfl, fun z => z, ?_⟩
                show mm_E2 _ _ _ _ _ [.int v115] h116 _ _
                try dsimp only
                refine me_pop (pc' := 240) dL_act_239 rfl rfl ?_
                refine me_goto (tgt := 387) dL_act_240 (by decide) ?_
                exact me_vret dL_act_387 rfl (fun z => z) rfl
              · exact Or.inr ⟨_, _, rfl, rfl, fun z => z, fun y9 hy9 => by rw [← Option.some.inj hy9]; rfl⟩
          · exact Or.inr ⟨_, _, rfl, rfl, fun z => z, fun y9 hy9 => by rw [← Option.some.inj hy9]; rfl⟩
      refine mm_if (fun c118 => ?_) (fun c118 => ?_)
      · refine me_tsw c118 dL_act_69 (by decide) (by decide) (tgt := 243) (off := 174) (by decide) (by decide) ?_
        refine me_iload (pc' := 245) (i := 4) dL_act_243 rfl rfl ?_
        refine me_if_lt (pc' := 248) (tgt := 387) dL_act_245 (by decide) rfl (fun c119 => ?_) (fun c119 => ?_)
        · exact me_vret dL_act_387 rfl (fun z => z) rfl
        · refine me_aload_n (pc' := 249) (i := 0) dL_act_248 rfl rfl rfl ?_
          refine me_iload (pc' := 251) (i := 4) dL_act_249 rfl rfl ?_
          refine me_callV (As := [.int y8]) (st := []) (F' := (mm_Sq q)) (G' := (mm_Sq q)) (F'' := (mm_Sq q)) (pc' := 254) dL_act_251 rfl mfX10_whyNotShipped rfl lkL_91 (mm_ks kd_0) rfl (mm_ltq kd_0) ⟨Nat.le_of_ble_eq_true rfl, Nat.le_of_ble_eq_true rfl⟩ (Nat.le_of_ble_eq_true rfl) (fun z => z) (rX10_whyNotShipped (q := q) y8 h ) (fun x120 e121 => ?_)
          rcases x120 with ⟨v122 | E124, h123⟩
          · refine Or.inl ⟨_, _, rfl, fun z => z, ?_⟩
            show mm_E2 _ _ _ _ _ [.int v122] h123 _ _
            try dsimp only
            refine me_if_ne (pc' := 257) (tgt := 387) dL_act_254 (by decide) rfl (fun c125 => ?_) (fun c125 => ?_)
            · exact me_vret dL_act_387 rfl (fun z => z) rfl
            · refine me_aload_n (pc' := 258) (i := 0) dL_act_257 rfl rfl rfl ?_
              refine me_iload (pc' := 260) (i := 4) dL_act_258 rfl rfl ?_
              refine me_callV (As := [.int y8]) (st := []) (F' := (mm_Sq q)) (G' := (mm_Sq q)) (F'' := (mm_Sq q)) (pc' := 263) dL_act_260 rfl mfX10_ship rfl lkL_94 (mm_ks kd_0) rfl (mm_ltq kd_0) ⟨Nat.le_of_ble_eq_true rfl, Nat.le_of_ble_eq_true rfl⟩ (Nat.le_of_ble_eq_true rfl) (fun z => z) (rX10_ship (q := q) y8 h123 ) (fun x126 e127 => ?_)
              rcases x126 with ⟨v128 | E130, h129⟩
              · refine Or.inl ⟨_, _, rfl, fun z => z, ?_⟩
                show mm_E2 _ _ _ _ _ [.int v128] h129 _ _
                try dsimp only
                refine me_pop (pc' := 264) dL_act_263 rfl rfl ?_
                refine me_goto (tgt := 387) dL_act_264 (by decide) ?_
                exact me_vret dL_act_387 rfl (fun z => z) rfl
              · exact Or.inr ⟨_, _, rfl, rfl, fun z => z, fun y9 hy9 => by rw [← Option.some.inj hy9]; rfl⟩
          · exact Or.inr ⟨_, _, rfl, rfl, fun z => z, fun y9 hy9 => by rw [← Option.some.inj hy9]; rfl⟩
      refine mm_if (fun c131 => ?_) (fun c131 => ?_)
      · refine me_tsw c131 dL_act_69 (by decide) (by decide) (tgt := 267) (off := 198) (by decide) (by decide) ?_
        refine me_iload (pc' := 269) (i := 4) dL_act_267 rfl rfl ?_
        refine me_if_lt (pc' := 272) (tgt := 387) dL_act_269 (by decide) rfl (fun c132 => ?_) (fun c132 => ?_)
        · exact me_vret dL_act_387 rfl (fun z => z) rfl
        · refine me_aload_n (pc' := 273) (i := 0) dL_act_272 rfl rfl rfl ?_
          refine me_iload (pc' := 275) (i := 4) dL_act_273 rfl rfl ?_
          refine me_callV (As := [.int y8]) (st := []) (F' := (mm_Sq q)) (G' := (mm_Sq q)) (F'' := (mm_Sq q)) (pc' := 278) dL_act_275 rfl mfX10_isOpen rfl lkL_97 (mm_ks kd_0) rfl (mm_ltq kd_0) ⟨Nat.le_of_ble_eq_true rfl, Nat.le_of_ble_eq_true rfl⟩ (Nat.le_of_ble_eq_true rfl) (fun z => z) (rX10_isOpen (q := q) y8 h ) (fun x133 e134 => ?_)
          rcases x133 with ⟨v135 | E137, h136⟩
          · refine Or.inl ⟨_, _, rfl, fun z => z, ?_⟩
            show mm_E2 _ _ _ _ _ [.int (mx_bi v135)] h136 _ _
            try dsimp only
            refine me_ifB_eq (pc' := 281) (tgt := 387) dL_act_278 (by decide) rfl (fun c138 => ?_) (fun c138 => ?_)
            · exact me_vret dL_act_387 rfl (fun z => z) rfl
            · refine me_iload_n (pc' := 282) (i := 1) dL_act_281 rfl rfl rfl ?_
              refine me_sipush (pc' := 285) (v := 2048) dL_act_282 rfl kc_s2048 ?_
              refine me_idiv (pc' := 286) dL_act_285 rfl kc_nz2048 ?_
              refine me_iconst (pc' := 287) (v := 2) dL_act_286 rfl kc_i2 ?_
              refine me_irem (pc' := 288) dL_act_287 rfl kc_nz2 ?_
              refine me_if_ne (pc' := 291) (tgt := 387) dL_act_288 (by decide) rfl (fun c139 => ?_) (fun c139 => ?_)
              · exact me_vret dL_act_387 rfl (fun z => z) rfl
              · refine me_aload_n (pc' := 292) (i := 0) dL_act_291 rfl rfl rfl ?_
                refine me_iload (pc' := 294) (i := 4) dL_act_292 rfl rfl ?_
                refine me_callV (As := [.int y8]) (st := []) (F' := (mm_Sq q)) (G' := (mm_Sq q)) (F'' := (mm_Sq q)) (pc' := 297) dL_act_294 rfl mfX10_cancel rfl lkL_101 (mm_ks kd_0) rfl (mm_ltq kd_0) ⟨Nat.le_of_ble_eq_true rfl, Nat.le_of_ble_eq_true rfl⟩ (Nat.le_of_ble_eq_true rfl) (fun z => z) (rX10_cancel (q := q) y8 h136 ) (fun x140 e141 => ?_)
                rcases x140 with ⟨v142 | E144, h143⟩
                · refine Or.inl ⟨_, _, rfl, fun z => z, ?_⟩
                  show mm_E2 _ _ _ _ _ [.int v142] h143 _ _
                  try dsimp only
                  refine me_pop (pc' := 298) dL_act_297 rfl rfl ?_
                  refine me_goto (tgt := 387) dL_act_298 (by decide) ?_
                  exact me_vret dL_act_387 rfl (fun z => z) rfl
                · exact Or.inr ⟨_, _, rfl, rfl, fun z => z, fun y9 hy9 => by rw [← Option.some.inj hy9]; rfl⟩
          · exact Or.inr ⟨_, _, rfl, rfl, fun z => z, fun y9 hy9 => by rw [← Option.some.inj hy9]; rfl⟩
      refine mm_if (fun c145 => ?_) (fun c145 => ?_)
      · refine me_tsw c145 dL_act_69 (by decide) (by decide) (tgt := 301) (off := 232) (by decide) (by decide) ?_
        refine me_iload (pc' := 303) (i := 4) dL_act_301 rfl rfl ?_
        refine me_if_lt (pc' := 306) (tgt := 387) dL_act_303 (by decide) rfl (fun c146 => ?_) (fun c146 => ?_)
        · exact me_vret dL_act_387 rfl (fun z => z) rfl
        · refine me_aload_n (pc' := 307) (i := 0) dL_act_306 rfl rfl rfl ?_
          refine me_iload (pc' := 309) (i := 4) dL_act_307 rfl rfl ?_
          refine me_callV (As := [.int y8]) (st := []) (F' := (mm_Sq q)) (G' := (mm_Sq q)) (F'' := (mm_Sq q)) (pc' := 312) dL_act_309 rfl mfX10_isOpen rfl lkL_97 (mm_ks kd_0) rfl (mm_ltq kd_0) ⟨Nat.le_of_ble_eq_true rfl, Nat.le_of_ble_eq_true rfl⟩ (Nat.le_of_ble_eq_true rfl) (fun z => z) (rX10_isOpen (q := q) y8 h ) (fun x147 e148 => ?_)
          rcases x147 with ⟨v149 | E151, h150⟩
          · refine Or.inl ⟨_, _, rfl, fun z => z, ?_⟩
            show mm_E2 _ _ _ _ _ [.int (mx_bi v149)] h150 _ _
            try dsimp only
            refine me_ifB_eq (pc' := 315) (tgt := 387) dL_act_312 (by decide) rfl (fun c152 => ?_) (fun c152 => ?_)
            · exact me_vret dL_act_387 rfl (fun z => z) rfl
            · refine me_aload_n (pc' := 316) (i := 0) dL_act_315 rfl rfl rfl ?_
              refine me_iload (pc' := 318) (i := 4) dL_act_316 rfl rfl ?_
              refine me_callV (As := [.int y8]) (st := []) (F' := (mm_Sq q)) (G' := (mm_Sq q)) (F'' := (mm_Sq q)) (pc' := 321) dL_act_318 rfl mfX10_refill rfl lkL_104 (mm_ks kd_0) rfl (mm_ltq kd_0) ⟨Nat.le_of_ble_eq_true rfl, Nat.le_of_ble_eq_true rfl⟩ (Nat.le_of_ble_eq_true rfl) (fun z => z) (rX10_refill (q := q) y8 h150 ) (fun x153 e154 => ?_)
              rcases x153 with ⟨v155 | E157, h156⟩
              · refine Or.inl ⟨_, _, rfl, fun z => z, ?_⟩
                show mm_E2 _ _ _ _ _ [.int v155] h156 _ _
                try dsimp only
                refine me_pop (pc' := 322) dL_act_321 rfl rfl ?_
                refine me_goto (tgt := 387) dL_act_322 (by decide) ?_
                exact me_vret dL_act_387 rfl (fun z => z) rfl
              · exact Or.inr ⟨_, _, rfl, rfl, fun z => z, fun y9 hy9 => by rw [← Option.some.inj hy9]; rfl⟩
          · exact Or.inr ⟨_, _, rfl, rfl, fun z => z, fun y9 hy9 => by rw [← Option.some.inj hy9]; rfl⟩
      refine mm_if (fun c158 => ?_) (fun c158 => ?_)
      · refine me_tsw c158 dL_act_69 (by decide) (by decide) (tgt := 325) (off := 256) (by decide) (by decide) ?_
        refine me_iload (pc' := 327) (i := 5) dL_act_325 rfl rfl ?_
        refine me_if_lt (pc' := 330) (tgt := 387) dL_act_327 (by decide) rfl (fun c159 => ?_) (fun c159 => ?_)
        · exact me_vret dL_act_387 rfl (fun z => z) rfl
        · refine me_iload_n (pc' := 331) (i := 1) dL_act_330 rfl rfl rfl ?_
          refine me_sipush (pc' := 334) (v := 2048) dL_act_331 rfl kc_s2048 ?_
          refine me_idiv (pc' := 335) dL_act_334 rfl kc_nz2048 ?_
          refine me_bipush (pc' := 337) (v := 25) dL_act_335 rfl kc_b25 ?_
          refine me_irem (pc' := 338) dL_act_337 rfl kc_nz25 ?_
          refine me_aload_n (pc' := 339) (i := 0) dL_act_338 rfl rfl rfl ?_
          refine me_iload (pc' := 341) (i := 5) dL_act_339 rfl rfl ?_
          refine me_callV (As := [.int y12]) (st := [.int ((p1 / 2048) - (p1 / 2048) / 25 * 25)]) (F' := (mm_Sq q)) (G' := (mm_Sq q)) (F'' := (mm_Sq q)) (pc' := 344) dL_act_341 rfl mfX10_reservedOf rfl lkL_107 (mm_ks kd_0) rfl (mm_ltq kd_0) ⟨Nat.le_of_ble_eq_true rfl, Nat.le_of_ble_eq_true rfl⟩ (Nat.le_of_ble_eq_true rfl) (fun z => z) (rX10_reservedOf (q := q) y12 h ) (fun x160 e161 => ?_)
          rcases x160 with ⟨v162 | E164, h163⟩
          · refine Or.inl ⟨_, _, rfl, fun z => z, ?_⟩
            show mm_E2 _ _ _ _ _ [.int v162, .int ((p1 / 2048) - (p1 / 2048) / 25 * 25)] h163 _ _
            try dsimp only
            refine me_icmp_lt (pc' := 347) (tgt := 387) dL_act_344 (by decide) rfl (fun c165 => ?_) (fun c165 => ?_)
            · exact me_vret dL_act_387 rfl (fun z => z) rfl
            · refine me_aload_n (pc' := 348) (i := 0) dL_act_347 rfl rfl rfl ?_
              refine me_iload (pc' := 350) (i := 5) dL_act_348 rfl rfl ?_
              refine me_iload_n (pc' := 351) (i := 1) dL_act_350 rfl rfl rfl ?_
              refine me_sipush (pc' := 354) (v := 2048) dL_act_351 rfl kc_s2048 ?_
              refine me_idiv (pc' := 355) dL_act_354 rfl kc_nz2048 ?_
              refine me_bipush (pc' := 357) (v := 25) dL_act_355 rfl kc_b25 ?_
              refine me_irem (pc' := 358) dL_act_357 rfl kc_nz25 ?_
              refine me_callV (As := [.int y12, .int ((p1 / 2048) - (p1 / 2048) / 25 * 25)]) (st := []) (F' := (mm_Sq q)) (G' := (mm_Sq q)) (F'' := (mm_Sq q)) (pc' := 361) dL_act_358 rfl mfX10_takeStock rfl lkL_110 (mm_ks kd_0) rfl (mm_ltq kd_0) ⟨Nat.le_of_ble_eq_true rfl, Nat.le_of_ble_eq_true rfl⟩ (Nat.le_of_ble_eq_true rfl) (fun z => z) (rX10_takeStock (q := q) y12 (((p1 / 2048) - (p1 / 2048) / 25 * 25)) h163 ) (fun x166 e167 => ?_)
              rcases x166 with ⟨v168 | E170, h169⟩
              · refine Or.inl ⟨_, _, rfl, fun z => z, ?_⟩
                show mm_E2 _ _ _ _ _ [.int v168] h169 _ _
                try dsimp only
                refine me_pop (pc' := 362) dL_act_361 rfl rfl ?_
                refine me_goto (tgt := 387) dL_act_362 (by decide) ?_
                exact me_vret dL_act_387 rfl (fun z => z) rfl
              · exact Or.inr ⟨_, _, rfl, rfl, fun z => z, fun y9 hy9 => by rw [← Option.some.inj hy9]; rfl⟩
          · exact Or.inr ⟨_, _, rfl, rfl, fun z => z, fun y9 hy9 => by rw [← Option.some.inj hy9]; rfl⟩
      refine mm_if (fun c171 => ?_) (fun c171 => ?_)
      · refine me_tsw c171 dL_act_69 (by decide) (by decide) (tgt := 365) (off := 296) (by decide) (by decide) ?_
        refine me_aload_n (pc' := 366) (i := 0) dL_act_365 rfl rfl rfl ?_
        refine me_callV (As := []) (st := []) (F' := (mm_Sq q)) (G' := (mm_Sq q)) (F'' := (mm_Sq q)) (pc' := 369) dL_act_366 rfl mfX10_writeOffExpired rfl lkL_113 (mm_ks kd_0) rfl (mm_ltq kd_0) ⟨Nat.le_of_ble_eq_true rfl, Nat.le_of_ble_eq_true rfl⟩ (Nat.le_of_ble_eq_true rfl) (fun z => z) (rX10_writeOffExpired (q := q) h ) (fun x172 e173 => Or.inl ⟨_, _, rfl, fun z => z, ?_⟩)
        show mm_E2 _ _ _ _ _ [.int x172.1] x172.2 _ _
        refine me_pop (pc' := 370) dL_act_369 rfl rfl ?_
        refine me_goto (tgt := 387) dL_act_370 (by decide) ?_
        exact me_vret dL_act_387 rfl (fun z => z) rfl
      refine me_tableOut (tgt := 373) dL_act_69 (mm_out11 c14 c25 c36 c50 c64 c82 c100 c118 c131 c145 c158 c171) (by decide) ?_
      refine me_aload_n (pc' := 374) (i := 0) dL_act_373 rfl rfl rfl ?_
      refine me_iconst (pc' := 375) (v := 1) dL_act_374 rfl kc_i1 ?_
      refine me_iload_n (pc' := 376) (i := 1) dL_act_375 rfl rfl rfl ?_
      refine me_sipush (pc' := 379) (v := 2048) dL_act_376 rfl kc_s2048 ?_
      refine me_idiv (pc' := 380) dL_act_379 rfl kc_nz2048 ?_
      refine me_iconst (pc' := 381) (v := 4) dL_act_380 rfl kc_i4 ?_
      refine me_irem (pc' := 382) dL_act_381 rfl kc_nz4 ?_
      refine me_iadd (pc' := 383) dL_act_382 rfl ?_
      refine me_callV (As := [.int (1 + ((p1 / 2048) - (p1 / 2048) / 4 * 4))]) (st := []) (F' := (mm_Sq q)) (G' := (mm_Sq q)) (F'' := (mm_Sq q)) (pc' := 386) dL_act_383 rfl mfX10_passDays rfl lkL_116 (mm_ks kd_0) rfl (mm_ltq kd_0) ⟨Nat.le_of_ble_eq_true rfl, Nat.le_of_ble_eq_true rfl⟩ (Nat.le_of_ble_eq_true rfl) (fun z => z) (rX10_passDays (q := q) ((1 + ((p1 / 2048) - (p1 / 2048) / 4 * 4))) h ) (fun x174 e175 => ?_)
      rcases x174 with ⟨v176 | E178, h177⟩
      · refine Or.inl ⟨_, _, rfl, fun z => z, ?_⟩
        show mm_E2 _ _ _ _ _ [.int v176] h177 _ _
        try dsimp only
        refine me_pop (pc' := 387) dL_act_386 rfl rfl ?_
        exact me_vret dL_act_387 rfl (fun z => z) rfl
      · exact Or.inr ⟨_, _, rfl, rfl, fun z => z, fun y9 hy9 => by rw [← Option.some.inj hy9]; rfl⟩
    refine me_if_ne (pc' := 50) (tgt := 54) dL_act_47 (by decide) rfl (fun c179 => ?_) (fun c179 => ?_)
    · refine me_iload_n (pc' := 55) (i := 1) dL_act_54 rfl rfl rfl ?_
      refine me_bipush (pc' := 57) (v := 16) dL_act_55 rfl kc_b16 ?_
      refine me_idiv (pc' := 58) dL_act_57 rfl kc_nz16 ?_
      refine me_aload_n (pc' := 59) (i := 0) dL_act_58 rfl rfl rfl ?_
      refine me_callV (As := []) (st := [.int (p1 / 16)]) (F' := (mm_Sq q)) (G' := (mm_Sq q)) (F'' := (mm_Sq q)) (pc' := 62) dL_act_59 rfl mfX10_batchCount rfl lkL_69 (mm_ks kd_0) rfl (mm_ltq kd_0) ⟨Nat.le_of_ble_eq_true rfl, Nat.le_of_ble_eq_true rfl⟩ (Nat.le_of_ble_eq_true rfl) (fun z => z) (rX10_batchCount (q := q) h ) (fun x180 e181 => Or.inl ⟨_, _, rfl, fun z => z, ?_⟩)
      show mm_E2 _ _ _ _ _ [.int x180, .int (p1 / 16)] h _ _
      refine mm_if (fun _ => mm_none) (fun c182 => ?_)
      refine me_irem (pc' := 63) dL_act_62 rfl c182 ?_
      exact j13p (((p1 / 16) - (p1 / 16) / x180 * x180))
    · refine me_iconst (pc' := 51) (v := (-1)) dL_act_50 rfl kc_im1 ?_
      refine me_goto (tgt := 63) dL_act_51 (by decide) ?_
      exact j13p (-1)
  refine me_if_ne (pc' := 28) (tgt := 32) dL_act_25 (by decide) rfl (fun c183 => ?_) (fun c183 => ?_)
  · refine me_iload_n (pc' := 33) (i := 1) dL_act_32 rfl rfl rfl ?_
    refine me_bipush (pc' := 35) (v := 16) dL_act_33 rfl kc_b16 ?_
    refine me_idiv (pc' := 36) dL_act_35 rfl kc_nz16 ?_
    refine me_aload_n (pc' := 37) (i := 0) dL_act_36 rfl rfl rfl ?_
    refine me_callV (As := []) (st := [.int (p1 / 16)]) (F' := (mm_Sq q)) (G' := (mm_Sq q)) (F'' := (mm_Sq q)) (pc' := 40) dL_act_37 rfl mfX10_reservationCount rfl lkL_66 (mm_ks kd_0) rfl (mm_ltq kd_0) ⟨Nat.le_of_ble_eq_true rfl, Nat.le_of_ble_eq_true rfl⟩ (Nat.le_of_ble_eq_true rfl) (fun z => z) (rX10_reservationCount (q := q) h ) (fun x184 e185 => Or.inl ⟨_, _, rfl, fun z => z, ?_⟩)
    show mm_E2 _ _ _ _ _ [.int x184, .int (p1 / 16)] h _ _
    refine mm_if (fun _ => mm_none) (fun c186 => ?_)
    refine me_irem (pc' := 41) dL_act_40 rfl c186 ?_
    exact j9p (((p1 / 16) - (p1 / 16) / x184 * x184))
  · refine me_iconst (pc' := 29) (v := (-1)) dL_act_28 rfl kc_im1 ?_
    refine me_goto (tgt := 41) dL_act_29 (by decide) ?_
    exact j9p (-1)
end MMWL

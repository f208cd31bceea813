section MMWA
/-! printed walks (gen16.py, dec.py) -/
def gX4_get (o : Nat) (p0 : Int32) (h : mm_H) : Option Int32 :=
if p0 < 0 then
some 0
else
if p0 < (nI (mm_cap o)) then
if mm_ibd p0 (mm_cap o) = true then
some ((mh_I h (o + 1) (Int32.toNatClampNeg (p0)))) else none
else
some 0
theorem rX4_get {q : mm_q} (o : Nat) (p0 : Int32) (h : mm_H) (ho : mm_kd o = (0, 4)) : mm_R2 (mm_Sq q) (mm_Sq q) mX4_get [.ref o, .int p0] h (gX4_get o p0 h) (lf_i h) := by
  refine mm_body (L := [some (.ref o), some (.int p0)]) rfl (by decide +kernel) (Nat.le_of_ble_eq_true rfl) rfl ?_
  unfold gX4_get
  refine me_iload_n (pc' := 1) (i := 1) dX4_get_0 rfl rfl rfl ?_
  refine me_if_lt (pc' := 4) (tgt := 22) dX4_get_1 (by decide) rfl (fun c1 => ?_) (fun c1 => ?_)
  · refine me_iconst (pc' := 23) (v := 0) dX4_get_22 rfl kc_i0 ?_
    exact me_iret dX4_get_23 rfl (fun z => z) rfl
  · refine me_iload_n (pc' := 5) (i := 1) dX4_get_4 rfl rfl rfl ?_
    refine me_aload_n (pc' := 6) (i := 0) dX4_get_5 rfl rfl rfl ?_
    refine me_getR (pc' := 9) (q' := (o + 1)) dX4_get_6 rfl fkX4_13 (mm_ks ho) (mm_ltq ho) rfl (mrX4_0 ho) ?_
    refine me_alen (pc' := 10) (v := (nI (mm_cap o))) dX4_get_9 rfl (mm_ks (kdX4_0 ho)) (mm_ltq (kdX4_0 ho)) rfl ?_
    refine me_icmp_ge (pc' := 13) (tgt := 22) dX4_get_10 (by decide) rfl (fun c2 => ?_) (fun c2 => ?_)
    · refine me_iconst (pc' := 23) (v := 0) dX4_get_22 rfl kc_i0 ?_
      exact me_iret dX4_get_23 rfl (fun z => z) rfl
    · refine me_aload_n (pc' := 14) (i := 0) dX4_get_13 rfl rfl rfl ?_
      refine me_getR (pc' := 17) (q' := (o + 1)) dX4_get_14 rfl fkX4_13 (mm_ks ho) (mm_ltq ho) rfl (mrX4_0 ho) ?_
      refine me_iload_n (pc' := 18) (i := 1) dX4_get_17 rfl rfl rfl ?_
      refine mm_guard (fun c3 => ?_)
      refine me_iald (pc' := 19) dX4_get_18 rfl (mm_ks (kdX4_0 ho)) (mm_ltq (kdX4_0 ho)) (mm_ibd_of c3) ?_
      refine me_goto (tgt := 23) dX4_get_19 (by decide) ?_
      exact me_iret dX4_get_23 rfl (fun z => z) rfl
def gX4_put (o : Nat) (p0 : Int32) (p1 : Int32) (h : mm_H) : Option mm_H :=
if p0 < 0 then
some h
else
if p0 < (nI (mm_cap o)) then
if mm_ibd p0 (mm_cap o) = true then
(some (ms_I h (o + 1) (Int32.toNatClampNeg (p0)) p1)).bind (fun (h4 : mm_H) =>
some h4) else none
else
some h
theorem rX4_put {q : mm_q} (o : Nat) (p0 : Int32) (p1 : Int32) (h : mm_H) (ho : mm_kd o = (0, 4)) : mm_R2 (mm_Sq q) (mm_Sq q) mX4_put [.ref o, .int p0, .int p1] h (gX4_put o p0 p1 h) lf_v := by
  refine mm_body (L := [some (.ref o), some (.int p0), some (.int p1)]) rfl (by decide +kernel) (Nat.le_of_ble_eq_true rfl) rfl ?_
  unfold gX4_put
  refine me_iload_n (pc' := 1) (i := 1) dX4_put_0 rfl rfl rfl ?_
  refine me_if_lt (pc' := 4) (tgt := 20) dX4_put_1 (by decide) rfl (fun c1 => ?_) (fun c1 => ?_)
  · exact me_vret dX4_put_20 rfl (fun z => z) rfl
  · refine me_iload_n (pc' := 5) (i := 1) dX4_put_4 rfl rfl rfl ?_
    refine me_aload_n (pc' := 6) (i := 0) dX4_put_5 rfl rfl rfl ?_
    refine me_getR (pc' := 9) (q' := (o + 1)) dX4_put_6 rfl fkX4_13 (mm_ks ho) (mm_ltq ho) rfl (mrX4_0 ho) ?_
    refine me_alen (pc' := 10) (v := (nI (mm_cap o))) dX4_put_9 rfl (mm_ks (kdX4_0 ho)) (mm_ltq (kdX4_0 ho)) rfl ?_
    refine me_icmp_ge (pc' := 13) (tgt := 20) dX4_put_10 (by decide) rfl (fun c2 => ?_) (fun c2 => ?_)
    · exact me_vret dX4_put_20 rfl (fun z => z) rfl
    · refine me_aload_n (pc' := 14) (i := 0) dX4_put_13 rfl rfl rfl ?_
      refine me_getR (pc' := 17) (q' := (o + 1)) dX4_put_14 rfl fkX4_13 (mm_ks ho) (mm_ltq ho) rfl (mrX4_0 ho) ?_
      refine me_iload_n (pc' := 18) (i := 1) dX4_put_17 rfl rfl rfl ?_
      refine me_iload_n (pc' := 19) (i := 2) dX4_put_18 rfl rfl rfl ?_
      refine mm_guard (fun c3 => ?_)
      refine me_iast (F' := (mm_Sq q)) (pc' := 20) dX4_put_19 rfl (mm_ks (kdX4_0 ho)) (mm_ltq (kdX4_0 ho)) (mm_ibd_of c3) (fun z => z) ?_
      refine mm_bnd (ms_I h (o + 1) (Int32.toNatClampNeg (p0)) p1) (fun _ => [some (.ref o), some (.int p0), some (.int p1)]) (fun _ => []) (fun h4 => h4) (fun h4 => ?_)
      exact me_vret dX4_put_20 rfl (fun z => z) rfl
def gX4_add (o : Nat) (p0 : Int32) (p1 : Int32) (h : mm_H) : Option mm_H :=
if p0 < 0 then
some h
else
if p0 < (nI (mm_cap o)) then
if mm_ibd p0 (mm_cap o) = true then
if mm_ibd p0 (mm_cap o) = true then
(some (ms_I h (o + 1) (Int32.toNatClampNeg (p0)) (((mh_I h (o + 1) (Int32.toNatClampNeg (p0))) + p1)))).bind (fun (h5 : mm_H) =>
some h5) else none else none
else
some h
theorem rX4_add {q : mm_q} (o : Nat) (p0 : Int32) (p1 : Int32) (h : mm_H) (ho : mm_kd o = (0, 4)) : mm_R2 (mm_Sq q) (mm_Sq q) mX4_add [.ref o, .int p0, .int p1] h (gX4_add o p0 p1 h) lf_v := by
  refine mm_body (L := [some (.ref o), some (.int p0), some (.int p1)]) rfl (by decide +kernel) (Nat.le_of_ble_eq_true rfl) rfl ?_
  unfold gX4_add
  refine me_iload_n (pc' := 1) (i := 1) dX4_add_0 rfl rfl rfl ?_
  refine me_if_lt (pc' := 4) (tgt := 23) dX4_add_1 (by decide) rfl (fun c1 => ?_) (fun c1 => ?_)
  · exact me_vret dX4_add_23 rfl (fun z => z) rfl
  · refine me_iload_n (pc' := 5) (i := 1) dX4_add_4 rfl rfl rfl ?_
    refine me_aload_n (pc' := 6) (i := 0) dX4_add_5 rfl rfl rfl ?_
    refine me_getR (pc' := 9) (q' := (o + 1)) dX4_add_6 rfl fkX4_13 (mm_ks ho) (mm_ltq ho) rfl (mrX4_0 ho) ?_
    refine me_alen (pc' := 10) (v := (nI (mm_cap o))) dX4_add_9 rfl (mm_ks (kdX4_0 ho)) (mm_ltq (kdX4_0 ho)) rfl ?_
    refine me_icmp_ge (pc' := 13) (tgt := 23) dX4_add_10 (by decide) rfl (fun c2 => ?_) (fun c2 => ?_)
    · exact me_vret dX4_add_23 rfl (fun z => z) rfl
    · refine me_aload_n (pc' := 14) (i := 0) dX4_add_13 rfl rfl rfl ?_
      refine me_getR (pc' := 17) (q' := (o + 1)) dX4_add_14 rfl fkX4_13 (mm_ks ho) (mm_ltq ho) rfl (mrX4_0 ho) ?_
      refine me_iload_n (pc' := 18) (i := 1) dX4_add_17 rfl rfl rfl ?_
      refine me_dup2 (pc' := 19) dX4_add_18 rfl rfl rfl ?_
      refine mm_guard (fun c3 => ?_)
      refine me_iald (pc' := 20) dX4_add_19 rfl (mm_ks (kdX4_0 ho)) (mm_ltq (kdX4_0 ho)) (mm_ibd_of c3) ?_
      refine me_iload_n (pc' := 21) (i := 2) dX4_add_20 rfl rfl rfl ?_
      refine me_iadd (pc' := 22) dX4_add_21 rfl ?_
      refine mm_guard (fun c4 => ?_)
      refine me_iast (F' := (mm_Sq q)) (pc' := 23) dX4_add_22 rfl (mm_ks (kdX4_0 ho)) (mm_ltq (kdX4_0 ho)) (mm_ibd_of c4) (fun z => z) ?_
      refine mm_bnd (ms_I h (o + 1) (Int32.toNatClampNeg (p0)) (((mh_I h (o + 1) (Int32.toNatClampNeg (p0))) + p1))) (fun _ => [some (.ref o), some (.int p0), some (.int p1)]) (fun _ => []) (fun h5 => h5) (fun h5 => ?_)
      exact me_vret dX4_add_23 rfl (fun z => z) rfl
def gX4_zero_L2 (o : Nat) : Nat → Int32 → mm_H → Option mm_H
  | 0, _, _ => none
  | n + 1, w1, h2 =>
    if w1 < (nI (mm_cap o)) then
    if mm_ibd w1 (mm_cap o) = true then
    (some (ms_I h2 (o + 1) (Int32.toNatClampNeg (w1)) 0)).bind (fun (h5 : mm_H) =>
    (some (w1 + 1)).bind (fun (x6 : Int32) =>
    gX4_zero_L2 o n x6 h5)) else none
    else
    some h2
def gX4_zero (o : Nat) (h : mm_H) : Option mm_H :=
gX4_zero_L2 o mm_F 0 h
theorem rX4_zero_L2 {q : mm_q} (o : Nat)    (ho : mm_kd o = (0, 4)) : ∀ (n : Nat) (w1 : Int32) (h2 : mm_H), mm_E2 (mm_Sq q) (mm_Sq q) mX4_zero 2 [some (.ref o), some (.int w1)] [] h2 (gX4_zero_L2 o  n w1 h2) lf_v := by
  intro n
  induction n with
  | zero =>
    intro w1 h2
    exact mm_none
  | succ n ih =>
    intro w1 h2
    rw [gX4_zero_L2]
    refine me_iload_n (pc' := 3) (i := 1) dX4_zero_2 rfl rfl rfl ?_
    refine me_aload_n (pc' := 4) (i := 0) dX4_zero_3 rfl rfl rfl ?_
    refine me_getR (pc' := 7) (q' := (o + 1)) dX4_zero_4 rfl fkX4_13 (mm_ks ho) (mm_ltq ho) rfl (mrX4_0 ho) ?_
    refine me_alen (pc' := 8) (v := (nI (mm_cap o))) dX4_zero_7 rfl (mm_ks (kdX4_0 ho)) (mm_ltq (kdX4_0 ho)) rfl ?_
    refine me_icmp_ge (pc' := 11) (tgt := 24) dX4_zero_8 (by decide) rfl (fun c3 => ?_) (fun c3 => ?_)
    · exact me_vret dX4_zero_24 rfl (fun z => z) rfl
    · refine me_aload_n (pc' := 12) (i := 0) dX4_zero_11 rfl rfl rfl ?_
      refine me_getR (pc' := 15) (q' := (o + 1)) dX4_zero_12 rfl fkX4_13 (mm_ks ho) (mm_ltq ho) rfl (mrX4_0 ho) ?_
      refine me_iload_n (pc' := 16) (i := 1) dX4_zero_15 rfl rfl rfl ?_
      refine me_iconst (pc' := 17) (v := 0) dX4_zero_16 rfl kc_i0 ?_
      refine mm_guard (fun c4 => ?_)
      refine me_iast (F' := (mm_Sq q)) (pc' := 18) dX4_zero_17 rfl (mm_ks (kdX4_0 ho)) (mm_ltq (kdX4_0 ho)) (mm_ibd_of c4) (fun z => z) ?_
      refine mm_bnd (ms_I h2 (o + 1) (Int32.toNatClampNeg (w1)) 0) (fun _ => [some (.ref o), some (.int w1)]) (fun _ => []) (fun h5 => h5) (fun h5 => ?_)
      refine me_iinc (pc' := 21) (i := 1) (x := w1) (y := w1 + 1) (L' := [some (.ref o), some (.int (w1 + 1))]) dX4_zero_18 rfl (Nat.le_of_ble_eq_true rfl) (Nat.le_of_ble_eq_true rfl) rfl (kc_plus kc_i1) rfl ?_
      refine mm_bnd (w1 + 1) (fun x6 => [some (.ref o), some (.int x6)]) (fun _ => []) (fun _ => h5) (fun x6 => ?_)
      refine me_goto (tgt := 2) dX4_zero_21 (by decide) ?_
      exact ih x6 h5
theorem rX4_zero {q : mm_q} (o : Nat) (h : mm_H) (ho : mm_kd o = (0, 4)) : mm_R2 (mm_Sq q) (mm_Sq q) mX4_zero [.ref o] h (gX4_zero o h) lf_v := by
  refine mm_body (L := [some (.ref o), none]) rfl (by decide +kernel) (Nat.le_of_ble_eq_true rfl) rfl ?_
  unfold gX4_zero
  refine me_iconst (pc' := 1) (v := 0) dX4_zero_0 rfl kc_i0 ?_
  refine me_istore_n (pc' := 2) (i := 1) (L' := [some (.ref o), some (.int 0)]) dX4_zero_1 rfl rfl (Nat.le_of_ble_eq_true rfl) (Nat.le_of_ble_eq_true rfl) rfl ?_
  exact rX4_zero_L2 (q := q) o ho mm_F 0 h
def gX4_copyFrom (o : Nat) (p0 : Nat) (h : mm_H) : Option mm_H :=
if mm_cpo 0 0 ((mm_min ((nI (mm_cap p0))) ((nI (mm_cap o))))) (mm_cap p0) (mm_cap o) = true then
(some (ms_Y h (o + 1) (va_cpy (mh_I h (p0 + 1)) (mh_I h (o + 1)) (Int32.toNatClampNeg (0)) (Int32.toNatClampNeg (0)) (Int32.toNatClampNeg ((mm_min ((nI (mm_cap p0))) ((nI (mm_cap o))))))))).bind (fun (h2 : mm_H) =>
some h2) else none
theorem rX4_copyFrom {q : mm_q} (o : Nat) (p0 : Nat) (h : mm_H) (ho : mm_kd o = (0, 4)) (hp0 : mm_kd p0 = (0, 4)) : mm_R2 (mm_Sq q) (mm_Sq q) mX4_copyFrom [.ref o, .ref p0] h (gX4_copyFrom o p0 h) lf_v := by
  refine mm_body (L := [some (.ref o), some (.ref p0)]) rfl (by decide +kernel) (Nat.le_of_ble_eq_true rfl) rfl ?_
  unfold gX4_copyFrom
  refine me_aload_n (pc' := 1) (i := 1) dX4_copyFrom_0 rfl rfl rfl ?_
  refine me_getR (pc' := 4) (q' := (p0 + 1)) dX4_copyFrom_1 rfl fkX4_13 (mm_ks hp0) (mm_ltq hp0) rfl (mrX4_0 hp0) ?_
  refine me_iconst (pc' := 5) (v := 0) dX4_copyFrom_4 rfl kc_i0 ?_
  refine me_aload_n (pc' := 6) (i := 0) dX4_copyFrom_5 rfl rfl rfl ?_
  refine me_getR (pc' := 9) (q' := (o + 1)) dX4_copyFrom_6 rfl fkX4_13 (mm_ks ho) (mm_ltq ho) rfl (mrX4_0 ho) ?_
  refine me_iconst (pc' := 10) (v := 0) dX4_copyFrom_9 rfl kc_i0 ?_
  refine me_aload_n (pc' := 11) (i := 1) dX4_copyFrom_10 rfl rfl rfl ?_
  refine me_getR (pc' := 14) (q' := (p0 + 1)) dX4_copyFrom_11 rfl fkX4_13 (mm_ks hp0) (mm_ltq hp0) rfl (mrX4_0 hp0) ?_
  refine me_alen (pc' := 15) (v := (nI (mm_cap p0))) dX4_copyFrom_14 rfl (mm_ks (kdX4_0 hp0)) (mm_ltq (kdX4_0 hp0)) rfl ?_
  refine me_aload_n (pc' := 16) (i := 0) dX4_copyFrom_15 rfl rfl rfl ?_
  refine me_getR (pc' := 19) (q' := (o + 1)) dX4_copyFrom_16 rfl fkX4_13 (mm_ks ho) (mm_ltq ho) rfl (mrX4_0 ho) ?_
  refine me_alen (pc' := 20) (v := (nI (mm_cap o))) dX4_copyFrom_19 rfl (mm_ks (kdX4_0 ho)) (mm_ltq (kdX4_0 ho)) rfl ?_
  refine me_mmin (pc' := 23) dX4_copyFrom_20 rfl ljX4_19 ⟨Nat.le_of_ble_eq_true rfl, Nat.le_of_ble_eq_true rfl⟩ (Nat.le_of_ble_eq_true rfl) ?_
  show mm_E2 _ _ _ _ _ [.int (mm_min ((nI (mm_cap p0))) ((nI (mm_cap o)))), .int 0, .ref (o + 1), .int 0, .ref (p0 + 1)] _ _ _
  refine mm_guard (fun c1 => ?_)
  refine me_copyi (F' := (mm_Sq q)) (pc' := 26) dX4_copyFrom_23 rfl ljX4_22 (mm_ks (kdX4_0 hp0)) (mm_ks (kdX4_0 ho)) (mm_ltq (kdX4_0 hp0)) (mm_ltq (kdX4_0 ho)) (mm_cpo_of c1).1 (mm_cpo_of c1).2.1 (mm_cpo_of c1).2.2.1 (mm_cpo_of c1).2.2.2.1 (mm_cpo_of c1).2.2.2.2 ⟨Nat.le_of_ble_eq_true rfl, Nat.le_of_ble_eq_true rfl⟩ (Nat.le_of_ble_eq_true rfl) (fun z => z) ?_
  refine mm_bnd (ms_Y h (o + 1) (va_cpy (mh_I h (p0 + 1)) (mh_I h (o + 1)) (Int32.toNatClampNeg (0)) (Int32.toNatClampNeg (0)) (Int32.toNatClampNeg ((mm_min ((nI (mm_cap p0))) ((nI (mm_cap o)))))))) (fun _ => [some (.ref o), some (.ref p0)]) (fun _ => []) (fun h2 => h2) (fun h2 => ?_)
  exact me_vret dX4_copyFrom_26 rfl (fun z => z) rfl
def gX1_addLetter (o : Nat) (p0 : Int32) (h : mm_H) : Option mm_H :=
(some (((mh_I h o 0) - 1))).bind (fun (x1 : Int32) =>
(gX4_get ((o + 3)) x1 h).bind (fun (x2 : Int32) =>
if x2 < 6 then
(gX4_put ((o + 1)) (((x1 * 6) + x2)) p0 h).bind (fun (h5 : mm_H) =>
(gX4_put ((o + 3)) x1 ((x2 + 1)) h5).bind (fun (h7 : mm_H) =>
some h7))
else
some h))
theorem rX1_addLetter {q : mm_q} (o : Nat) (p0 : Int32) (h : mm_H) (ho : mm_kd o = (0, 1)) : mm_R2 (mm_Sq q) (mm_Sq q) mX1_addLetter [.ref o, .int p0] h (gX1_addLetter o p0 h) lf_v := by
  refine mm_body (L := [some (.ref o), some (.int p0), none, none]) rfl (by decide +kernel) (Nat.le_of_ble_eq_true rfl) rfl ?_
  unfold gX1_addLetter
  refine me_aload_n (pc' := 1) (i := 0) dX1_addLetter_0 rfl rfl rfl ?_
  refine me_getI (pc' := 4) dX1_addLetter_1 rfl fkX1_26 (mm_ks ho) (mm_ltq ho) rfl ?_
  refine me_iconst (pc' := 5) (v := 1) dX1_addLetter_4 rfl kc_i1 ?_
  refine me_isub (pc' := 6) dX1_addLetter_5 rfl ?_
  refine mm_bnd (((mh_I h o 0) - 1)) (fun x1 => [some (.ref o), some (.int p0), none, none]) (fun x1 => [.int x1]) (fun _ => h) (fun x1 => ?_)
  refine me_istore_n (pc' := 7) (i := 2) (L' := [some (.ref o), some (.int p0), some (.int x1), none]) dX1_addLetter_6 rfl rfl (Nat.le_of_ble_eq_true rfl) (Nat.le_of_ble_eq_true rfl) rfl ?_
  refine me_aload_n (pc' := 8) (i := 0) dX1_addLetter_7 rfl rfl rfl ?_
  refine me_getR (pc' := 11) (q' := (o + 3)) dX1_addLetter_8 rfl fkX1_20 (mm_ks ho) (mm_ltq ho) rfl (mrX1_2 ho) ?_
  refine me_iload_n (pc' := 12) (i := 2) dX1_addLetter_11 rfl rfl rfl ?_
  refine me_callV (As := [.int x1]) (st := []) (F' := (mm_Sq q)) (G' := (mm_Sq q)) (F'' := (mm_Sq q)) (pc' := 15) dX1_addLetter_12 rfl mfX4_get rfl lkX1_57 (mm_ks (kdX1_2 ho)) rfl (mm_ltq (kdX1_2 ho)) ⟨Nat.le_of_ble_eq_true rfl, Nat.le_of_ble_eq_true rfl⟩ (Nat.le_of_ble_eq_true rfl) (fun z => z) (rX4_get (q := q) ((o + 3)) x1 h (kdX1_2 ho)) (fun x2 e3 => Or.inl ⟨_, _, rfl, fun z => z, ?_⟩)
  show mm_E2 _ _ _ _ _ [.int x2] h _ _
  refine me_istore_n (pc' := 16) (i := 3) (L' := [some (.ref o), some (.int p0), some (.int x1), some (.int x2)]) dX1_addLetter_15 rfl rfl (Nat.le_of_ble_eq_true rfl) (Nat.le_of_ble_eq_true rfl) rfl ?_
  refine me_iload_n (pc' := 17) (i := 3) dX1_addLetter_16 rfl rfl rfl ?_
  refine me_bipush (pc' := 19) (v := 6) dX1_addLetter_17 rfl kc_b6 ?_
  refine me_icmp_ge (pc' := 22) (tgt := 47) dX1_addLetter_19 (by decide) rfl (fun c4 => ?_) (fun c4 => ?_)
  · exact me_vret dX1_addLetter_47 rfl (fun z => z) rfl
  · refine me_aload_n (pc' := 23) (i := 0) dX1_addLetter_22 rfl rfl rfl ?_
    refine me_getR (pc' := 26) (q' := (o + 1)) dX1_addLetter_23 rfl fkX1_14 (mm_ks ho) (mm_ltq ho) rfl (mrX1_1 ho) ?_
    refine me_iload_n (pc' := 27) (i := 2) dX1_addLetter_26 rfl rfl rfl ?_
    refine me_bipush (pc' := 29) (v := 6) dX1_addLetter_27 rfl kc_b6 ?_
    refine me_imul (pc' := 30) dX1_addLetter_29 rfl ?_
    refine me_iload_n (pc' := 31) (i := 3) dX1_addLetter_30 rfl rfl rfl ?_
    refine me_iadd (pc' := 32) dX1_addLetter_31 rfl ?_
    refine me_iload_n (pc' := 33) (i := 1) dX1_addLetter_32 rfl rfl rfl ?_
    refine me_callV (As := [.int ((x1 * 6) + x2), .int p0]) (st := []) (F' := (mm_Sq q)) (G' := (mm_Sq q)) (F'' := (mm_Sq q)) (pc' := 36) dX1_addLetter_33 rfl mfX4_put rfl lkX1_53 (mm_ks (kdX1_1 ho)) rfl (mm_ltq (kdX1_1 ho)) ⟨Nat.le_of_ble_eq_true rfl, Nat.le_of_ble_eq_true rfl⟩ (Nat.le_of_ble_eq_true rfl) (fun z => z) (rX4_put (q := q) ((o + 1)) (((x1 * 6) + x2)) p0 h (kdX1_1 ho)) (fun h5 e6 => Or.inl ⟨_, _, rfl, fun z => z, ?_⟩)
    show mm_E2 _ _ _ _ _ [] h5 _ _
    refine me_aload_n (pc' := 37) (i := 0) dX1_addLetter_36 rfl rfl rfl ?_
    refine me_getR (pc' := 40) (q' := (o + 3)) dX1_addLetter_37 rfl fkX1_20 (mm_ks ho) (mm_ltq ho) rfl (mrX1_2 ho) ?_
    refine me_iload_n (pc' := 41) (i := 2) dX1_addLetter_40 rfl rfl rfl ?_
    refine me_iload_n (pc' := 42) (i := 3) dX1_addLetter_41 rfl rfl rfl ?_
    refine me_iconst (pc' := 43) (v := 1) dX1_addLetter_42 rfl kc_i1 ?_
    refine me_iadd (pc' := 44) dX1_addLetter_43 rfl ?_
    refine me_callV (As := [.int x1, .int (x2 + 1)]) (st := []) (F' := (mm_Sq q)) (G' := (mm_Sq q)) (F'' := (mm_Sq q)) (pc' := 47) dX1_addLetter_44 rfl mfX4_put rfl lkX1_53 (mm_ks (kdX1_2 ho)) rfl (mm_ltq (kdX1_2 ho)) ⟨Nat.le_of_ble_eq_true rfl, Nat.le_of_ble_eq_true rfl⟩ (Nat.le_of_ble_eq_true rfl) (fun z => z) (rX4_put (q := q) ((o + 3)) x1 ((x2 + 1)) h5 (kdX1_2 ho)) (fun h7 e8 => Or.inl ⟨_, _, rfl, fun z => z, ?_⟩)
    show mm_E2 _ _ _ _ _ [] h7 _ _
    exact me_vret dX1_addLetter_47 rfl (fun z => z) rfl
def gX1_addNameless (o : Nat) (h : mm_H) : Option mm_H :=
if (mh_I h o 0) < 8 then
(gX4_put ((o + 3)) ((mh_I h o 0)) 0 h).bind (fun (h2 : mm_H) =>
(gX4_put ((o + 5)) ((mh_I h2 o 0)) 0 h2).bind (fun (h4 : mm_H) =>
(some (ms_I h4 o 0 (((mh_I h4 o 0) + 1)))).bind (fun (h6 : mm_H) =>
some h6)))
else
some h
theorem rX1_addNameless {q : mm_q} (o : Nat) (h : mm_H) (ho : mm_kd o = (0, 1)) : mm_R2 (mm_Sq q) (mm_Sq q) mX1_addNameless [.ref o] h (gX1_addNameless o h) lf_v := by
  refine mm_body (L := [some (.ref o)]) rfl (by decide +kernel) (Nat.le_of_ble_eq_true rfl) rfl ?_
  unfold gX1_addNameless
  refine me_aload_n (pc' := 1) (i := 0) dX1_addNameless_0 rfl rfl rfl ?_
  refine me_getI (pc' := 4) dX1_addNameless_1 rfl fkX1_26 (mm_ks ho) (mm_ltq ho) rfl ?_
  refine me_bipush (pc' := 6) (v := 8) dX1_addNameless_4 rfl kc_b8 ?_
  refine me_icmp_ge (pc' := 9) (tgt := 43) dX1_addNameless_6 (by decide) rfl (fun c1 => ?_) (fun c1 => ?_)
  · exact me_vret dX1_addNameless_43 rfl (fun z => z) rfl
  · refine me_aload_n (pc' := 10) (i := 0) dX1_addNameless_9 rfl rfl rfl ?_
    refine me_getR (pc' := 13) (q' := (o + 3)) dX1_addNameless_10 rfl fkX1_20 (mm_ks ho) (mm_ltq ho) rfl (mrX1_2 ho) ?_
    refine me_aload_n (pc' := 14) (i := 0) dX1_addNameless_13 rfl rfl rfl ?_
    refine me_getI (pc' := 17) dX1_addNameless_14 rfl fkX1_26 (mm_ks ho) (mm_ltq ho) rfl ?_
    refine me_iconst (pc' := 18) (v := 0) dX1_addNameless_17 rfl kc_i0 ?_
    refine me_callV (As := [.int (mh_I h o 0), .int 0]) (st := []) (F' := (mm_Sq q)) (G' := (mm_Sq q)) (F'' := (mm_Sq q)) (pc' := 21) dX1_addNameless_18 rfl mfX4_put rfl lkX1_53 (mm_ks (kdX1_2 ho)) rfl (mm_ltq (kdX1_2 ho)) ⟨Nat.le_of_ble_eq_true rfl, Nat.le_of_ble_eq_true rfl⟩ (Nat.le_of_ble_eq_true rfl) (fun z => z) (rX4_put (q := q) ((o + 3)) ((mh_I h o 0)) 0 h (kdX1_2 ho)) (fun h2 e3 => Or.inl ⟨_, _, rfl, fun z => z, ?_⟩)
    show mm_E2 _ _ _ _ _ [] h2 _ _
    refine me_aload_n (pc' := 22) (i := 0) dX1_addNameless_21 rfl rfl rfl ?_
    refine me_getR (pc' := 25) (q' := (o + 5)) dX1_addNameless_22 rfl fkX1_23 (mm_ks ho) (mm_ltq ho) rfl (mrX1_3 ho) ?_
    refine me_aload_n (pc' := 26) (i := 0) dX1_addNameless_25 rfl rfl rfl ?_
    refine me_getI (pc' := 29) dX1_addNameless_26 rfl fkX1_26 (mm_ks ho) (mm_ltq ho) rfl ?_
    refine me_iconst (pc' := 30) (v := 0) dX1_addNameless_29 rfl kc_i0 ?_
    refine me_callV (As := [.int (mh_I h2 o 0), .int 0]) (st := []) (F' := (mm_Sq q)) (G' := (mm_Sq q)) (F'' := (mm_Sq q)) (pc' := 33) dX1_addNameless_30 rfl mfX4_put rfl lkX1_53 (mm_ks (kdX1_3 ho)) rfl (mm_ltq (kdX1_3 ho)) ⟨Nat.le_of_ble_eq_true rfl, Nat.le_of_ble_eq_true rfl⟩ (Nat.le_of_ble_eq_true rfl) (fun z => z) (rX4_put (q := q) ((o + 5)) ((mh_I h2 o 0)) 0 h2 (kdX1_3 ho)) (fun h4 e5 => Or.inl ⟨_, _, rfl, fun z => z, ?_⟩)
    show mm_E2 _ _ _ _ _ [] h4 _ _
    refine me_aload_n (pc' := 34) (i := 0) dX1_addNameless_33 rfl rfl rfl ?_
    refine me_dup (pc' := 35) dX1_addNameless_34 rfl rfl ?_
    refine me_getI (pc' := 38) dX1_addNameless_35 rfl fkX1_26 (mm_ks ho) (mm_ltq ho) rfl ?_
    refine me_iconst (pc' := 39) (v := 1) dX1_addNameless_38 rfl kc_i1 ?_
    refine me_iadd (pc' := 40) dX1_addNameless_39 rfl ?_
    refine me_putI (F' := (mm_Sq q)) (pc' := 43) dX1_addNameless_40 rfl fkX1_26 (mm_ks ho) (mm_ltq ho) rfl pgX1_0 (fun z => z) ?_
    refine mm_bnd (ms_I h4 o 0 (((mh_I h4 o 0) + 1))) (fun _ => [some (.ref o)]) (fun _ => []) (fun h6 => h6) (fun h6 => ?_)
    exact me_vret dX1_addNameless_43 rfl (fun z => z) rfl
def gX1_setMinimum (o : Nat) (p0 : Int32) (h : mm_H) : Option mm_H :=
(gX4_put ((o + 5)) (((mh_I h o 0) - 1)) p0 h).bind (fun (h1 : mm_H) =>
some h1)
theorem rX1_setMinimum {q : mm_q} (o : Nat) (p0 : Int32) (h : mm_H) (ho : mm_kd o = (0, 1)) : mm_R2 (mm_Sq q) (mm_Sq q) mX1_setMinimum [.ref o, .int p0] h (gX1_setMinimum o p0 h) lf_v := by
  refine mm_body (L := [some (.ref o), some (.int p0)]) rfl (by decide +kernel) (Nat.le_of_ble_eq_true rfl) rfl ?_
  unfold gX1_setMinimum
  refine me_aload_n (pc' := 1) (i := 0) dX1_setMinimum_0 rfl rfl rfl ?_
  refine me_getR (pc' := 4) (q' := (o + 5)) dX1_setMinimum_1 rfl fkX1_23 (mm_ks ho) (mm_ltq ho) rfl (mrX1_3 ho) ?_
  refine me_aload_n (pc' := 5) (i := 0) dX1_setMinimum_4 rfl rfl rfl ?_
  refine me_getI (pc' := 8) dX1_setMinimum_5 rfl fkX1_26 (mm_ks ho) (mm_ltq ho) rfl ?_
  refine me_iconst (pc' := 9) (v := 1) dX1_setMinimum_8 rfl kc_i1 ?_
  refine me_isub (pc' := 10) dX1_setMinimum_9 rfl ?_
  refine me_iload_n (pc' := 11) (i := 1) dX1_setMinimum_10 rfl rfl rfl ?_
  refine me_callV (As := [.int ((mh_I h o 0) - 1), .int p0]) (st := []) (F' := (mm_Sq q)) (G' := (mm_Sq q)) (F'' := (mm_Sq q)) (pc' := 14) dX1_setMinimum_11 rfl mfX4_put rfl lkX1_53 (mm_ks (kdX1_3 ho)) rfl (mm_ltq (kdX1_3 ho)) ⟨Nat.le_of_ble_eq_true rfl, Nat.le_of_ble_eq_true rfl⟩ (Nat.le_of_ble_eq_true rfl) (fun z => z) (rX4_put (q := q) ((o + 5)) (((mh_I h o 0) - 1)) p0 h (kdX1_3 ho)) (fun h1 e2 => Or.inl ⟨_, _, rfl, fun z => z, ?_⟩)
  show mm_E2 _ _ _ _ _ [] h1 _ _
  exact me_vret dX1_setMinimum_14 rfl (fun z => z) rfl
def gX7_addBatch (o : Nat) (p0 : Int32) (p1 : Int32) (p2 : Int32) (p3 : Int32) (h : mm_H) : Option (Int32 × mm_H) :=
(some ((mh_I h o 1))).bind (fun (x1 : Int32) =>
(gX4_put ((o + 1)) x1 p0 h).bind (fun (h2 : mm_H) =>
(gX4_put ((o + 3)) x1 p1 h2).bind (fun (h4 : mm_H) =>
(gX4_put ((o + 5)) x1 0 h4).bind (fun (h6 : mm_H) =>
(gX4_put ((o + 7)) x1 p2 h6).bind (fun (h8 : mm_H) =>
(gX4_put ((o + 9)) x1 p3 h8).bind (fun (h10 : mm_H) =>
(some (ms_I h10 o 1 (((mh_I h10 o 1) + 1)))).bind (fun (h12 : mm_H) =>
(gX4_add ((o + 21)) p0 p1 h12).bind (fun (h13 : mm_H) =>
some (x1, h13)))))))))
theorem rX7_addBatch {q : mm_q} (o : Nat) (p0 : Int32) (p1 : Int32) (p2 : Int32) (p3 : Int32) (h : mm_H) (ho : mm_kd o = (0, 7)) : mm_R2 (mm_Sq q) (mm_Sq q) mX7_addBatch [.ref o, .int p0, .int p1, .int p2, .int p3] h (gX7_addBatch o p0 p1 p2 p3 h) lf_ie := by
  refine mm_body (L := [some (.ref o), some (.int p0), some (.int p1), some (.int p2), some (.int p3), none]) rfl (by decide +kernel) (Nat.le_of_ble_eq_true rfl) rfl ?_
  unfold gX7_addBatch
  refine me_aload_n (pc' := 1) (i := 0) dX7_addBatch_0 rfl rfl rfl ?_
  refine me_getI (pc' := 4) dX7_addBatch_1 rfl fkX7_66 (mm_ks ho) (mm_ltq ho) rfl ?_
  refine mm_bnd ((mh_I h o 1)) (fun x1 => [some (.ref o), some (.int p0), some (.int p1), some (.int p2), some (.int p3), none]) (fun x1 => [.int x1]) (fun _ => h) (fun x1 => ?_)
  refine me_istore (pc' := 6) (i := 5) (L' := [some (.ref o), some (.int p0), some (.int p1), some (.int p2), some (.int p3), some (.int x1)]) dX7_addBatch_4 rfl (Nat.le_of_ble_eq_true rfl) (Nat.le_of_ble_eq_true rfl) rfl ?_
  refine me_aload_n (pc' := 7) (i := 0) dX7_addBatch_6 rfl rfl rfl ?_
  refine me_getR (pc' := 10) (q' := (o + 1)) dX7_addBatch_7 rfl fkX7_14 (mm_ks ho) (mm_ltq ho) rfl (mrX7_2 ho) ?_
  refine me_iload (pc' := 12) (i := 5) dX7_addBatch_10 rfl rfl ?_
  refine me_iload_n (pc' := 13) (i := 1) dX7_addBatch_12 rfl rfl rfl ?_
  refine me_callV (As := [.int x1, .int p0]) (st := []) (F' := (mm_Sq q)) (G' := (mm_Sq q)) (F'' := (mm_Sq q)) (pc' := 16) dX7_addBatch_13 rfl mfX4_put rfl lkX7_132 (mm_ks (kdX7_2 ho)) rfl (mm_ltq (kdX7_2 ho)) ⟨Nat.le_of_ble_eq_true rfl, Nat.le_of_ble_eq_true rfl⟩ (Nat.le_of_ble_eq_true rfl) (fun z => z) (rX4_put (q := q) ((o + 1)) x1 p0 h (kdX7_2 ho)) (fun h2 e3 => Or.inl ⟨_, _, rfl, fun z => z, ?_⟩)
  show mm_E2 _ _ _ _ _ [] h2 _ _
  refine me_aload_n (pc' := 17) (i := 0) dX7_addBatch_16 rfl rfl rfl ?_
  refine me_getR (pc' := 20) (q' := (o + 3)) dX7_addBatch_17 rfl fkX7_20 (mm_ks ho) (mm_ltq ho) rfl (mrX7_3 ho) ?_
  refine me_iload (pc' := 22) (i := 5) dX7_addBatch_20 rfl rfl ?_
  refine me_iload_n (pc' := 23) (i := 2) dX7_addBatch_22 rfl rfl rfl ?_
  refine me_callV (As := [.int x1, .int p1]) (st := []) (F' := (mm_Sq q)) (G' := (mm_Sq q)) (F'' := (mm_Sq q)) (pc' := 26) dX7_addBatch_23 rfl mfX4_put rfl lkX7_132 (mm_ks (kdX7_3 ho)) rfl (mm_ltq (kdX7_3 ho)) ⟨Nat.le_of_ble_eq_true rfl, Nat.le_of_ble_eq_true rfl⟩ (Nat.le_of_ble_eq_true rfl) (fun z => z) (rX4_put (q := q) ((o + 3)) x1 p1 h2 (kdX7_3 ho)) (fun h4 e5 => Or.inl ⟨_, _, rfl, fun z => z, ?_⟩)
  show mm_E2 _ _ _ _ _ [] h4 _ _
  refine me_aload_n (pc' := 27) (i := 0) dX7_addBatch_26 rfl rfl rfl ?_
  refine me_getR (pc' := 30) (q' := (o + 5)) dX7_addBatch_27 rfl fkX7_23 (mm_ks ho) (mm_ltq ho) rfl (mrX7_4 ho) ?_
  refine me_iload (pc' := 32) (i := 5) dX7_addBatch_30 rfl rfl ?_
  refine me_iconst (pc' := 33) (v := 0) dX7_addBatch_32 rfl kc_i0 ?_
  refine me_callV (As := [.int x1, .int 0]) (st := []) (F' := (mm_Sq q)) (G' := (mm_Sq q)) (F'' := (mm_Sq q)) (pc' := 36) dX7_addBatch_33 rfl mfX4_put rfl lkX7_132 (mm_ks (kdX7_4 ho)) rfl (mm_ltq (kdX7_4 ho)) ⟨Nat.le_of_ble_eq_true rfl, Nat.le_of_ble_eq_true rfl⟩ (Nat.le_of_ble_eq_true rfl) (fun z => z) (rX4_put (q := q) ((o + 5)) x1 0 h4 (kdX7_4 ho)) (fun h6 e7 => Or.inl ⟨_, _, rfl, fun z => z, ?_⟩)
  show mm_E2 _ _ _ _ _ [] h6 _ _
  refine me_aload_n (pc' := 37) (i := 0) dX7_addBatch_36 rfl rfl rfl ?_
  refine me_getR (pc' := 40) (q' := (o + 7)) dX7_addBatch_37 rfl fkX7_26 (mm_ks ho) (mm_ltq ho) rfl (mrX7_5 ho) ?_
  refine me_iload (pc' := 42) (i := 5) dX7_addBatch_40 rfl rfl ?_
  refine me_iload_n (pc' := 43) (i := 3) dX7_addBatch_42 rfl rfl rfl ?_
  refine me_callV (As := [.int x1, .int p2]) (st := []) (F' := (mm_Sq q)) (G' := (mm_Sq q)) (F'' := (mm_Sq q)) (pc' := 46) dX7_addBatch_43 rfl mfX4_put rfl lkX7_132 (mm_ks (kdX7_5 ho)) rfl (mm_ltq (kdX7_5 ho)) ⟨Nat.le_of_ble_eq_true rfl, Nat.le_of_ble_eq_true rfl⟩ (Nat.le_of_ble_eq_true rfl) (fun z => z) (rX4_put (q := q) ((o + 7)) x1 p2 h6 (kdX7_5 ho)) (fun h8 e9 => Or.inl ⟨_, _, rfl, fun z => z, ?_⟩)
  show mm_E2 _ _ _ _ _ [] h8 _ _
  refine me_aload_n (pc' := 47) (i := 0) dX7_addBatch_46 rfl rfl rfl ?_
  refine me_getR (pc' := 50) (q' := (o + 9)) dX7_addBatch_47 rfl fkX7_29 (mm_ks ho) (mm_ltq ho) rfl (mrX7_6 ho) ?_
  refine me_iload (pc' := 52) (i := 5) dX7_addBatch_50 rfl rfl ?_
  refine me_iload (pc' := 54) (i := 4) dX7_addBatch_52 rfl rfl ?_
  refine me_callV (As := [.int x1, .int p3]) (st := []) (F' := (mm_Sq q)) (G' := (mm_Sq q)) (F'' := (mm_Sq q)) (pc' := 57) dX7_addBatch_54 rfl mfX4_put rfl lkX7_132 (mm_ks (kdX7_6 ho)) rfl (mm_ltq (kdX7_6 ho)) ⟨Nat.le_of_ble_eq_true rfl, Nat.le_of_ble_eq_true rfl⟩ (Nat.le_of_ble_eq_true rfl) (fun z => z) (rX4_put (q := q) ((o + 9)) x1 p3 h8 (kdX7_6 ho)) (fun h10 e11 => Or.inl ⟨_, _, rfl, fun z => z, ?_⟩)
  show mm_E2 _ _ _ _ _ [] h10 _ _
  refine me_aload_n (pc' := 58) (i := 0) dX7_addBatch_57 rfl rfl rfl ?_
  refine me_dup (pc' := 59) dX7_addBatch_58 rfl rfl ?_
  refine me_getI (pc' := 62) dX7_addBatch_59 rfl fkX7_66 (mm_ks ho) (mm_ltq ho) rfl ?_
  refine me_iconst (pc' := 63) (v := 1) dX7_addBatch_62 rfl kc_i1 ?_
  refine me_iadd (pc' := 64) dX7_addBatch_63 rfl ?_
  refine me_putI (F' := (mm_Sq q)) (pc' := 67) dX7_addBatch_64 rfl fkX7_66 (mm_ks ho) (mm_ltq ho) rfl pgX7_1 (fun z => z) ?_
  refine mm_bnd (ms_I h10 o 1 (((mh_I h10 o 1) + 1))) (fun _ => [some (.ref o), some (.int p0), some (.int p1), some (.int p2), some (.int p3), some (.int x1)]) (fun _ => []) (fun h12 => h12) (fun h12 => ?_)
  refine me_aload_n (pc' := 68) (i := 0) dX7_addBatch_67 rfl rfl rfl ?_
  refine me_getR (pc' := 71) (q' := (o + 21)) dX7_addBatch_68 rfl fkX7_47 (mm_ks ho) (mm_ltq ho) rfl (mrX7_13 ho) ?_
  refine me_iload_n (pc' := 72) (i := 1) dX7_addBatch_71 rfl rfl rfl ?_
  refine me_iload_n (pc' := 73) (i := 2) dX7_addBatch_72 rfl rfl rfl ?_
  refine me_callV (As := [.int p0, .int p1]) (st := []) (F' := (mm_Sq q)) (G' := (mm_Sq q)) (F'' := (mm_Sq q)) (pc' := 76) dX7_addBatch_73 rfl mfX4_add rfl lkX7_135 (mm_ks (kdX7_13 ho)) rfl (mm_ltq (kdX7_13 ho)) ⟨Nat.le_of_ble_eq_true rfl, Nat.le_of_ble_eq_true rfl⟩ (Nat.le_of_ble_eq_true rfl) (fun z => z) (rX4_add (q := q) ((o + 21)) p0 p1 h12 (kdX7_13 ho)) (fun h13 e14 => Or.inl ⟨_, _, rfl, fun z => z, ?_⟩)
  show mm_E2 _ _ _ _ _ [] h13 _ _
  refine me_iload (pc' := 78) (i := 5) dX7_addBatch_76 rfl rfl ?_
  exact me_iret dX7_addBatch_78 rfl (fun z => z) rfl
def gX8_addByte (o : Nat) (p0 : Int32) (h : mm_H) : Option mm_H :=
if (mh_I h o 1) < 0 then
some h
else
if (mh_I h o 1) < (nI (mm_cap o)) then
if mm_ibd ((mh_I h o 1)) (mm_cap o) = true then
(some (ms_I h (o + 1) (Int32.toNatClampNeg ((mh_I h o 1))) (((p0.toInt8.toInt32).toInt8.toInt32)))).bind (fun (h4 : mm_H) =>
(some (ms_I h4 o 1 (((mh_I h4 o 1) + 1)))).bind (fun (h5 : mm_H) =>
some h5)) else none
else
some h
theorem rX8_addByte {q : mm_q} (o : Nat) (p0 : Int32) (h : mm_H) (ho : mm_kd o = (0, 8)) : mm_R2 (mm_Sq q) (mm_Sq q) mX8_addByte [.ref o, .int p0] h (gX8_addByte o p0 h) lf_v := by
  refine mm_body (L := [some (.ref o), some (.int p0)]) rfl (by decide +kernel) (Nat.le_of_ble_eq_true rfl) rfl ?_
  unfold gX8_addByte
  refine me_aload_n (pc' := 1) (i := 0) dX8_addByte_0 rfl rfl rfl ?_
  refine me_getI (pc' := 4) dX8_addByte_1 rfl fkX8_21 (mm_ks ho) (mm_ltq ho) rfl ?_
  refine me_if_lt (pc' := 7) (tgt := 40) dX8_addByte_4 (by decide) rfl (fun c1 => ?_) (fun c1 => ?_)
  · exact me_vret dX8_addByte_40 rfl (fun z => z) rfl
  · refine me_aload_n (pc' := 8) (i := 0) dX8_addByte_7 rfl rfl rfl ?_
    refine me_getI (pc' := 11) dX8_addByte_8 rfl fkX8_21 (mm_ks ho) (mm_ltq ho) rfl ?_
    refine me_aload_n (pc' := 12) (i := 0) dX8_addByte_11 rfl rfl rfl ?_
    refine me_getR (pc' := 15) (q' := (o + 1)) dX8_addByte_12 rfl fkX8_15 (mm_ks ho) (mm_ltq ho) rfl (mrX8_0 ho) ?_
    refine me_alen (pc' := 16) (v := (nI (mm_cap o))) dX8_addByte_15 rfl (mm_ks (kdX8_0 ho)) (mm_ltq (kdX8_0 ho)) rfl ?_
    refine me_icmp_ge (pc' := 19) (tgt := 40) dX8_addByte_16 (by decide) rfl (fun c2 => ?_) (fun c2 => ?_)
    · exact me_vret dX8_addByte_40 rfl (fun z => z) rfl
    · refine me_aload_n (pc' := 20) (i := 0) dX8_addByte_19 rfl rfl rfl ?_
      refine me_getR (pc' := 23) (q' := (o + 1)) dX8_addByte_20 rfl fkX8_15 (mm_ks ho) (mm_ltq ho) rfl (mrX8_0 ho) ?_
      refine me_aload_n (pc' := 24) (i := 0) dX8_addByte_23 rfl rfl rfl ?_
      refine me_getI (pc' := 27) dX8_addByte_24 rfl fkX8_21 (mm_ks ho) (mm_ltq ho) rfl ?_
      refine me_iload_n (pc' := 28) (i := 1) dX8_addByte_27 rfl rfl rfl ?_
      refine me_i2b (pc' := 29) dX8_addByte_28 rfl ?_
      refine mm_guard (fun c3 => ?_)
      refine me_bast (F' := (mm_Sq q)) (pc' := 30) (w := ((p0.toInt8.toInt32).toInt8.toInt32)) dX8_addByte_29 rfl (mm_ks (kdX8_0 ho)) (mm_ltq (kdX8_0 ho)) (mm_ibd_of c3) rfl (fun z => z) ?_
      refine mm_bnd (ms_I h (o + 1) (Int32.toNatClampNeg ((mh_I h o 1))) (((p0.toInt8.toInt32).toInt8.toInt32))) (fun _ => [some (.ref o), some (.int p0)]) (fun _ => []) (fun h4 => h4) (fun h4 => ?_)
      refine me_aload_n (pc' := 31) (i := 0) dX8_addByte_30 rfl rfl rfl ?_
      refine me_dup (pc' := 32) dX8_addByte_31 rfl rfl ?_
      refine me_getI (pc' := 35) dX8_addByte_32 rfl fkX8_21 (mm_ks ho) (mm_ltq ho) rfl ?_
      refine me_iconst (pc' := 36) (v := 1) dX8_addByte_35 rfl kc_i1 ?_
      refine me_iadd (pc' := 37) dX8_addByte_36 rfl ?_
      refine me_putI (F' := (mm_Sq q)) (pc' := 40) dX8_addByte_37 rfl fkX8_21 (mm_ks ho) (mm_ltq ho) rfl pgX8_1 (fun z => z) ?_
      refine mm_bnd (ms_I h4 o 1 (((mh_I h4 o 1) + 1))) (fun _ => [some (.ref o), some (.int p0)]) (fun _ => []) (fun h5 => h5) (fun h5 => ?_)
      exact me_vret dX8_addByte_40 rfl (fun z => z) rfl
def gX8_addBytesOf (o : Nat) (p0 : Int32) (h : mm_H) : Option mm_H :=
(gX8_addByte o ((mm_ushr p0 24)) h).bind (fun (h1 : mm_H) =>
(gX8_addByte o ((mm_ushr p0 16)) h1).bind (fun (h3 : mm_H) =>
(gX8_addByte o ((mm_ushr p0 8)) h3).bind (fun (h5 : mm_H) =>
(gX8_addByte o p0 h5).bind (fun (h7 : mm_H) =>
some h7))))
theorem rX8_addBytesOf {q : mm_q} (o : Nat) (p0 : Int32) (h : mm_H) (ho : mm_kd o = (0, 8)) : mm_R2 (mm_Sq q) (mm_Sq q) mX8_addBytesOf [.ref o, .int p0] h (gX8_addBytesOf o p0 h) lf_v := by
  refine mm_body (L := [some (.ref o), some (.int p0)]) rfl (by decide +kernel) (Nat.le_of_ble_eq_true rfl) rfl ?_
  unfold gX8_addBytesOf
  refine me_aload_n (pc' := 1) (i := 0) dX8_addBytesOf_0 rfl rfl rfl ?_
  refine me_iload_n (pc' := 2) (i := 1) dX8_addBytesOf_1 rfl rfl rfl ?_
  refine me_bipush (pc' := 4) (v := 24) dX8_addBytesOf_2 rfl kc_b24 ?_
  refine me_iushr (pc' := 5) (v := (mm_ushr p0 24)) dX8_addBytesOf_4 rfl rfl ?_
  refine me_callV (As := [.int (mm_ushr p0 24)]) (st := []) (F' := (mm_Sq q)) (G' := (mm_Sq q)) (F'' := (mm_Sq q)) (pc' := 8) dX8_addBytesOf_5 rfl mfX8_addByte rfl lkX8_25 (mm_ks ho) rfl (mm_ltq ho) ⟨Nat.le_of_ble_eq_true rfl, Nat.le_of_ble_eq_true rfl⟩ (Nat.le_of_ble_eq_true rfl) (fun z => z) (rX8_addByte (q := q) o ((mm_ushr p0 24)) h ho) (fun h1 e2 => Or.inl ⟨_, _, rfl, fun z => z, ?_⟩)
  show mm_E2 _ _ _ _ _ [] h1 _ _
  refine me_aload_n (pc' := 9) (i := 0) dX8_addBytesOf_8 rfl rfl rfl ?_
  refine me_iload_n (pc' := 10) (i := 1) dX8_addBytesOf_9 rfl rfl rfl ?_
  refine me_bipush (pc' := 12) (v := 16) dX8_addBytesOf_10 rfl kc_b16 ?_
  refine me_iushr (pc' := 13) (v := (mm_ushr p0 16)) dX8_addBytesOf_12 rfl rfl ?_
  refine me_callV (As := [.int (mm_ushr p0 16)]) (st := []) (F' := (mm_Sq q)) (G' := (mm_Sq q)) (F'' := (mm_Sq q)) (pc' := 16) dX8_addBytesOf_13 rfl mfX8_addByte rfl lkX8_25 (mm_ks ho) rfl (mm_ltq ho) ⟨Nat.le_of_ble_eq_true rfl, Nat.le_of_ble_eq_true rfl⟩ (Nat.le_of_ble_eq_true rfl) (fun z => z) (rX8_addByte (q := q) o ((mm_ushr p0 16)) h1 ho) (fun h3 e4 => Or.inl ⟨_, _, rfl, fun z => z, ?_⟩)
  show mm_E2 _ _ _ _ _ [] h3 _ _
  refine me_aload_n (pc' := 17) (i := 0) dX8_addBytesOf_16 rfl rfl rfl ?_
  refine me_iload_n (pc' := 18) (i := 1) dX8_addBytesOf_17 rfl rfl rfl ?_
  refine me_bipush (pc' := 20) (v := 8) dX8_addBytesOf_18 rfl kc_b8 ?_
  refine me_iushr (pc' := 21) (v := (mm_ushr p0 8)) dX8_addBytesOf_20 rfl rfl ?_
  refine me_callV (As := [.int (mm_ushr p0 8)]) (st := []) (F' := (mm_Sq q)) (G' := (mm_Sq q)) (F'' := (mm_Sq q)) (pc' := 24) dX8_addBytesOf_21 rfl mfX8_addByte rfl lkX8_25 (mm_ks ho) rfl (mm_ltq ho) ⟨Nat.le_of_ble_eq_true rfl, Nat.le_of_ble_eq_true rfl⟩ (Nat.le_of_ble_eq_true rfl) (fun z => z) (rX8_addByte (q := q) o ((mm_ushr p0 8)) h3 ho) (fun h5 e6 => Or.inl ⟨_, _, rfl, fun z => z, ?_⟩)
  show mm_E2 _ _ _ _ _ [] h5 _ _
  refine me_aload_n (pc' := 25) (i := 0) dX8_addBytesOf_24 rfl rfl rfl ?_
  refine me_iload_n (pc' := 26) (i := 1) dX8_addBytesOf_25 rfl rfl rfl ?_
  refine me_callV (As := [.int p0]) (st := []) (F' := (mm_Sq q)) (G' := (mm_Sq q)) (F'' := (mm_Sq q)) (pc' := 29) dX8_addBytesOf_26 rfl mfX8_addByte rfl lkX8_25 (mm_ks ho) rfl (mm_ltq ho) ⟨Nat.le_of_ble_eq_true rfl, Nat.le_of_ble_eq_true rfl⟩ (Nat.le_of_ble_eq_true rfl) (fun z => z) (rX8_addByte (q := q) o p0 h5 ho) (fun h7 e8 => Or.inl ⟨_, _, rfl, fun z => z, ?_⟩)
  show mm_E2 _ _ _ _ _ [] h7 _ _
  exact me_vret dX8_addBytesOf_29 rfl (fun z => z) rfl
def gX8_cutTo (o : Nat) (p0 : Int32) (h : mm_H) : Option mm_H :=
(some (ms_I h o 1 ((mm_max 0 ((mm_min ((mh_I h o 1)) p0)))))).bind (fun (h1 : mm_H) =>
some h1)
theorem rX8_cutTo {q : mm_q} (o : Nat) (p0 : Int32) (h : mm_H) (ho : mm_kd o = (0, 8)) : mm_R2 (mm_Sq q) (mm_Sq q) mX8_cutTo [.ref o, .int p0] h (gX8_cutTo o p0 h) lf_v := by
  refine mm_body (L := [some (.ref o), some (.int p0)]) rfl (by decide +kernel) (Nat.le_of_ble_eq_true rfl) rfl ?_
  unfold gX8_cutTo
  refine me_aload_n (pc' := 1) (i := 0) dX8_cutTo_0 rfl rfl rfl ?_
  refine me_iconst (pc' := 2) (v := 0) dX8_cutTo_1 rfl kc_i0 ?_
  refine me_aload_n (pc' := 3) (i := 0) dX8_cutTo_2 rfl rfl rfl ?_
  refine me_getI (pc' := 6) dX8_cutTo_3 rfl fkX8_21 (mm_ks ho) (mm_ltq ho) rfl ?_
  refine me_iload_n (pc' := 7) (i := 1) dX8_cutTo_6 rfl rfl rfl ?_
  refine me_mmin (pc' := 10) dX8_cutTo_7 rfl ljX8_29 ⟨Nat.le_of_ble_eq_true rfl, Nat.le_of_ble_eq_true rfl⟩ (Nat.le_of_ble_eq_true rfl) ?_
  show mm_E2 _ _ _ _ _ [.int (mm_min ((mh_I h o 1)) p0), .int 0, .ref o] _ _ _
  refine me_mmax (pc' := 13) dX8_cutTo_10 rfl ljX8_9 ⟨Nat.le_of_ble_eq_true rfl, Nat.le_of_ble_eq_true rfl⟩ (Nat.le_of_ble_eq_true rfl) ?_
  show mm_E2 _ _ _ _ _ [.int (mm_max 0 ((mm_min ((mh_I h o 1)) p0))), .ref o] _ _ _
  refine me_putI (F' := (mm_Sq q)) (pc' := 16) dX8_cutTo_13 rfl fkX8_21 (mm_ks ho) (mm_ltq ho) rfl pgX8_1 (fun z => z) ?_
  refine mm_bnd (ms_I h o 1 ((mm_max 0 ((mm_min ((mh_I h o 1)) p0))))) (fun _ => [some (.ref o), some (.int p0)]) (fun _ => []) (fun h1 => h1) (fun h1 => ?_)
  exact me_vret dX8_cutTo_16 rfl (fun z => z) rfl
def gX1_copyFrom (o : Nat) (p0 : Nat) (h : mm_H) : Option mm_H :=
(some (ms_I h o 0 ((mh_I h p0 0)))).bind (fun (h1 : mm_H) =>
(gX4_copyFrom ((o + 1)) ((p0 + 1)) h1).bind (fun (h2 : mm_H) =>
(gX4_copyFrom ((o + 3)) ((p0 + 3)) h2).bind (fun (h4 : mm_H) =>
(gX4_copyFrom ((o + 5)) ((p0 + 5)) h4).bind (fun (h6 : mm_H) =>
some h6))))
theorem rX1_copyFrom {q : mm_q} (o : Nat) (p0 : Nat) (h : mm_H) (ho : mm_kd o = (0, 1)) (hp0 : mm_kd p0 = (0, 1)) : mm_R2 (mm_Sq q) (mm_Sq q) mX1_copyFrom [.ref o, .ref p0] h (gX1_copyFrom o p0 h) lf_v := by
  refine mm_body (L := [some (.ref o), some (.ref p0)]) rfl (by decide +kernel) (Nat.le_of_ble_eq_true rfl) rfl ?_
  unfold gX1_copyFrom
  refine me_aload_n (pc' := 1) (i := 0) dX1_copyFrom_0 rfl rfl rfl ?_
  refine me_aload_n (pc' := 2) (i := 1) dX1_copyFrom_1 rfl rfl rfl ?_
  refine me_getI (pc' := 5) dX1_copyFrom_2 rfl fkX1_26 (mm_ks hp0) (mm_ltq hp0) rfl ?_
  refine me_putI (F' := (mm_Sq q)) (pc' := 8) dX1_copyFrom_5 rfl fkX1_26 (mm_ks ho) (mm_ltq ho) rfl pgX1_0 (fun z => z) ?_
  refine mm_bnd (ms_I h o 0 ((mh_I h p0 0))) (fun _ => [some (.ref o), some (.ref p0)]) (fun _ => []) (fun h1 => h1) (fun h1 => ?_)
  refine me_aload_n (pc' := 9) (i := 0) dX1_copyFrom_8 rfl rfl rfl ?_
  refine me_getR (pc' := 12) (q' := (o + 1)) dX1_copyFrom_9 rfl fkX1_14 (mm_ks ho) (mm_ltq ho) rfl (mrX1_1 ho) ?_
  refine me_aload_n (pc' := 13) (i := 1) dX1_copyFrom_12 rfl rfl rfl ?_
  refine me_getR (pc' := 16) (q' := (p0 + 1)) dX1_copyFrom_13 rfl fkX1_14 (mm_ks hp0) (mm_ltq hp0) rfl (mrX1_1 hp0) ?_
  refine me_callV (As := [.ref (p0 + 1)]) (st := []) (F' := (mm_Sq q)) (G' := (mm_Sq q)) (F'' := (mm_Sq q)) (pc' := 19) dX1_copyFrom_16 rfl mfX4_copyFrom rfl lkX1_30 (mm_ks (kdX1_1 ho)) rfl (mm_ltq (kdX1_1 ho)) ⟨Nat.le_of_ble_eq_true rfl, Nat.le_of_ble_eq_true rfl⟩ (Nat.le_of_ble_eq_true rfl) (fun z => z) (rX4_copyFrom (q := q) ((o + 1)) ((p0 + 1)) h1 (kdX1_1 ho) (kdX1_1 hp0)) (fun h2 e3 => Or.inl ⟨_, _, rfl, fun z => z, ?_⟩)
  show mm_E2 _ _ _ _ _ [] h2 _ _
  refine me_aload_n (pc' := 20) (i := 0) dX1_copyFrom_19 rfl rfl rfl ?_
  refine me_getR (pc' := 23) (q' := (o + 3)) dX1_copyFrom_20 rfl fkX1_20 (mm_ks ho) (mm_ltq ho) rfl (mrX1_2 ho) ?_
  refine me_aload_n (pc' := 24) (i := 1) dX1_copyFrom_23 rfl rfl rfl ?_
  refine me_getR (pc' := 27) (q' := (p0 + 3)) dX1_copyFrom_24 rfl fkX1_20 (mm_ks hp0) (mm_ltq hp0) rfl (mrX1_2 hp0) ?_
  refine me_callV (As := [.ref (p0 + 3)]) (st := []) (F' := (mm_Sq q)) (G' := (mm_Sq q)) (F'' := (mm_Sq q)) (pc' := 30) dX1_copyFrom_27 rfl mfX4_copyFrom rfl lkX1_30 (mm_ks (kdX1_2 ho)) rfl (mm_ltq (kdX1_2 ho)) ⟨Nat.le_of_ble_eq_true rfl, Nat.le_of_ble_eq_true rfl⟩ (Nat.le_of_ble_eq_true rfl) (fun z => z) (rX4_copyFrom (q := q) ((o + 3)) ((p0 + 3)) h2 (kdX1_2 ho) (kdX1_2 hp0)) (fun h4 e5 => Or.inl ⟨_, _, rfl, fun z => z, ?_⟩)
  show mm_E2 _ _ _ _ _ [] h4 _ _
  refine me_aload_n (pc' := 31) (i := 0) dX1_copyFrom_30 rfl rfl rfl ?_
  refine me_getR (pc' := 34) (q' := (o + 5)) dX1_copyFrom_31 rfl fkX1_23 (mm_ks ho) (mm_ltq ho) rfl (mrX1_3 ho) ?_
  refine me_aload_n (pc' := 35) (i := 1) dX1_copyFrom_34 rfl rfl rfl ?_
  refine me_getR (pc' := 38) (q' := (p0 + 5)) dX1_copyFrom_35 rfl fkX1_23 (mm_ks hp0) (mm_ltq hp0) rfl (mrX1_3 hp0) ?_
  refine me_callV (As := [.ref (p0 + 5)]) (st := []) (F' := (mm_Sq q)) (G' := (mm_Sq q)) (F'' := (mm_Sq q)) (pc' := 41) dX1_copyFrom_38 rfl mfX4_copyFrom rfl lkX1_30 (mm_ks (kdX1_3 ho)) rfl (mm_ltq (kdX1_3 ho)) ⟨Nat.le_of_ble_eq_true rfl, Nat.le_of_ble_eq_true rfl⟩ (Nat.le_of_ble_eq_true rfl) (fun z => z) (rX4_copyFrom (q := q) ((o + 5)) ((p0 + 5)) h4 (kdX1_3 ho) (kdX1_3 hp0)) (fun h6 e7 => Or.inl ⟨_, _, rfl, fun z => z, ?_⟩)
  show mm_E2 _ _ _ _ _ [] h6 _ _
  exact me_vret dX1_copyFrom_41 rfl (fun z => z) rfl
def gX2_forget (h : mm_H) : Option mm_H :=
(some (ms_I h 90 2 0)).bind (fun (h1 : mm_H) =>
some h1)
theorem rX2_forget {q : mm_q} (h : mm_H) : mm_R2 (mm_Sq q) (mm_Sq q) mX2_forget [.ref 90] h (gX2_forget h) lf_v := by
  refine mm_body (L := [some (.ref 90)]) rfl (by decide +kernel) (Nat.le_of_ble_eq_true rfl) rfl ?_
  unfold gX2_forget
  refine me_aload_n (pc' := 1) (i := 0) dX2_forget_0 rfl rfl rfl ?_
  refine me_iconst (pc' := 2) (v := 0) dX2_forget_1 rfl kc_i0 ?_
  refine me_putI (F' := (mm_Sq q)) (pc' := 5) dX2_forget_2 rfl fkX2_20 (mm_ks kd_90) (mm_ltq kd_90) rfl pgX2_2 (fun z => z) ?_
  refine mm_bnd (ms_I h 90 2 0) (fun _ => [some (.ref 90)]) (fun _ => []) (fun h1 => h1) (fun h1 => ?_)
  exact me_vret dX2_forget_5 rfl (fun z => z) rfl
def gX1_empty (o : Nat) (h : mm_H) : Option mm_H :=
(some (ms_I h o 0 0)).bind (fun (h1 : mm_H) =>
some h1)
theorem rX1_empty {q : mm_q} (o : Nat) (h : mm_H) (ho : mm_kd o = (0, 1)) : mm_R2 (mm_Sq q) (mm_Sq q) mX1_empty [.ref o] h (gX1_empty o h) lf_v := by
  refine mm_body (L := [some (.ref o)]) rfl (by decide +kernel) (Nat.le_of_ble_eq_true rfl) rfl ?_
  unfold gX1_empty
  refine me_aload_n (pc' := 1) (i := 0) dX1_empty_0 rfl rfl rfl ?_
  refine me_iconst (pc' := 2) (v := 0) dX1_empty_1 rfl kc_i0 ?_
  refine me_putI (F' := (mm_Sq q)) (pc' := 5) dX1_empty_2 rfl fkX1_26 (mm_ks ho) (mm_ltq ho) rfl pgX1_0 (fun z => z) ?_
  refine mm_bnd (ms_I h o 0 0) (fun _ => [some (.ref o)]) (fun _ => []) (fun h1 => h1) (fun h1 => ?_)
  exact me_vret dX1_empty_5 rfl (fun z => z) rfl
def gX8_byteAt (o : Nat) (p0 : Int32) (h : mm_H) : Option Int32 :=
if p0 < 0 then
some (-1)
else
if p0 < (mh_I h o 1) then
if p0 < (nI (mm_cap o)) then
if mm_ibd p0 (mm_cap o) = true then
some (((mh_I h (o + 1) (Int32.toNatClampNeg (p0))) &&& 255)) else none
else
some (-1)
else
some (-1)
theorem rX8_byteAt {q : mm_q} (o : Nat) (p0 : Int32) (h : mm_H) (ho : mm_kd o = (0, 8)) : mm_R2 (mm_Sq q) (mm_Sq q) mX8_byteAt [.ref o, .int p0] h (gX8_byteAt o p0 h) (lf_i h) := by
  refine mm_body (L := [some (.ref o), some (.int p0)]) rfl (by decide +kernel) (Nat.le_of_ble_eq_true rfl) rfl ?_
  unfold gX8_byteAt
  refine me_iload_n (pc' := 1) (i := 1) dX8_byteAt_0 rfl rfl rfl ?_
  refine me_if_lt (pc' := 4) (tgt := 34) dX8_byteAt_1 (by decide) rfl (fun c1 => ?_) (fun c1 => ?_)
  · refine me_iconst (pc' := 35) (v := (-1)) dX8_byteAt_34 rfl kc_im1 ?_
    exact me_iret dX8_byteAt_35 rfl (fun z => z) rfl
  · refine me_iload_n (pc' := 5) (i := 1) dX8_byteAt_4 rfl rfl rfl ?_
    refine me_aload_n (pc' := 6) (i := 0) dX8_byteAt_5 rfl rfl rfl ?_
    refine me_getI (pc' := 9) dX8_byteAt_6 rfl fkX8_21 (mm_ks ho) (mm_ltq ho) rfl ?_
    refine me_icmp_ge (pc' := 12) (tgt := 34) dX8_byteAt_9 (by decide) rfl (fun c2 => ?_) (fun c2 => ?_)
    · refine me_iconst (pc' := 35) (v := (-1)) dX8_byteAt_34 rfl kc_im1 ?_
      exact me_iret dX8_byteAt_35 rfl (fun z => z) rfl
    · refine me_iload_n (pc' := 13) (i := 1) dX8_byteAt_12 rfl rfl rfl ?_
      refine me_aload_n (pc' := 14) (i := 0) dX8_byteAt_13 rfl rfl rfl ?_
      refine me_getR (pc' := 17) (q' := (o + 1)) dX8_byteAt_14 rfl fkX8_15 (mm_ks ho) (mm_ltq ho) rfl (mrX8_0 ho) ?_
      refine me_alen (pc' := 18) (v := (nI (mm_cap o))) dX8_byteAt_17 rfl (mm_ks (kdX8_0 ho)) (mm_ltq (kdX8_0 ho)) rfl ?_
      refine me_icmp_ge (pc' := 21) (tgt := 34) dX8_byteAt_18 (by decide) rfl (fun c3 => ?_) (fun c3 => ?_)
      · refine me_iconst (pc' := 35) (v := (-1)) dX8_byteAt_34 rfl kc_im1 ?_
        exact me_iret dX8_byteAt_35 rfl (fun z => z) rfl
      · refine me_aload_n (pc' := 22) (i := 0) dX8_byteAt_21 rfl rfl rfl ?_
        refine me_getR (pc' := 25) (q' := (o + 1)) dX8_byteAt_22 rfl fkX8_15 (mm_ks ho) (mm_ltq ho) rfl (mrX8_0 ho) ?_
        refine me_iload_n (pc' := 26) (i := 1) dX8_byteAt_25 rfl rfl rfl ?_
        refine mm_guard (fun c4 => ?_)
        refine me_bald (pc' := 27) dX8_byteAt_26 rfl (mm_ks (kdX8_0 ho)) (mm_ltq (kdX8_0 ho)) (mm_ibd_of c4) ?_
        refine me_sipush (pc' := 30) (v := 255) dX8_byteAt_27 rfl kc_s255 ?_
        refine me_iand (pc' := 31) dX8_byteAt_30 rfl ?_
        refine me_goto (tgt := 35) dX8_byteAt_31 (by decide) ?_
        exact me_iret dX8_byteAt_35 rfl (fun z => z) rfl
def gX1_hasLetters_L3 (o : Nat) (p1 : Nat) (u1 : Int32) (u2 : Int32) (h : mm_H) : Nat → Int32 → Option Bool
  | 0, _ => none
  | n + 1, w3 =>
    (gX4_get ((o + 3)) u1 h).bind (fun (x4 : Int32) =>
    if w3 < x4 then
    (gX4_get ((o + 1)) (((u1 * 6) + w3)) h).bind (fun (x7 : Int32) =>
    (gX8_byteAt p1 ((u2 + w3)) h).bind (fun (x9 : Int32) =>
    if x7 = x9 then
    (some (w3 + 1)).bind (fun (x12 : Int32) =>
    gX1_hasLetters_L3 o p1 u1 u2 h n x12)
    else
    some false))
    else
    some true)
def gX1_hasLetters (o : Nat) (p0 : Int32) (p1 : Nat) (p2 : Int32) (h : mm_H) : Option Bool :=
gX1_hasLetters_L3 o p1 p0 p2 h mm_F 0
theorem rX1_hasLetters_L3 {q : mm_q} (o : Nat) (p1 : Nat) (u1 : Int32) (u2 : Int32)  (h : mm_H) (ho : mm_kd o = (0, 1)) (hp1 : mm_kd p1 = (0, 8)) : ∀ (n : Nat) (w3 : Int32), mm_E2 (mm_Sq q) (mm_Sq q) mX1_hasLetters 3 [some (.ref o), some (.int u1), some (.ref p1), some (.int u2), some (.int w3)] [] h (gX1_hasLetters_L3 o p1 u1 u2 h n w3) (lf_z h) := by
  intro n
  induction n with
  | zero =>
    intro w3
    exact mm_none
  | succ n ih =>
    intro w3
    rw [gX1_hasLetters_L3]
    refine me_iload (pc' := 5) (i := 4) dX1_hasLetters_3 rfl rfl ?_
    refine me_aload_n (pc' := 6) (i := 0) dX1_hasLetters_5 rfl rfl rfl ?_
    refine me_getR (pc' := 9) (q' := (o + 3)) dX1_hasLetters_6 rfl fkX1_20 (mm_ks ho) (mm_ltq ho) rfl (mrX1_2 ho) ?_
    refine me_iload_n (pc' := 10) (i := 1) dX1_hasLetters_9 rfl rfl rfl ?_
    refine me_callV (As := [.int u1]) (st := [.int w3]) (F' := (mm_Sq q)) (G' := (mm_Sq q)) (F'' := (mm_Sq q)) (pc' := 13) dX1_hasLetters_10 rfl mfX4_get rfl lkX1_57 (mm_ks (kdX1_2 ho)) rfl (mm_ltq (kdX1_2 ho)) ⟨Nat.le_of_ble_eq_true rfl, Nat.le_of_ble_eq_true rfl⟩ (Nat.le_of_ble_eq_true rfl) (fun z => z) (rX4_get (q := q) ((o + 3)) u1 h (kdX1_2 ho)) (fun x4 e5 => Or.inl ⟨_, _, rfl, fun z => z, ?_⟩)
    show mm_E2 _ _ _ _ _ [.int x4, .int w3] h _ _
    refine me_icmp_ge (pc' := 16) (tgt := 49) dX1_hasLetters_13 (by decide) rfl (fun c6 => ?_) (fun c6 => ?_)
    · refine me_iconst (pc' := 50) (v := 1) dX1_hasLetters_49 rfl kc_i1 ?_
      exact me_zret (b := true) dX1_hasLetters_50 rfl (fun z => z) rfl
    · refine me_aload_n (pc' := 17) (i := 0) dX1_hasLetters_16 rfl rfl rfl ?_
      refine me_getR (pc' := 20) (q' := (o + 1)) dX1_hasLetters_17 rfl fkX1_14 (mm_ks ho) (mm_ltq ho) rfl (mrX1_1 ho) ?_
      refine me_iload_n (pc' := 21) (i := 1) dX1_hasLetters_20 rfl rfl rfl ?_
      refine me_bipush (pc' := 23) (v := 6) dX1_hasLetters_21 rfl kc_b6 ?_
      refine me_imul (pc' := 24) dX1_hasLetters_23 rfl ?_
      refine me_iload (pc' := 26) (i := 4) dX1_hasLetters_24 rfl rfl ?_
      refine me_iadd (pc' := 27) dX1_hasLetters_26 rfl ?_
      refine me_callV (As := [.int ((u1 * 6) + w3)]) (st := []) (F' := (mm_Sq q)) (G' := (mm_Sq q)) (F'' := (mm_Sq q)) (pc' := 30) dX1_hasLetters_27 rfl mfX4_get rfl lkX1_57 (mm_ks (kdX1_1 ho)) rfl (mm_ltq (kdX1_1 ho)) ⟨Nat.le_of_ble_eq_true rfl, Nat.le_of_ble_eq_true rfl⟩ (Nat.le_of_ble_eq_true rfl) (fun z => z) (rX4_get (q := q) ((o + 1)) (((u1 * 6) + w3)) h (kdX1_1 ho)) (fun x7 e8 => Or.inl ⟨_, _, rfl, fun z => z, ?_⟩)
      show mm_E2 _ _ _ _ _ [.int x7] h _ _
      refine me_aload_n (pc' := 31) (i := 2) dX1_hasLetters_30 rfl rfl rfl ?_
      refine me_iload_n (pc' := 32) (i := 3) dX1_hasLetters_31 rfl rfl rfl ?_
      refine me_iload (pc' := 34) (i := 4) dX1_hasLetters_32 rfl rfl ?_
      refine me_iadd (pc' := 35) dX1_hasLetters_34 rfl ?_
      refine me_callV (As := [.int (u2 + w3)]) (st := [.int x7]) (F' := (mm_Sq q)) (G' := (mm_Sq q)) (F'' := (mm_Sq q)) (pc' := 38) dX1_hasLetters_35 rfl mfX8_byteAt rfl lkX1_65 (mm_ks hp1) rfl (mm_ltq hp1) ⟨Nat.le_of_ble_eq_true rfl, Nat.le_of_ble_eq_true rfl⟩ (Nat.le_of_ble_eq_true rfl) (fun z => z) (rX8_byteAt (q := q) p1 ((u2 + w3)) h hp1) (fun x9 e10 => Or.inl ⟨_, _, rfl, fun z => z, ?_⟩)
      show mm_E2 _ _ _ _ _ [.int x9, .int x7] h _ _
      refine me_icmp_eq (pc' := 41) (tgt := 43) dX1_hasLetters_38 (by decide) rfl (fun c11 => ?_) (fun c11 => ?_)
      · refine me_iinc (pc' := 46) (i := 4) (x := w3) (y := w3 + 1) (L' := [some (.ref o), some (.int u1), some (.ref p1), some (.int u2), some (.int (w3 + 1))]) dX1_hasLetters_43 rfl (Nat.le_of_ble_eq_true rfl) (Nat.le_of_ble_eq_true rfl) rfl (kc_plus kc_i1) rfl ?_
        refine mm_bnd (w3 + 1) (fun x12 => [some (.ref o), some (.int u1), some (.ref p1), some (.int u2), some (.int x12)]) (fun _ => []) (fun _ => h) (fun x12 => ?_)
        refine me_goto (tgt := 3) dX1_hasLetters_46 (by decide) ?_
        exact ih x12
      · refine me_iconst (pc' := 42) (v := 0) dX1_hasLetters_41 rfl kc_i0 ?_
        exact me_zret (b := false) dX1_hasLetters_42 rfl (fun z => z) rfl
theorem rX1_hasLetters {q : mm_q} (o : Nat) (p0 : Int32) (p1 : Nat) (p2 : Int32) (h : mm_H) (ho : mm_kd o = (0, 1)) (hp1 : mm_kd p1 = (0, 8)) : mm_R2 (mm_Sq q) (mm_Sq q) mX1_hasLetters [.ref o, .int p0, .ref p1, .int p2] h (gX1_hasLetters o p0 p1 p2 h) (lf_z h) := by
  refine mm_body (L := [some (.ref o), some (.int p0), some (.ref p1), some (.int p2), none]) rfl (by decide +kernel) (Nat.le_of_ble_eq_true rfl) rfl ?_
  unfold gX1_hasLetters
  refine me_iconst (pc' := 1) (v := 0) dX1_hasLetters_0 rfl kc_i0 ?_
  refine me_istore (pc' := 3) (i := 4) (L' := [some (.ref o), some (.int p0), some (.ref p1), some (.int p2), some (.int 0)]) dX1_hasLetters_1 rfl (Nat.le_of_ble_eq_true rfl) (Nat.le_of_ble_eq_true rfl) rfl ?_
  exact rX1_hasLetters_L3 (q := q) o p1 p0 p2 h ho hp1 mm_F 0
def gX1_numberOf_L3 (o : Nat) (p0 : Nat) (u1 : Int32) (u2 : Int32) (h : mm_H) : Nat → Int32 → Option Int32
  | 0, _ => none
  | n + 1, w3 =>
    if w3 < (mh_I h o 0) then
    (gX4_get ((o + 3)) w3 h).bind (fun (x5 : Int32) =>
    mm_jn (fun (_ : Unit) =>
    (some (w3 + 1)).bind (fun (x8 : Int32) =>
    gX1_numberOf_L3 o p0 u1 u2 h n x8)) (fun (j7 : Unit → Option Int32) =>
    if x5 = u2 then
    (gX1_hasLetters o w3 p0 u1 h).bind (fun (x10 : Bool) =>
    if x10 = true then
    some w3
    else
    j7 ())
    else
    j7 ()))
    else
    some (-1)
def gX1_numberOf (o : Nat) (p0 : Nat) (p1 : Int32) (p2 : Int32) (h : mm_H) : Option Int32 :=
gX1_numberOf_L3 o p0 p1 p2 h mm_F 0
theorem rX1_numberOf_L3 {q : mm_q} (o : Nat) (p0 : Nat) (u1 : Int32) (u2 : Int32)  (h : mm_H) (ho : mm_kd o = (0, 1)) (hp0 : mm_kd p0 = (0, 8)) : ∀ (n : Nat) (w3 : Int32), mm_E2 (mm_Sq q) (mm_Sq q) mX1_numberOf 3 [some (.ref o), some (.ref p0), some (.int u1), some (.int u2), some (.int w3)] [] h (gX1_numberOf_L3 o p0 u1 u2 h n w3) (lf_i h) := by
  intro n
  induction n with
  | zero =>
    intro w3
    exact mm_none
  | succ n ih =>
    intro w3
    rw [gX1_numberOf_L3]
    refine me_iload (pc' := 5) (i := 4) dX1_numberOf_3 rfl rfl ?_
    refine me_aload_n (pc' := 6) (i := 0) dX1_numberOf_5 rfl rfl rfl ?_
    refine me_getI (pc' := 9) dX1_numberOf_6 rfl fkX1_26 (mm_ks ho) (mm_ltq ho) rfl ?_
    refine me_icmp_ge (pc' := 12) (tgt := 45) dX1_numberOf_9 (by decide) rfl (fun c4 => ?_) (fun c4 => ?_)
    · refine me_iconst (pc' := 46) (v := (-1)) dX1_numberOf_45 rfl kc_im1 ?_
      exact me_iret dX1_numberOf_46 rfl (fun z => z) rfl
    · refine me_aload_n (pc' := 13) (i := 0) dX1_numberOf_12 rfl rfl rfl ?_
      refine me_getR (pc' := 16) (q' := (o + 3)) dX1_numberOf_13 rfl fkX1_20 (mm_ks ho) (mm_ltq ho) rfl (mrX1_2 ho) ?_
      refine me_iload (pc' := 18) (i := 4) dX1_numberOf_16 rfl rfl ?_
      refine me_callV (As := [.int w3]) (st := []) (F' := (mm_Sq q)) (G' := (mm_Sq q)) (F'' := (mm_Sq q)) (pc' := 21) dX1_numberOf_18 rfl mfX4_get rfl lkX1_57 (mm_ks (kdX1_2 ho)) rfl (mm_ltq (kdX1_2 ho)) ⟨Nat.le_of_ble_eq_true rfl, Nat.le_of_ble_eq_true rfl⟩ (Nat.le_of_ble_eq_true rfl) (fun z => z) (rX4_get (q := q) ((o + 3)) w3 h (kdX1_2 ho)) (fun x5 e6 => Or.inl ⟨_, _, rfl, fun z => z, ?_⟩)
      show mm_E2 _ _ _ _ _ [.int x5] h _ _
      refine me_iload_n (pc' := 22) (i := 3) dX1_numberOf_21 rfl rfl rfl ?_
      refine mm_jnI (fun (j79 : Unit → Option Int32) => ∀ (_ : Unit), mm_E2 (mm_Sq q) (mm_Sq q) mX1_numberOf 39 [some (.ref o), some (.ref p0), some (.int u1), some (.int u2), some (.int w3)] [] h (j79 ()) (lf_i h)) ?_ (fun j7 j7p => ?_)
      · intro _
        refine me_iinc (pc' := 42) (i := 4) (x := w3) (y := w3 + 1) (L' := [some (.ref o), some (.ref p0), some (.int u1), some (.int u2), some (.int (w3 + 1))]) dX1_numberOf_39 rfl (Nat.le_of_ble_eq_true rfl) (Nat.le_of_ble_eq_true rfl) rfl (kc_plus kc_i1) rfl ?_
        refine mm_bnd (w3 + 1) (fun x8 => [some (.ref o), some (.ref p0), some (.int u1), some (.int u2), some (.int x8)]) (fun _ => []) (fun _ => h) (fun x8 => ?_)
        refine me_goto (tgt := 3) dX1_numberOf_42 (by decide) ?_
        exact ih x8
      refine me_icmp_ne (pc' := 25) (tgt := 39) dX1_numberOf_22 (by decide) rfl (fun c9 => ?_) (fun c9 => ?_)
      · exact j7p ()
      · refine me_aload_n (pc' := 26) (i := 0) dX1_numberOf_25 rfl rfl rfl ?_
        refine me_iload (pc' := 28) (i := 4) dX1_numberOf_26 rfl rfl ?_
        refine me_aload_n (pc' := 29) (i := 1) dX1_numberOf_28 rfl rfl rfl ?_
        refine me_iload_n (pc' := 30) (i := 2) dX1_numberOf_29 rfl rfl rfl ?_
        refine me_callV (As := [.int w3, .ref p0, .int u1]) (st := []) (F' := (mm_Sq q)) (G' := (mm_Sq q)) (F'' := (mm_Sq q)) (pc' := 33) dX1_numberOf_30 rfl mfX1_hasLetters rfl lkX1_61 (mm_ks ho) rfl (mm_ltq ho) ⟨Nat.le_of_ble_eq_true rfl, Nat.le_of_ble_eq_true rfl⟩ (Nat.le_of_ble_eq_true rfl) (fun z => z) (rX1_hasLetters (q := q) o w3 p0 u1 h ho hp0) (fun x10 e11 => Or.inl ⟨_, _, rfl, fun z => z, ?_⟩)
        show mm_E2 _ _ _ _ _ [.int (mx_bi x10)] h _ _
        refine me_ifB_eq (pc' := 36) (tgt := 39) dX1_numberOf_33 (by decide) rfl (fun c12 => ?_) (fun c12 => ?_)
        · exact j7p ()
        · refine me_iload (pc' := 38) (i := 4) dX1_numberOf_36 rfl rfl ?_
          exact me_iret dX1_numberOf_38 rfl (fun z => z) rfl
theorem rX1_numberOf {q : mm_q} (o : Nat) (p0 : Nat) (p1 : Int32) (p2 : Int32) (h : mm_H) (ho : mm_kd o = (0, 1)) (hp0 : mm_kd p0 = (0, 8)) : mm_R2 (mm_Sq q) (mm_Sq q) mX1_numberOf [.ref o, .ref p0, .int p1, .int p2] h (gX1_numberOf o p0 p1 p2 h) (lf_i h) := by
  refine mm_body (L := [some (.ref o), some (.ref p0), some (.int p1), some (.int p2), none]) rfl (by decide +kernel) (Nat.le_of_ble_eq_true rfl) rfl ?_
  unfold gX1_numberOf
  refine me_iconst (pc' := 1) (v := 0) dX1_numberOf_0 rfl kc_i0 ?_
  refine me_istore (pc' := 3) (i := 4) (L' := [some (.ref o), some (.ref p0), some (.int p1), some (.int p2), some (.int 0)]) dX1_numberOf_1 rfl (Nat.le_of_ble_eq_true rfl) (Nat.le_of_ble_eq_true rfl) rfl ?_
  exact rX1_numberOf_L3 (q := q) o p0 p1 p2 h ho hp0 mm_F 0
def gX7_empty (o : Nat) (h : mm_H) : Option mm_H :=
(some (ms_I h o 0 0)).bind (fun (h1 : mm_H) =>
(some (ms_I h1 o 1 0)).bind (fun (h2 : mm_H) =>
(some (ms_I h2 o 7 0)).bind (fun (h3 : mm_H) =>
(gX4_zero ((o + 21)) h3).bind (fun (h4 : mm_H) =>
(gX4_zero ((o + 23)) h4).bind (fun (h6 : mm_H) =>
(gX4_zero ((o + 25)) h6).bind (fun (h8 : mm_H) =>
(gX4_zero ((o + 27)) h8).bind (fun (h10 : mm_H) =>
(gX4_zero ((o + 29)) h10).bind (fun (h12 : mm_H) =>
some h12))))))))
theorem rX7_empty {q : mm_q} (o : Nat) (h : mm_H) (ho : mm_kd o = (0, 7)) : mm_R2 (mm_Sq q) (mm_Sq q) mX7_empty [.ref o] h (gX7_empty o h) lf_v := by
  refine mm_body (L := [some (.ref o)]) rfl (by decide +kernel) (Nat.le_of_ble_eq_true rfl) rfl ?_
  unfold gX7_empty
  refine me_aload_n (pc' := 1) (i := 0) dX7_empty_0 rfl rfl rfl ?_
  refine me_iconst (pc' := 2) (v := 0) dX7_empty_1 rfl kc_i0 ?_
  refine me_putI (F' := (mm_Sq q)) (pc' := 5) dX7_empty_2 rfl fkX7_62 (mm_ks ho) (mm_ltq ho) rfl pgX7_0 (fun z => z) ?_
  refine mm_bnd (ms_I h o 0 0) (fun _ => [some (.ref o)]) (fun _ => []) (fun h1 => h1) (fun h1 => ?_)
  refine me_aload_n (pc' := 6) (i := 0) dX7_empty_5 rfl rfl rfl ?_
  refine me_iconst (pc' := 7) (v := 0) dX7_empty_6 rfl kc_i0 ?_
  refine me_putI (F' := (mm_Sq q)) (pc' := 10) dX7_empty_7 rfl fkX7_66 (mm_ks ho) (mm_ltq ho) rfl pgX7_1 (fun z => z) ?_
  refine mm_bnd (ms_I h1 o 1 0) (fun _ => [some (.ref o)]) (fun _ => []) (fun h2 => h2) (fun h2 => ?_)
  refine me_aload_n (pc' := 11) (i := 0) dX7_empty_10 rfl rfl rfl ?_
  refine me_iconst (pc' := 12) (v := 0) dX7_empty_11 rfl kc_i0 ?_
  refine me_putI (F' := (mm_Sq q)) (pc' := 15) dX7_empty_12 rfl fkX7_69 (mm_ks ho) (mm_ltq ho) rfl pgX7_7 (fun z => z) ?_
  refine mm_bnd (ms_I h2 o 7 0) (fun _ => [some (.ref o)]) (fun _ => []) (fun h3 => h3) (fun h3 => ?_)
  refine me_aload_n (pc' := 16) (i := 0) dX7_empty_15 rfl rfl rfl ?_
  refine me_getR (pc' := 19) (q' := (o + 21)) dX7_empty_16 rfl fkX7_47 (mm_ks ho) (mm_ltq ho) rfl (mrX7_13 ho) ?_
  refine me_callV (As := []) (st := []) (F' := (mm_Sq q)) (G' := (mm_Sq q)) (F'' := (mm_Sq q)) (pc' := 22) dX7_empty_19 rfl mfX4_zero rfl lkX7_72 (mm_ks (kdX7_13 ho)) rfl (mm_ltq (kdX7_13 ho)) ⟨Nat.le_of_ble_eq_true rfl, Nat.le_of_ble_eq_true rfl⟩ (Nat.le_of_ble_eq_true rfl) (fun z => z) (rX4_zero (q := q) ((o + 21)) h3 (kdX7_13 ho)) (fun h4 e5 => Or.inl ⟨_, _, rfl, fun z => z, ?_⟩)
  show mm_E2 _ _ _ _ _ [] h4 _ _
  refine me_aload_n (pc' := 23) (i := 0) dX7_empty_22 rfl rfl rfl ?_
  refine me_getR (pc' := 26) (q' := (o + 23)) dX7_empty_23 rfl fkX7_50 (mm_ks ho) (mm_ltq ho) rfl (mrX7_14 ho) ?_
  refine me_callV (As := []) (st := []) (F' := (mm_Sq q)) (G' := (mm_Sq q)) (F'' := (mm_Sq q)) (pc' := 29) dX7_empty_26 rfl mfX4_zero rfl lkX7_72 (mm_ks (kdX7_14 ho)) rfl (mm_ltq (kdX7_14 ho)) ⟨Nat.le_of_ble_eq_true rfl, Nat.le_of_ble_eq_true rfl⟩ (Nat.le_of_ble_eq_true rfl) (fun z => z) (rX4_zero (q := q) ((o + 23)) h4 (kdX7_14 ho)) (fun h6 e7 => Or.inl ⟨_, _, rfl, fun z => z, ?_⟩)
  show mm_E2 _ _ _ _ _ [] h6 _ _
  refine me_aload_n (pc' := 30) (i := 0) dX7_empty_29 rfl rfl rfl ?_
  refine me_getR (pc' := 33) (q' := (o + 25)) dX7_empty_30 rfl fkX7_53 (mm_ks ho) (mm_ltq ho) rfl (mrX7_15 ho) ?_
  refine me_callV (As := []) (st := []) (F' := (mm_Sq q)) (G' := (mm_Sq q)) (F'' := (mm_Sq q)) (pc' := 36) dX7_empty_33 rfl mfX4_zero rfl lkX7_72 (mm_ks (kdX7_15 ho)) rfl (mm_ltq (kdX7_15 ho)) ⟨Nat.le_of_ble_eq_true rfl, Nat.le_of_ble_eq_true rfl⟩ (Nat.le_of_ble_eq_true rfl) (fun z => z) (rX4_zero (q := q) ((o + 25)) h6 (kdX7_15 ho)) (fun h8 e9 => Or.inl ⟨_, _, rfl, fun z => z, ?_⟩)
  show mm_E2 _ _ _ _ _ [] h8 _ _
  refine me_aload_n (pc' := 37) (i := 0) dX7_empty_36 rfl rfl rfl ?_
  refine me_getR (pc' := 40) (q' := (o + 27)) dX7_empty_37 rfl fkX7_56 (mm_ks ho) (mm_ltq ho) rfl (mrX7_16 ho) ?_
  refine me_callV (As := []) (st := []) (F' := (mm_Sq q)) (G' := (mm_Sq q)) (F'' := (mm_Sq q)) (pc' := 43) dX7_empty_40 rfl mfX4_zero rfl lkX7_72 (mm_ks (kdX7_16 ho)) rfl (mm_ltq (kdX7_16 ho)) ⟨Nat.le_of_ble_eq_true rfl, Nat.le_of_ble_eq_true rfl⟩ (Nat.le_of_ble_eq_true rfl) (fun z => z) (rX4_zero (q := q) ((o + 27)) h8 (kdX7_16 ho)) (fun h10 e11 => Or.inl ⟨_, _, rfl, fun z => z, ?_⟩)
  show mm_E2 _ _ _ _ _ [] h10 _ _
  refine me_aload_n (pc' := 44) (i := 0) dX7_empty_43 rfl rfl rfl ?_
  refine me_getR (pc' := 47) (q' := (o + 29)) dX7_empty_44 rfl fkX7_59 (mm_ks ho) (mm_ltq ho) rfl (mrX7_17 ho) ?_
  refine me_callV (As := []) (st := []) (F' := (mm_Sq q)) (G' := (mm_Sq q)) (F'' := (mm_Sq q)) (pc' := 50) dX7_empty_47 rfl mfX4_zero rfl lkX7_72 (mm_ks (kdX7_17 ho)) rfl (mm_ltq (kdX7_17 ho)) ⟨Nat.le_of_ble_eq_true rfl, Nat.le_of_ble_eq_true rfl⟩ (Nat.le_of_ble_eq_true rfl) (fun z => z) (rX4_zero (q := q) ((o + 29)) h10 (kdX7_17 ho)) (fun h12 e13 => Or.inl ⟨_, _, rfl, fun z => z, ?_⟩)
  show mm_E2 _ _ _ _ _ [] h12 _ _
  exact me_vret dX7_empty_50 rfl (fun z => z) rfl
def gX6_empty (o : Nat) (h : mm_H) : Option mm_H :=
(gX4_zero ((o + 2)) h).bind (fun (h1 : mm_H) =>
some h1)
theorem rX6_empty {q : mm_q} (o : Nat) (h : mm_H) (ho : mm_kd o = (0, 6)) : mm_R2 (mm_Sq q) (mm_Sq q) mX6_empty [.ref o] h (gX6_empty o h) lf_v := by
  refine mm_body (L := [some (.ref o)]) rfl (by decide +kernel) (Nat.le_of_ble_eq_true rfl) rfl ?_
  unfold gX6_empty
  refine me_aload_n (pc' := 1) (i := 0) dX6_empty_0 rfl rfl rfl ?_
  refine me_getR (pc' := 4) (q' := (o + 2)) dX6_empty_1 rfl fkX6_26 (mm_ks ho) (mm_ltq ho) rfl (mrX6_1 ho) ?_
  refine me_callV (As := []) (st := []) (F' := (mm_Sq q)) (G' := (mm_Sq q)) (F'' := (mm_Sq q)) (pc' := 7) dX6_empty_4 rfl mfX4_zero rfl lkX6_31 (mm_ks (kdX6_1 ho)) rfl (mm_ltq (kdX6_1 ho)) ⟨Nat.le_of_ble_eq_true rfl, Nat.le_of_ble_eq_true rfl⟩ (Nat.le_of_ble_eq_true rfl) (fun z => z) (rX4_zero (q := q) ((o + 2)) h (kdX6_1 ho)) (fun h1 e2 => Or.inl ⟨_, _, rfl, fun z => z, ?_⟩)
  show mm_E2 _ _ _ _ _ [] h1 _ _
  exact me_vret dX6_empty_7 rfl (fun z => z) rfl
def gX7_copyFrom (o : Nat) (p0 : Nat) (h : mm_H) : Option mm_H :=
(some (ms_I h o 0 ((mh_I h p0 0)))).bind (fun (h1 : mm_H) =>
(some (ms_I h1 o 1 ((mh_I h1 p0 1)))).bind (fun (h2 : mm_H) =>
(gX4_copyFrom ((o + 1)) ((p0 + 1)) h2).bind (fun (h3 : mm_H) =>
(gX4_copyFrom ((o + 3)) ((p0 + 3)) h3).bind (fun (h5 : mm_H) =>
(gX4_copyFrom ((o + 5)) ((p0 + 5)) h5).bind (fun (h7 : mm_H) =>
(gX4_copyFrom ((o + 7)) ((p0 + 7)) h7).bind (fun (h9 : mm_H) =>
(gX4_copyFrom ((o + 9)) ((p0 + 9)) h9).bind (fun (h11 : mm_H) =>
(some (ms_I h11 o 7 ((mh_I h11 p0 7)))).bind (fun (h13 : mm_H) =>
(gX4_copyFrom ((o + 11)) ((p0 + 11)) h13).bind (fun (h14 : mm_H) =>
(gX4_copyFrom ((o + 13)) ((p0 + 13)) h14).bind (fun (h16 : mm_H) =>
(gX4_copyFrom ((o + 15)) ((p0 + 15)) h16).bind (fun (h18 : mm_H) =>
(gX4_copyFrom ((o + 17)) ((p0 + 17)) h18).bind (fun (h20 : mm_H) =>
(gX4_copyFrom ((o + 19)) ((p0 + 19)) h20).bind (fun (h22 : mm_H) =>
(gX4_copyFrom ((o + 21)) ((p0 + 21)) h22).bind (fun (h24 : mm_H) =>
(gX4_copyFrom ((o + 23)) ((p0 + 23)) h24).bind (fun (h26 : mm_H) =>
(gX4_copyFrom ((o + 25)) ((p0 + 25)) h26).bind (fun (h28 : mm_H) =>
(gX4_copyFrom ((o + 27)) ((p0 + 27)) h28).bind (fun (h30 : mm_H) =>
(gX4_copyFrom ((o + 29)) ((p0 + 29)) h30).bind (fun (h32 : mm_H) =>
some h32))))))))))))))))))
theorem rX7_copyFrom {q : mm_q} (o : Nat) (p0 : Nat) (h : mm_H) (ho : mm_kd o = (0, 7)) (hp0 : mm_kd p0 = (0, 7)) : mm_R2 (mm_Sq q) (mm_Sq q) mX7_copyFrom [.ref o, .ref p0] h (gX7_copyFrom o p0 h) lf_v := by
  refine mm_body (L := [some (.ref o), some (.ref p0)]) rfl (by decide +kernel) (Nat.le_of_ble_eq_true rfl) rfl ?_
  unfold gX7_copyFrom
  refine me_aload_n (pc' := 1) (i := 0) dX7_copyFrom_0 rfl rfl rfl ?_
  refine me_aload_n (pc' := 2) (i := 1) dX7_copyFrom_1 rfl rfl rfl ?_
  refine me_getI (pc' := 5) dX7_copyFrom_2 rfl fkX7_62 (mm_ks hp0) (mm_ltq hp0) rfl ?_
  refine me_putI (F' := (mm_Sq q)) (pc' := 8) dX7_copyFrom_5 rfl fkX7_62 (mm_ks ho) (mm_ltq ho) rfl pgX7_0 (fun z => z) ?_
  refine mm_bnd (ms_I h o 0 ((mh_I h p0 0))) (fun _ => [some (.ref o), some (.ref p0)]) (fun _ => []) (fun h1 => h1) (fun h1 => ?_)
  refine me_aload_n (pc' := 9) (i := 0) dX7_copyFrom_8 rfl rfl rfl ?_
  refine me_aload_n (pc' := 10) (i := 1) dX7_copyFrom_9 rfl rfl rfl ?_
  refine me_getI (pc' := 13) dX7_copyFrom_10 rfl fkX7_66 (mm_ks hp0) (mm_ltq hp0) rfl ?_
  refine me_putI (F' := (mm_Sq q)) (pc' := 16) dX7_copyFrom_13 rfl fkX7_66 (mm_ks ho) (mm_ltq ho) rfl pgX7_1 (fun z => z) ?_
  refine mm_bnd (ms_I h1 o 1 ((mh_I h1 p0 1))) (fun _ => [some (.ref o), some (.ref p0)]) (fun _ => []) (fun h2 => h2) (fun h2 => ?_)
  refine me_aload_n (pc' := 17) (i := 0) dX7_copyFrom_16 rfl rfl rfl ?_
  refine me_getR (pc' := 20) (q' := (o + 1)) dX7_copyFrom_17 rfl fkX7_14 (mm_ks ho) (mm_ltq ho) rfl (mrX7_2 ho) ?_
  refine me_aload_n (pc' := 21) (i := 1) dX7_copyFrom_20 rfl rfl rfl ?_
  refine me_getR (pc' := 24) (q' := (p0 + 1)) dX7_copyFrom_21 rfl fkX7_14 (mm_ks hp0) (mm_ltq hp0) rfl (mrX7_2 hp0) ?_
  refine me_callV (As := [.ref (p0 + 1)]) (st := []) (F' := (mm_Sq q)) (G' := (mm_Sq q)) (F'' := (mm_Sq q)) (pc' := 27) dX7_copyFrom_24 rfl mfX4_copyFrom rfl lkX7_75 (mm_ks (kdX7_2 ho)) rfl (mm_ltq (kdX7_2 ho)) ⟨Nat.le_of_ble_eq_true rfl, Nat.le_of_ble_eq_true rfl⟩ (Nat.le_of_ble_eq_true rfl) (fun z => z) (rX4_copyFrom (q := q) ((o + 1)) ((p0 + 1)) h2 (kdX7_2 ho) (kdX7_2 hp0)) (fun h3 e4 => Or.inl ⟨_, _, rfl, fun z => z, ?_⟩)
  show mm_E2 _ _ _ _ _ [] h3 _ _
  refine me_aload_n (pc' := 28) (i := 0) dX7_copyFrom_27 rfl rfl rfl ?_
  refine me_getR (pc' := 31) (q' := (o + 3)) dX7_copyFrom_28 rfl fkX7_20 (mm_ks ho) (mm_ltq ho) rfl (mrX7_3 ho) ?_
  refine me_aload_n (pc' := 32) (i := 1) dX7_copyFrom_31 rfl rfl rfl ?_
  refine me_getR (pc' := 35) (q' := (p0 + 3)) dX7_copyFrom_32 rfl fkX7_20 (mm_ks hp0) (mm_ltq hp0) rfl (mrX7_3 hp0) ?_
  refine me_callV (As := [.ref (p0 + 3)]) (st := []) (F' := (mm_Sq q)) (G' := (mm_Sq q)) (F'' := (mm_Sq q)) (pc' := 38) dX7_copyFrom_35 rfl mfX4_copyFrom rfl lkX7_75 (mm_ks (kdX7_3 ho)) rfl (mm_ltq (kdX7_3 ho)) ⟨Nat.le_of_ble_eq_true rfl, Nat.le_of_ble_eq_true rfl⟩ (Nat.le_of_ble_eq_true rfl) (fun z => z) (rX4_copyFrom (q := q) ((o + 3)) ((p0 + 3)) h3 (kdX7_3 ho) (kdX7_3 hp0)) (fun h5 e6 => Or.inl ⟨_, _, rfl, fun z => z, ?_⟩)
  show mm_E2 _ _ _ _ _ [] h5 _ _
  refine me_aload_n (pc' := 39) (i := 0) dX7_copyFrom_38 rfl rfl rfl ?_
  refine me_getR (pc' := 42) (q' := (o + 5)) dX7_copyFrom_39 rfl fkX7_23 (mm_ks ho) (mm_ltq ho) rfl (mrX7_4 ho) ?_
  refine me_aload_n (pc' := 43) (i := 1) dX7_copyFrom_42 rfl rfl rfl ?_
  refine me_getR (pc' := 46) (q' := (p0 + 5)) dX7_copyFrom_43 rfl fkX7_23 (mm_ks hp0) (mm_ltq hp0) rfl (mrX7_4 hp0) ?_
  refine me_callV (As := [.ref (p0 + 5)]) (st := []) (F' := (mm_Sq q)) (G' := (mm_Sq q)) (F'' := (mm_Sq q)) (pc' := 49) dX7_copyFrom_46 rfl mfX4_copyFrom rfl lkX7_75 (mm_ks (kdX7_4 ho)) rfl (mm_ltq (kdX7_4 ho)) ⟨Nat.le_of_ble_eq_true rfl, Nat.le_of_ble_eq_true rfl⟩ (Nat.le_of_ble_eq_true rfl) (fun z => z) (rX4_copyFrom (q := q) ((o + 5)) ((p0 + 5)) h5 (kdX7_4 ho) (kdX7_4 hp0)) (fun h7 e8 => Or.inl ⟨_, _, rfl, fun z => z, ?_⟩)
  show mm_E2 _ _ _ _ _ [] h7 _ _
  refine me_aload_n (pc' := 50) (i := 0) dX7_copyFrom_49 rfl rfl rfl ?_
  refine me_getR (pc' := 53) (q' := (o + 7)) dX7_copyFrom_50 rfl fkX7_26 (mm_ks ho) (mm_ltq ho) rfl (mrX7_5 ho) ?_
  refine me_aload_n (pc' := 54) (i := 1) dX7_copyFrom_53 rfl rfl rfl ?_
  refine me_getR (pc' := 57) (q' := (p0 + 7)) dX7_copyFrom_54 rfl fkX7_26 (mm_ks hp0) (mm_ltq hp0) rfl (mrX7_5 hp0) ?_
  refine me_callV (As := [.ref (p0 + 7)]) (st := []) (F' := (mm_Sq q)) (G' := (mm_Sq q)) (F'' := (mm_Sq q)) (pc' := 60) dX7_copyFrom_57 rfl mfX4_copyFrom rfl lkX7_75 (mm_ks (kdX7_5 ho)) rfl (mm_ltq (kdX7_5 ho)) ⟨Nat.le_of_ble_eq_true rfl, Nat.le_of_ble_eq_true rfl⟩ (Nat.le_of_ble_eq_true rfl) (fun z => z) (rX4_copyFrom (q := q) ((o + 7)) ((p0 + 7)) h7 (kdX7_5 ho) (kdX7_5 hp0)) (fun h9 e10 => Or.inl ⟨_, _, rfl, fun z => z, ?_⟩)
  show mm_E2 _ _ _ _ _ [] h9 _ _
  refine me_aload_n (pc' := 61) (i := 0) dX7_copyFrom_60 rfl rfl rfl ?_
  refine me_getR (pc' := 64) (q' := (o + 9)) dX7_copyFrom_61 rfl fkX7_29 (mm_ks ho) (mm_ltq ho) rfl (mrX7_6 ho) ?_
  refine me_aload_n (pc' := 65) (i := 1) dX7_copyFrom_64 rfl rfl rfl ?_
  refine me_getR (pc' := 68) (q' := (p0 + 9)) dX7_copyFrom_65 rfl fkX7_29 (mm_ks hp0) (mm_ltq hp0) rfl (mrX7_6 hp0) ?_
  refine me_callV (As := [.ref (p0 + 9)]) (st := []) (F' := (mm_Sq q)) (G' := (mm_Sq q)) (F'' := (mm_Sq q)) (pc' := 71) dX7_copyFrom_68 rfl mfX4_copyFrom rfl lkX7_75 (mm_ks (kdX7_6 ho)) rfl (mm_ltq (kdX7_6 ho)) ⟨Nat.le_of_ble_eq_true rfl, Nat.le_of_ble_eq_true rfl⟩ (Nat.le_of_ble_eq_true rfl) (fun z => z) (rX4_copyFrom (q := q) ((o + 9)) ((p0 + 9)) h9 (kdX7_6 ho) (kdX7_6 hp0)) (fun h11 e12 => Or.inl ⟨_, _, rfl, fun z => z, ?_⟩)
  show mm_E2 _ _ _ _ _ [] h11 _ _
  refine me_aload_n (pc' := 72) (i := 0) dX7_copyFrom_71 rfl rfl rfl ?_
  refine me_aload_n (pc' := 73) (i := 1) dX7_copyFrom_72 rfl rfl rfl ?_
  refine me_getI (pc' := 76) dX7_copyFrom_73 rfl fkX7_69 (mm_ks hp0) (mm_ltq hp0) rfl ?_
  refine me_putI (F' := (mm_Sq q)) (pc' := 79) dX7_copyFrom_76 rfl fkX7_69 (mm_ks ho) (mm_ltq ho) rfl pgX7_7 (fun z => z) ?_
  refine mm_bnd (ms_I h11 o 7 ((mh_I h11 p0 7))) (fun _ => [some (.ref o), some (.ref p0)]) (fun _ => []) (fun h13 => h13) (fun h13 => ?_)
  refine me_aload_n (pc' := 80) (i := 0) dX7_copyFrom_79 rfl rfl rfl ?_
  refine me_getR (pc' := 83) (q' := (o + 11)) dX7_copyFrom_80 rfl fkX7_32 (mm_ks ho) (mm_ltq ho) rfl (mrX7_8 ho) ?_
  refine me_aload_n (pc' := 84) (i := 1) dX7_copyFrom_83 rfl rfl rfl ?_
  refine me_getR (pc' := 87) (q' := (p0 + 11)) dX7_copyFrom_84 rfl fkX7_32 (mm_ks hp0) (mm_ltq hp0) rfl (mrX7_8 hp0) ?_
  refine me_callV (As := [.ref (p0 + 11)]) (st := []) (F' := (mm_Sq q)) (G' := (mm_Sq q)) (F'' := (mm_Sq q)) (pc' := 90) dX7_copyFrom_87 rfl mfX4_copyFrom rfl lkX7_75 (mm_ks (kdX7_8 ho)) rfl (mm_ltq (kdX7_8 ho)) ⟨Nat.le_of_ble_eq_true rfl, Nat.le_of_ble_eq_true rfl⟩ (Nat.le_of_ble_eq_true rfl) (fun z => z) (rX4_copyFrom (q := q) ((o + 11)) ((p0 + 11)) h13 (kdX7_8 ho) (kdX7_8 hp0)) (fun h14 e15 => Or.inl ⟨_, _, rfl, fun z => z, ?_⟩)
  show mm_E2 _ _ _ _ _ [] h14 _ _
  refine me_aload_n (pc' := 91) (i := 0) dX7_copyFrom_90 rfl rfl rfl ?_
  refine me_getR (pc' := 94) (q' := (o + 13)) dX7_copyFrom_91 rfl fkX7_35 (mm_ks ho) (mm_ltq ho) rfl (mrX7_9 ho) ?_
  refine me_aload_n (pc' := 95) (i := 1) dX7_copyFrom_94 rfl rfl rfl ?_
  refine me_getR (pc' := 98) (q' := (p0 + 13)) dX7_copyFrom_95 rfl fkX7_35 (mm_ks hp0) (mm_ltq hp0) rfl (mrX7_9 hp0) ?_
  refine me_callV (As := [.ref (p0 + 13)]) (st := []) (F' := (mm_Sq q)) (G' := (mm_Sq q)) (F'' := (mm_Sq q)) (pc' := 101) dX7_copyFrom_98 rfl mfX4_copyFrom rfl lkX7_75 (mm_ks (kdX7_9 ho)) rfl (mm_ltq (kdX7_9 ho)) ⟨Nat.le_of_ble_eq_true rfl, Nat.le_of_ble_eq_true rfl⟩ (Nat.le_of_ble_eq_true rfl) (fun z => z) (rX4_copyFrom (q := q) ((o + 13)) ((p0 + 13)) h14 (kdX7_9 ho) (kdX7_9 hp0)) (fun h16 e17 => Or.inl ⟨_, _, rfl, fun z => z, ?_⟩)
  show mm_E2 _ _ _ _ _ [] h16 _ _
  refine me_aload_n (pc' := 102) (i := 0) dX7_copyFrom_101 rfl rfl rfl ?_
  refine me_getR (pc' := 105) (q' := (o + 15)) dX7_copyFrom_102 rfl fkX7_38 (mm_ks ho) (mm_ltq ho) rfl (mrX7_10 ho) ?_
  refine me_aload_n (pc' := 106) (i := 1) dX7_copyFrom_105 rfl rfl rfl ?_
  refine me_getR (pc' := 109) (q' := (p0 + 15)) dX7_copyFrom_106 rfl fkX7_38 (mm_ks hp0) (mm_ltq hp0) rfl (mrX7_10 hp0) ?_
  refine me_callV (As := [.ref (p0 + 15)]) (st := []) (F' := (mm_Sq q)) (G' := (mm_Sq q)) (F'' := (mm_Sq q)) (pc' := 112) dX7_copyFrom_109 rfl mfX4_copyFrom rfl lkX7_75 (mm_ks (kdX7_10 ho)) rfl (mm_ltq (kdX7_10 ho)) ⟨Nat.le_of_ble_eq_true rfl, Nat.le_of_ble_eq_true rfl⟩ (Nat.le_of_ble_eq_true rfl) (fun z => z) (rX4_copyFrom (q := q) ((o + 15)) ((p0 + 15)) h16 (kdX7_10 ho) (kdX7_10 hp0)) (fun h18 e19 => Or.inl ⟨_, _, rfl, fun z => z, ?_⟩)
  show mm_E2 _ _ _ _ _ [] h18 _ _
  refine me_aload_n (pc' := 113) (i := 0) dX7_copyFrom_112 rfl rfl rfl ?_
  refine me_getR (pc' := 116) (q' := (o + 17)) dX7_copyFrom_113 rfl fkX7_41 (mm_ks ho) (mm_ltq ho) rfl (mrX7_11 ho) ?_
  refine me_aload_n (pc' := 117) (i := 1) dX7_copyFrom_116 rfl rfl rfl ?_
  refine me_getR (pc' := 120) (q' := (p0 + 17)) dX7_copyFrom_117 rfl fkX7_41 (mm_ks hp0) (mm_ltq hp0) rfl (mrX7_11 hp0) ?_
  refine me_callV (As := [.ref (p0 + 17)]) (st := []) (F' := (mm_Sq q)) (G' := (mm_Sq q)) (F'' := (mm_Sq q)) (pc' := 123) dX7_copyFrom_120 rfl mfX4_copyFrom rfl lkX7_75 (mm_ks (kdX7_11 ho)) rfl (mm_ltq (kdX7_11 ho)) ⟨Nat.le_of_ble_eq_true rfl, Nat.le_of_ble_eq_true rfl⟩ (Nat.le_of_ble_eq_true rfl) (fun z => z) (rX4_copyFrom (q := q) ((o + 17)) ((p0 + 17)) h18 (kdX7_11 ho) (kdX7_11 hp0)) (fun h20 e21 => Or.inl ⟨_, _, rfl, fun z => z, ?_⟩)
  show mm_E2 _ _ _ _ _ [] h20 _ _
  refine me_aload_n (pc' := 124) (i := 0) dX7_copyFrom_123 rfl rfl rfl ?_
  refine me_getR (pc' := 127) (q' := (o + 19)) dX7_copyFrom_124 rfl fkX7_44 (mm_ks ho) (mm_ltq ho) rfl (mrX7_12 ho) ?_
  refine me_aload_n (pc' := 128) (i := 1) dX7_copyFrom_127 rfl rfl rfl ?_
  refine me_getR (pc' := 131) (q' := (p0 + 19)) dX7_copyFrom_128 rfl fkX7_44 (mm_ks hp0) (mm_ltq hp0) rfl (mrX7_12 hp0) ?_
  refine me_callV (As := [.ref (p0 + 19)]) (st := []) (F' := (mm_Sq q)) (G' := (mm_Sq q)) (F'' := (mm_Sq q)) (pc' := 134) dX7_copyFrom_131 rfl mfX4_copyFrom rfl lkX7_75 (mm_ks (kdX7_12 ho)) rfl (mm_ltq (kdX7_12 ho)) ⟨Nat.le_of_ble_eq_true rfl, Nat.le_of_ble_eq_true rfl⟩ (Nat.le_of_ble_eq_true rfl) (fun z => z) (rX4_copyFrom (q := q) ((o + 19)) ((p0 + 19)) h20 (kdX7_12 ho) (kdX7_12 hp0)) (fun h22 e23 => Or.inl ⟨_, _, rfl, fun z => z, ?_⟩)
  show mm_E2 _ _ _ _ _ [] h22 _ _
  refine me_aload_n (pc' := 135) (i := 0) dX7_copyFrom_134 rfl rfl rfl ?_
  refine me_getR (pc' := 138) (q' := (o + 21)) dX7_copyFrom_135 rfl fkX7_47 (mm_ks ho) (mm_ltq ho) rfl (mrX7_13 ho) ?_
  refine me_aload_n (pc' := 139) (i := 1) dX7_copyFrom_138 rfl rfl rfl ?_
  refine me_getR (pc' := 142) (q' := (p0 + 21)) dX7_copyFrom_139 rfl fkX7_47 (mm_ks hp0) (mm_ltq hp0) rfl (mrX7_13 hp0) ?_
  refine me_callV (As := [.ref (p0 + 21)]) (st := []) (F' := (mm_Sq q)) (G' := (mm_Sq q)) (F'' := (mm_Sq q)) (pc' := 145) dX7_copyFrom_142 rfl mfX4_copyFrom rfl lkX7_75 (mm_ks (kdX7_13 ho)) rfl (mm_ltq (kdX7_13 ho)) ⟨Nat.le_of_ble_eq_true rfl, Nat.le_of_ble_eq_true rfl⟩ (Nat.le_of_ble_eq_true rfl) (fun z => z) (rX4_copyFrom (q := q) ((o + 21)) ((p0 + 21)) h22 (kdX7_13 ho) (kdX7_13 hp0)) (fun h24 e25 => Or.inl ⟨_, _, rfl, fun z => z, ?_⟩)
  show mm_E2 _ _ _ _ _ [] h24 _ _
  refine me_aload_n (pc' := 146) (i := 0) dX7_copyFrom_145 rfl rfl rfl ?_
  refine me_getR (pc' := 149) (q' := (o + 23)) dX7_copyFrom_146 rfl fkX7_50 (mm_ks ho) (mm_ltq ho) rfl (mrX7_14 ho) ?_
  refine me_aload_n (pc' := 150) (i := 1) dX7_copyFrom_149 rfl rfl rfl ?_
  refine me_getR (pc' := 153) (q' := (p0 + 23)) dX7_copyFrom_150 rfl fkX7_50 (mm_ks hp0) (mm_ltq hp0) rfl (mrX7_14 hp0) ?_
  refine me_callV (As := [.ref (p0 + 23)]) (st := []) (F' := (mm_Sq q)) (G' := (mm_Sq q)) (F'' := (mm_Sq q)) (pc' := 156) dX7_copyFrom_153 rfl mfX4_copyFrom rfl lkX7_75 (mm_ks (kdX7_14 ho)) rfl (mm_ltq (kdX7_14 ho)) ⟨Nat.le_of_ble_eq_true rfl, Nat.le_of_ble_eq_true rfl⟩ (Nat.le_of_ble_eq_true rfl) (fun z => z) (rX4_copyFrom (q := q) ((o + 23)) ((p0 + 23)) h24 (kdX7_14 ho) (kdX7_14 hp0)) (fun h26 e27 => Or.inl ⟨_, _, rfl, fun z => z, ?_⟩)
  show mm_E2 _ _ _ _ _ [] h26 _ _
  refine me_aload_n (pc' := 157) (i := 0) dX7_copyFrom_156 rfl rfl rfl ?_
  refine me_getR (pc' := 160) (q' := (o + 25)) dX7_copyFrom_157 rfl fkX7_53 (mm_ks ho) (mm_ltq ho) rfl (mrX7_15 ho) ?_
  refine me_aload_n (pc' := 161) (i := 1) dX7_copyFrom_160 rfl rfl rfl ?_
  refine me_getR (pc' := 164) (q' := (p0 + 25)) dX7_copyFrom_161 rfl fkX7_53 (mm_ks hp0) (mm_ltq hp0) rfl (mrX7_15 hp0) ?_
  refine me_callV (As := [.ref (p0 + 25)]) (st := []) (F' := (mm_Sq q)) (G' := (mm_Sq q)) (F'' := (mm_Sq q)) (pc' := 167) dX7_copyFrom_164 rfl mfX4_copyFrom rfl lkX7_75 (mm_ks (kdX7_15 ho)) rfl (mm_ltq (kdX7_15 ho)) ⟨Nat.le_of_ble_eq_true rfl, Nat.le_of_ble_eq_true rfl⟩ (Nat.le_of_ble_eq_true rfl) (fun z => z) (rX4_copyFrom (q := q) ((o + 25)) ((p0 + 25)) h26 (kdX7_15 ho) (kdX7_15 hp0)) (fun h28 e29 => Or.inl ⟨_, _, rfl, fun z => z, ?_⟩)
  show mm_E2 _ _ _ _ _ [] h28 _ _
  refine me_aload_n (pc' := 168) (i := 0) dX7_copyFrom_167 rfl rfl rfl ?_
  refine me_getR (pc' := 171) (q' := (o + 27)) dX7_copyFrom_168 rfl fkX7_56 (mm_ks ho) (mm_ltq ho) rfl (mrX7_16 ho) ?_
  refine me_aload_n (pc' := 172) (i := 1) dX7_copyFrom_171 rfl rfl rfl ?_
  refine me_getR (pc' := 175) (q' := (p0 + 27)) dX7_copyFrom_172 rfl fkX7_56 (mm_ks hp0) (mm_ltq hp0) rfl (mrX7_16 hp0) ?_
  refine me_callV (As := [.ref (p0 + 27)]) (st := []) (F' := (mm_Sq q)) (G' := (mm_Sq q)) (F'' := (mm_Sq q)) (pc' := 178) dX7_copyFrom_175 rfl mfX4_copyFrom rfl lkX7_75 (mm_ks (kdX7_16 ho)) rfl (mm_ltq (kdX7_16 ho)) ⟨Nat.le_of_ble_eq_true rfl, Nat.le_of_ble_eq_true rfl⟩ (Nat.le_of_ble_eq_true rfl) (fun z => z) (rX4_copyFrom (q := q) ((o + 27)) ((p0 + 27)) h28 (kdX7_16 ho) (kdX7_16 hp0)) (fun h30 e31 => Or.inl ⟨_, _, rfl, fun z => z, ?_⟩)
  show mm_E2 _ _ _ _ _ [] h30 _ _
  refine me_aload_n (pc' := 179) (i := 0) dX7_copyFrom_178 rfl rfl rfl ?_
  refine me_getR (pc' := 182) (q' := (o + 29)) dX7_copyFrom_179 rfl fkX7_59 (mm_ks ho) (mm_ltq ho) rfl (mrX7_17 ho) ?_
  refine me_aload_n (pc' := 183) (i := 1) dX7_copyFrom_182 rfl rfl rfl ?_
  refine me_getR (pc' := 186) (q' := (p0 + 29)) dX7_copyFrom_183 rfl fkX7_59 (mm_ks hp0) (mm_ltq hp0) rfl (mrX7_17 hp0) ?_
  refine me_callV (As := [.ref (p0 + 29)]) (st := []) (F' := (mm_Sq q)) (G' := (mm_Sq q)) (F'' := (mm_Sq q)) (pc' := 189) dX7_copyFrom_186 rfl mfX4_copyFrom rfl lkX7_75 (mm_ks (kdX7_17 ho)) rfl (mm_ltq (kdX7_17 ho)) ⟨Nat.le_of_ble_eq_true rfl, Nat.le_of_ble_eq_true rfl⟩ (Nat.le_of_ble_eq_true rfl) (fun z => z) (rX4_copyFrom (q := q) ((o + 29)) ((p0 + 29)) h30 (kdX7_17 ho) (kdX7_17 hp0)) (fun h32 e33 => Or.inl ⟨_, _, rfl, fun z => z, ?_⟩)
  show mm_E2 _ _ _ _ _ [] h32 _ _
  exact me_vret dX7_copyFrom_189 rfl (fun z => z) rfl
def gX1_hasProduct (o : Nat) (p0 : Int32) (h : mm_H) : Option Bool :=
if p0 < 0 then
some false
else
if p0 < (mh_I h o 0) then
some true
else
some false
theorem rX1_hasProduct {q : mm_q} (o : Nat) (p0 : Int32) (h : mm_H) (ho : mm_kd o = (0, 1)) : mm_R2 (mm_Sq q) (mm_Sq q) mX1_hasProduct [.ref o, .int p0] h (gX1_hasProduct o p0 h) (lf_z h) := by
  refine mm_body (L := [some (.ref o), some (.int p0)]) rfl (by decide +kernel) (Nat.le_of_ble_eq_true rfl) rfl ?_
  unfold gX1_hasProduct
  refine me_iload_n (pc' := 1) (i := 1) dX1_hasProduct_0 rfl rfl rfl ?_
  refine me_if_lt (pc' := 4) (tgt := 16) dX1_hasProduct_1 (by decide) rfl (fun c1 => ?_) (fun c1 => ?_)
  · refine me_iconst (pc' := 17) (v := 0) dX1_hasProduct_16 rfl kc_i0 ?_
    exact me_zret (b := false) dX1_hasProduct_17 rfl (fun z => z) rfl
  · refine me_iload_n (pc' := 5) (i := 1) dX1_hasProduct_4 rfl rfl rfl ?_
    refine me_aload_n (pc' := 6) (i := 0) dX1_hasProduct_5 rfl rfl rfl ?_
    refine me_getI (pc' := 9) dX1_hasProduct_6 rfl fkX1_26 (mm_ks ho) (mm_ltq ho) rfl ?_
    refine me_icmp_ge (pc' := 12) (tgt := 16) dX1_hasProduct_9 (by decide) rfl (fun c2 => ?_) (fun c2 => ?_)
    · refine me_iconst (pc' := 17) (v := 0) dX1_hasProduct_16 rfl kc_i0 ?_
      exact me_zret (b := false) dX1_hasProduct_17 rfl (fun z => z) rfl
    · refine me_iconst (pc' := 13) (v := 1) dX1_hasProduct_12 rfl kc_i1 ?_
      refine me_goto (tgt := 17) dX1_hasProduct_13 (by decide) ?_
      exact me_zret (b := true) dX1_hasProduct_17 rfl (fun z => z) rfl
def gX7_freeUnitsIn (o : Nat) (p0 : Int32) (h : mm_H) : Option Int32 :=
(gX4_get ((o + 3)) p0 h).bind (fun (x1 : Int32) =>
(gX4_get ((o + 5)) p0 h).bind (fun (x3 : Int32) =>
some ((x1 - x3))))
theorem rX7_freeUnitsIn {q : mm_q} (o : Nat) (p0 : Int32) (h : mm_H) (ho : mm_kd o = (0, 7)) : mm_R2 (mm_Sq q) (mm_Sq q) mX7_freeUnitsIn [.ref o, .int p0] h (gX7_freeUnitsIn o p0 h) (lf_i h) := by
  refine mm_body (L := [some (.ref o), some (.int p0)]) rfl (by decide +kernel) (Nat.le_of_ble_eq_true rfl) rfl ?_
  unfold gX7_freeUnitsIn
  refine me_aload_n (pc' := 1) (i := 0) dX7_freeUnitsIn_0 rfl rfl rfl ?_
  refine me_getR (pc' := 4) (q' := (o + 3)) dX7_freeUnitsIn_1 rfl fkX7_20 (mm_ks ho) (mm_ltq ho) rfl (mrX7_3 ho) ?_
  refine me_iload_n (pc' := 5) (i := 1) dX7_freeUnitsIn_4 rfl rfl rfl ?_
  refine me_callV (As := [.int p0]) (st := []) (F' := (mm_Sq q)) (G' := (mm_Sq q)) (F'' := (mm_Sq q)) (pc' := 8) dX7_freeUnitsIn_5 rfl mfX4_get rfl lkX7_79 (mm_ks (kdX7_3 ho)) rfl (mm_ltq (kdX7_3 ho)) ⟨Nat.le_of_ble_eq_true rfl, Nat.le_of_ble_eq_true rfl⟩ (Nat.le_of_ble_eq_true rfl) (fun z => z) (rX4_get (q := q) ((o + 3)) p0 h (kdX7_3 ho)) (fun x1 e2 => Or.inl ⟨_, _, rfl, fun z => z, ?_⟩)
  show mm_E2 _ _ _ _ _ [.int x1] h _ _
  refine me_aload_n (pc' := 9) (i := 0) dX7_freeUnitsIn_8 rfl rfl rfl ?_
  refine me_getR (pc' := 12) (q' := (o + 5)) dX7_freeUnitsIn_9 rfl fkX7_23 (mm_ks ho) (mm_ltq ho) rfl (mrX7_4 ho) ?_
  refine me_iload_n (pc' := 13) (i := 1) dX7_freeUnitsIn_12 rfl rfl rfl ?_
  refine me_callV (As := [.int p0]) (st := [.int x1]) (F' := (mm_Sq q)) (G' := (mm_Sq q)) (F'' := (mm_Sq q)) (pc' := 16) dX7_freeUnitsIn_13 rfl mfX4_get rfl lkX7_79 (mm_ks (kdX7_4 ho)) rfl (mm_ltq (kdX7_4 ho)) ⟨Nat.le_of_ble_eq_true rfl, Nat.le_of_ble_eq_true rfl⟩ (Nat.le_of_ble_eq_true rfl) (fun z => z) (rX4_get (q := q) ((o + 5)) p0 h (kdX7_4 ho)) (fun x3 e4 => Or.inl ⟨_, _, rfl, fun z => z, ?_⟩)
  show mm_E2 _ _ _ _ _ [.int x3, .int x1] h _ _
  refine me_isub (pc' := 17) dX7_freeUnitsIn_16 rfl ?_
  exact me_iret dX7_freeUnitsIn_17 rfl (fun z => z) rfl
def gX7_isOf (o : Nat) (p0 : Int32) (p1 : Int32) (h : mm_H) : Option Bool :=
(gX4_get ((o + 1)) p0 h).bind (fun (x1 : Int32) =>
if x1 = p1 then
some true
else
some false)
theorem rX7_isOf {q : mm_q} (o : Nat) (p0 : Int32) (p1 : Int32) (h : mm_H) (ho : mm_kd o = (0, 7)) : mm_R2 (mm_Sq q) (mm_Sq q) mX7_isOf [.ref o, .int p0, .int p1] h (gX7_isOf o p0 p1 h) (lf_z h) := by
  refine mm_body (L := [some (.ref o), some (.int p0), some (.int p1)]) rfl (by decide +kernel) (Nat.le_of_ble_eq_true rfl) rfl ?_
  unfold gX7_isOf
  refine me_aload_n (pc' := 1) (i := 0) dX7_isOf_0 rfl rfl rfl ?_
  refine me_getR (pc' := 4) (q' := (o + 1)) dX7_isOf_1 rfl fkX7_14 (mm_ks ho) (mm_ltq ho) rfl (mrX7_2 ho) ?_
  refine me_iload_n (pc' := 5) (i := 1) dX7_isOf_4 rfl rfl rfl ?_
  refine me_callV (As := [.int p0]) (st := []) (F' := (mm_Sq q)) (G' := (mm_Sq q)) (F'' := (mm_Sq q)) (pc' := 8) dX7_isOf_5 rfl mfX4_get rfl lkX7_79 (mm_ks (kdX7_2 ho)) rfl (mm_ltq (kdX7_2 ho)) ⟨Nat.le_of_ble_eq_true rfl, Nat.le_of_ble_eq_true rfl⟩ (Nat.le_of_ble_eq_true rfl) (fun z => z) (rX4_get (q := q) ((o + 1)) p0 h (kdX7_2 ho)) (fun x1 e2 => Or.inl ⟨_, _, rfl, fun z => z, ?_⟩)
  show mm_E2 _ _ _ _ _ [.int x1] h _ _
  refine me_iload_n (pc' := 9) (i := 2) dX7_isOf_8 rfl rfl rfl ?_
  refine me_icmp_ne (pc' := 12) (tgt := 16) dX7_isOf_9 (by decide) rfl (fun c3 => ?_) (fun c3 => ?_)
  · refine me_iconst (pc' := 17) (v := 0) dX7_isOf_16 rfl kc_i0 ?_
    exact me_zret (b := false) dX7_isOf_17 rfl (fun z => z) rfl
  · refine me_iconst (pc' := 13) (v := 1) dX7_isOf_12 rfl kc_i1 ?_
    refine me_goto (tgt := 17) dX7_isOf_13 (by decide) ?_
    exact me_zret (b := true) dX7_isOf_17 rfl (fun z => z) rfl
def gX7_lastsUntil (o : Nat) (p0 : Int32) (p1 : Int32) (h : mm_H) : Option Bool :=
(gX4_get ((o + 7)) p0 h).bind (fun (x1 : Int32) =>
if x1 < p1 then
some false
else
some true)
theorem rX7_lastsUntil {q : mm_q} (o : Nat) (p0 : Int32) (p1 : Int32) (h : mm_H) (ho : mm_kd o = (0, 7)) : mm_R2 (mm_Sq q) (mm_Sq q) mX7_lastsUntil [.ref o, .int p0, .int p1] h (gX7_lastsUntil o p0 p1 h) (lf_z h) := by
  refine mm_body (L := [some (.ref o), some (.int p0), some (.int p1)]) rfl (by decide +kernel) (Nat.le_of_ble_eq_true rfl) rfl ?_
  unfold gX7_lastsUntil
  refine me_aload_n (pc' := 1) (i := 0) dX7_lastsUntil_0 rfl rfl rfl ?_
  refine me_getR (pc' := 4) (q' := (o + 7)) dX7_lastsUntil_1 rfl fkX7_26 (mm_ks ho) (mm_ltq ho) rfl (mrX7_5 ho) ?_
  refine me_iload_n (pc' := 5) (i := 1) dX7_lastsUntil_4 rfl rfl rfl ?_
  refine me_callV (As := [.int p0]) (st := []) (F' := (mm_Sq q)) (G' := (mm_Sq q)) (F'' := (mm_Sq q)) (pc' := 8) dX7_lastsUntil_5 rfl mfX4_get rfl lkX7_79 (mm_ks (kdX7_5 ho)) rfl (mm_ltq (kdX7_5 ho)) ⟨Nat.le_of_ble_eq_true rfl, Nat.le_of_ble_eq_true rfl⟩ (Nat.le_of_ble_eq_true rfl) (fun z => z) (rX4_get (q := q) ((o + 7)) p0 h (kdX7_5 ho)) (fun x1 e2 => Or.inl ⟨_, _, rfl, fun z => z, ?_⟩)
  show mm_E2 _ _ _ _ _ [.int x1] h _ _
  refine me_iload_n (pc' := 9) (i := 2) dX7_lastsUntil_8 rfl rfl rfl ?_
  refine me_icmp_lt (pc' := 12) (tgt := 16) dX7_lastsUntil_9 (by decide) rfl (fun c3 => ?_) (fun c3 => ?_)
  · refine me_iconst (pc' := 17) (v := 0) dX7_lastsUntil_16 rfl kc_i0 ?_
    exact me_zret (b := false) dX7_lastsUntil_17 rfl (fun z => z) rfl
  · refine me_iconst (pc' := 13) (v := 1) dX7_lastsUntil_12 rfl kc_i1 ?_
    refine me_goto (tgt := 17) dX7_lastsUntil_13 (by decide) ?_
    exact me_zret (b := true) dX7_lastsUntil_17 rfl (fun z => z) rfl
def gX7_availableUnits_L5 (o : Nat) (u1 : Int32) (u2 : Int32) (h : mm_H) : Nat → Int32 → Int32 → Option Int32
  | 0, _, _ => none
  | n + 1, w3, w4 =>
    if w4 < (mh_I h o 1) then
    (gX7_isOf o w4 u1 h).bind (fun (x6 : Bool) =>
    mm_jn (fun (y8 : Int32) =>
    (some (w4 + 1)).bind (fun (x10 : Int32) =>
    gX7_availableUnits_L5 o u1 u2 h n y8 x10)) (fun (j9 : Int32 → Option Int32) =>
    if x6 = true then
    (gX7_lastsUntil o w4 u2 h).bind (fun (x12 : Bool) =>
    if x12 = true then
    (gX7_freeUnitsIn o w4 h).bind (fun (x15 : Int32) =>
    (some ((w3 + x15))).bind (fun (x17 : Int32) =>
    j9 x17))
    else
    j9 w3)
    else
    j9 w3))
    else
    some w3
def gX7_availableUnits (o : Nat) (p0 : Int32) (p1 : Int32) (h : mm_H) : Option Int32 :=
gX7_availableUnits_L5 o p0 p1 h mm_F 0 0
theorem rX7_availableUnits_L5 {q : mm_q} (o : Nat) (u1 : Int32) (u2 : Int32)  (h : mm_H) (ho : mm_kd o = (0, 7)) : ∀ (n : Nat) (w3 : Int32) (w4 : Int32), mm_E2 (mm_Sq q) (mm_Sq q) mX7_availableUnits 5 [some (.ref o), some (.int u1), some (.int u2), some (.int w3), some (.int w4)] [] h (gX7_availableUnits_L5 o u1 u2 h n w3 w4) (lf_i h) := by
  intro n
  induction n with
  | zero =>
    intro w3 w4
    exact mm_none
  | succ n ih =>
    intro w3 w4
    rw [gX7_availableUnits_L5]
    refine me_iload (pc' := 7) (i := 4) dX7_availableUnits_5 rfl rfl ?_
    refine me_aload_n (pc' := 8) (i := 0) dX7_availableUnits_7 rfl rfl rfl ?_
    refine me_getI (pc' := 11) dX7_availableUnits_8 rfl fkX7_66 (mm_ks ho) (mm_ltq ho) rfl ?_
    refine me_icmp_ge (pc' := 14) (tgt := 49) dX7_availableUnits_11 (by decide) rfl (fun c5 => ?_) (fun c5 => ?_)
    · refine me_iload_n (pc' := 50) (i := 3) dX7_availableUnits_49 rfl rfl rfl ?_
      exact me_iret dX7_availableUnits_50 rfl (fun z => z) rfl
    · refine me_aload_n (pc' := 15) (i := 0) dX7_availableUnits_14 rfl rfl rfl ?_
      refine me_iload (pc' := 17) (i := 4) dX7_availableUnits_15 rfl rfl ?_
      refine me_iload_n (pc' := 18) (i := 1) dX7_availableUnits_17 rfl rfl rfl ?_
      refine me_callV (As := [.int w4, .int u1]) (st := []) (F' := (mm_Sq q)) (G' := (mm_Sq q)) (F'' := (mm_Sq q)) (pc' := 21) dX7_availableUnits_18 rfl mfX7_isOf rfl lkX7_88 (mm_ks ho) rfl (mm_ltq ho) ⟨Nat.le_of_ble_eq_true rfl, Nat.le_of_ble_eq_true rfl⟩ (Nat.le_of_ble_eq_true rfl) (fun z => z) (rX7_isOf (q := q) o w4 u1 h ho) (fun x6 e7 => Or.inl ⟨_, _, rfl, fun z => z, ?_⟩)
      show mm_E2 _ _ _ _ _ [.int (mx_bi x6)] h _ _
      refine mm_jnI (fun (j99 : Int32 → Option Int32) => ∀ (y8 : Int32), mm_E2 (mm_Sq q) (mm_Sq q) mX7_availableUnits 43 [some (.ref o), some (.int u1), some (.int u2), some (.int y8), some (.int w4)] [] h (j99 y8) (lf_i h)) ?_ (fun j9 j9p => ?_)
      · intro y8
        refine me_iinc (pc' := 46) (i := 4) (x := w4) (y := w4 + 1) (L' := [some (.ref o), some (.int u1), some (.int u2), some (.int y8), some (.int (w4 + 1))]) dX7_availableUnits_43 rfl (Nat.le_of_ble_eq_true rfl) (Nat.le_of_ble_eq_true rfl) rfl (kc_plus kc_i1) rfl ?_
        refine mm_bnd (w4 + 1) (fun x10 => [some (.ref o), some (.int u1), some (.int u2), some (.int y8), some (.int x10)]) (fun _ => []) (fun _ => h) (fun x10 => ?_)
        refine me_goto (tgt := 5) dX7_availableUnits_46 (by decide) ?_
        exact ih y8 x10
      refine me_ifB_eq (pc' := 24) (tgt := 43) dX7_availableUnits_21 (by decide) rfl (fun c11 => ?_) (fun c11 => ?_)
      · exact j9p w3
      · refine me_aload_n (pc' := 25) (i := 0) dX7_availableUnits_24 rfl rfl rfl ?_
        refine me_iload (pc' := 27) (i := 4) dX7_availableUnits_25 rfl rfl ?_
        refine me_iload_n (pc' := 28) (i := 2) dX7_availableUnits_27 rfl rfl rfl ?_
        refine me_callV (As := [.int w4, .int u2]) (st := []) (F' := (mm_Sq q)) (G' := (mm_Sq q)) (F'' := (mm_Sq q)) (pc' := 31) dX7_availableUnits_28 rfl mfX7_lastsUntil rfl lkX7_92 (mm_ks ho) rfl (mm_ltq ho) ⟨Nat.le_of_ble_eq_true rfl, Nat.le_of_ble_eq_true rfl⟩ (Nat.le_of_ble_eq_true rfl) (fun z => z) (rX7_lastsUntil (q := q) o w4 u2 h ho) (fun x12 e13 => Or.inl ⟨_, _, rfl, fun z => z, ?_⟩)
        show mm_E2 _ _ _ _ _ [.int (mx_bi x12)] h _ _
        refine me_ifB_eq (pc' := 34) (tgt := 43) dX7_availableUnits_31 (by decide) rfl (fun c14 => ?_) (fun c14 => ?_)
        · exact j9p w3
        · refine me_iload_n (pc' := 35) (i := 3) dX7_availableUnits_34 rfl rfl rfl ?_
          refine me_aload_n (pc' := 36) (i := 0) dX7_availableUnits_35 rfl rfl rfl ?_
          refine me_iload (pc' := 38) (i := 4) dX7_availableUnits_36 rfl rfl ?_
          refine me_callV (As := [.int w4]) (st := [.int w3]) (F' := (mm_Sq q)) (G' := (mm_Sq q)) (F'' := (mm_Sq q)) (pc' := 41) dX7_availableUnits_38 rfl mfX7_freeUnitsIn rfl lkX7_95 (mm_ks ho) rfl (mm_ltq ho) ⟨Nat.le_of_ble_eq_true rfl, Nat.le_of_ble_eq_true rfl⟩ (Nat.le_of_ble_eq_true rfl) (fun z => z) (rX7_freeUnitsIn (q := q) o w4 h ho) (fun x15 e16 => Or.inl ⟨_, _, rfl, fun z => z, ?_⟩)
          show mm_E2 _ _ _ _ _ [.int x15, .int w3] h _ _
          refine me_iadd (pc' := 42) dX7_availableUnits_41 rfl ?_
          refine mm_bnd ((w3 + x15)) (fun x17 => [some (.ref o), some (.int u1), some (.int u2), some (.int w3), some (.int w4)]) (fun x17 => [.int x17]) (fun _ => h) (fun x17 => ?_)
          refine me_istore_n (pc' := 43) (i := 3) (L' := [some (.ref o), some (.int u1), some (.int u2), some (.int x17), some (.int w4)]) dX7_availableUnits_42 rfl rfl (Nat.le_of_ble_eq_true rfl) (Nat.le_of_ble_eq_true rfl) rfl ?_
          exact j9p x17
theorem rX7_availableUnits {q : mm_q} (o : Nat) (p0 : Int32) (p1 : Int32) (h : mm_H) (ho : mm_kd o = (0, 7)) : mm_R2 (mm_Sq q) (mm_Sq q) mX7_availableUnits [.ref o, .int p0, .int p1] h (gX7_availableUnits o p0 p1 h) (lf_i h) := by
  refine mm_body (L := [some (.ref o), some (.int p0), some (.int p1), none, none]) rfl (by decide +kernel) (Nat.le_of_ble_eq_true rfl) rfl ?_
  unfold gX7_availableUnits
  refine me_iconst (pc' := 1) (v := 0) dX7_availableUnits_0 rfl kc_i0 ?_
  refine me_istore_n (pc' := 2) (i := 3) (L' := [some (.ref o), some (.int p0), some (.int p1), some (.int 0), none]) dX7_availableUnits_1 rfl rfl (Nat.le_of_ble_eq_true rfl) (Nat.le_of_ble_eq_true rfl) rfl ?_
  refine me_iconst (pc' := 3) (v := 0) dX7_availableUnits_2 rfl kc_i0 ?_
  refine me_istore (pc' := 5) (i := 4) (L' := [some (.ref o), some (.int p0), some (.int p1), some (.int 0), some (.int 0)]) dX7_availableUnits_3 rfl (Nat.le_of_ble_eq_true rfl) (Nat.le_of_ble_eq_true rfl) rfl ?_
  exact rX7_availableUnits_L5 (q := q) o p0 p1 h ho mm_F 0 0
def gX7_hasBatch (o : Nat) (p0 : Int32) (h : mm_H) : Option Bool :=
if p0 < 0 then
some false
else
if p0 < (mh_I h o 1) then
some true
else
some false
theorem rX7_hasBatch {q : mm_q} (o : Nat) (p0 : Int32) (h : mm_H) (ho : mm_kd o = (0, 7)) : mm_R2 (mm_Sq q) (mm_Sq q) mX7_hasBatch [.ref o, .int p0] h (gX7_hasBatch o p0 h) (lf_z h) := by
  refine mm_body (L := [some (.ref o), some (.int p0)]) rfl (by decide +kernel) (Nat.le_of_ble_eq_true rfl) rfl ?_
  unfold gX7_hasBatch
  refine me_iload_n (pc' := 1) (i := 1) dX7_hasBatch_0 rfl rfl rfl ?_
  refine me_if_lt (pc' := 4) (tgt := 16) dX7_hasBatch_1 (by decide) rfl (fun c1 => ?_) (fun c1 => ?_)
  · refine me_iconst (pc' := 17) (v := 0) dX7_hasBatch_16 rfl kc_i0 ?_
    exact me_zret (b := false) dX7_hasBatch_17 rfl (fun z => z) rfl
  · refine me_iload_n (pc' := 5) (i := 1) dX7_hasBatch_4 rfl rfl rfl ?_
    refine me_aload_n (pc' := 6) (i := 0) dX7_hasBatch_5 rfl rfl rfl ?_
    refine me_getI (pc' := 9) dX7_hasBatch_6 rfl fkX7_66 (mm_ks ho) (mm_ltq ho) rfl ?_
    refine me_icmp_ge (pc' := 12) (tgt := 16) dX7_hasBatch_9 (by decide) rfl (fun c2 => ?_) (fun c2 => ?_)
    · refine me_iconst (pc' := 17) (v := 0) dX7_hasBatch_16 rfl kc_i0 ?_
      exact me_zret (b := false) dX7_hasBatch_17 rfl (fun z => z) rfl
    · refine me_iconst (pc' := 13) (v := 1) dX7_hasBatch_12 rfl kc_i1 ?_
      refine me_goto (tgt := 17) dX7_hasBatch_13 (by decide) ?_
      exact me_zret (b := true) dX7_hasBatch_17 rfl (fun z => z) rfl
def gX0_empty (h : mm_H) : Option mm_H :=
(some (ms_I h 347 0 0)).bind (fun (h1 : mm_H) =>
some h1)
theorem rX0_empty {q : mm_q} (h : mm_H) : mm_R2 (mm_Sq q) (mm_Sq q) mX0_empty [.ref 347] h (gX0_empty h) lf_v := by
  refine mm_body (L := [some (.ref 347)]) rfl (by decide +kernel) (Nat.le_of_ble_eq_true rfl) rfl ?_
  unfold gX0_empty
  refine me_aload_n (pc' := 1) (i := 0) dX0_empty_0 rfl rfl rfl ?_
  refine me_iconst (pc' := 2) (v := 0) dX0_empty_1 rfl kc_i0 ?_
  refine me_putI (F' := (mm_Sq q)) (pc' := 5) dX0_empty_2 rfl fkX0_23 (mm_ks kd_347) (mm_ltq kd_347) rfl pgX0_0 (fun z => z) ?_
  refine mm_bnd (ms_I h 347 0 0) (fun _ => [some (.ref 347)]) (fun _ => []) (fun h1 => h1) (fun h1 => ?_)
  exact me_vret dX0_empty_5 rfl (fun z => z) rfl
def gX0_insert_L5 (u2 : Int32) (u3 : Int32) : Nat → Int32 → mm_H → Option mm_H
  | 0, _, _ => none
  | n + 1, w4, h5 =>
    mm_jn (fun (_ : Unit) =>
    (gX4_put 348 w4 u2 h5).bind (fun (h7 : mm_H) =>
    (gX4_put 350 w4 u3 h7).bind (fun (h9 : mm_H) =>
    (some (ms_I h9 347 0 (((mh_I h9 347 0) + 1)))).bind (fun (h11 : mm_H) =>
    some h11)))) (fun (j6 : Unit → Option mm_H) =>
    if 0 < w4 then
    (gX4_get 350 ((w4 - 1)) h5).bind (fun (x13 : Int32) =>
    if u3 < x13 then
    (gX4_get 348 ((w4 - 1)) h5).bind (fun (x16 : Int32) =>
    (gX4_put 348 w4 x16 h5).bind (fun (h18 : mm_H) =>
    (gX4_get 350 ((w4 - 1)) h18).bind (fun (x20 : Int32) =>
    (gX4_put 350 w4 x20 h18).bind (fun (h22 : mm_H) =>
    (some (w4 + (-1))).bind (fun (x24 : Int32) =>
    gX0_insert_L5 u2 u3 n x24 h22)))))
    else
    j6 ())
    else
    j6 ())
def gX0_insert (p0 : Int32) (p1 : Int32) (h : mm_H) : Option mm_H :=
(some ((mh_I h 347 0))).bind (fun (x1 : Int32) =>
gX0_insert_L5 p0 p1 mm_F x1 h)
theorem rX0_insert_L5 {q : mm_q}  (u2 : Int32) (u3 : Int32) : ∀ (n : Nat) (w4 : Int32) (h5 : mm_H), mm_E2 (mm_Sq q) (mm_Sq q) mX0_insert 5 [some (.ref 347), some (.int u2), some (.int u3), some (.int w4)] [] h5 (gX0_insert_L5 u2 u3  n w4 h5) lf_v := by
  intro n
  induction n with
  | zero =>
    intro w4 h5
    exact mm_none
  | succ n ih =>
    intro w4 h5
    rw [gX0_insert_L5]
    refine me_iload_n (pc' := 6) (i := 3) dX0_insert_5 rfl rfl rfl ?_
    refine mm_jnI (fun (j69 : Unit → Option mm_H) => ∀ (_ : Unit), mm_E2 (mm_Sq q) (mm_Sq q) mX0_insert 65 [some (.ref 347), some (.int u2), some (.int u3), some (.int w4)] [] h5 (j69 ()) lf_v) ?_ (fun j6 j6p => ?_)
    · intro _
      refine me_aload_n (pc' := 66) (i := 0) dX0_insert_65 rfl rfl rfl ?_
      refine me_getR (pc' := 69) (q' := 348) dX0_insert_66 rfl fkX0_14 (mm_ks kd_347) (mm_ltq kd_347) rfl (mrX0_1 kd_347) ?_
      refine me_iload_n (pc' := 70) (i := 3) dX0_insert_69 rfl rfl rfl ?_
      refine me_iload_n (pc' := 71) (i := 1) dX0_insert_70 rfl rfl rfl ?_
      refine me_callV (As := [.int w4, .int u2]) (st := []) (F' := (mm_Sq q)) (G' := (mm_Sq q)) (F'' := (mm_Sq q)) (pc' := 74) dX0_insert_71 rfl mfX4_put rfl lkX0_31 (mm_ks kd_348) rfl (mm_ltq kd_348) ⟨Nat.le_of_ble_eq_true rfl, Nat.le_of_ble_eq_true rfl⟩ (Nat.le_of_ble_eq_true rfl) (fun z => z) (rX4_put (q := q) 348 w4 u2 h5 kd_348) (fun h7 e8 => Or.inl ⟨_, _, rfl, fun z => z, ?_⟩)
      show mm_E2 _ _ _ _ _ [] h7 _ _
      refine me_aload_n (pc' := 75) (i := 0) dX0_insert_74 rfl rfl rfl ?_
      refine me_getR (pc' := 78) (q' := 350) dX0_insert_75 rfl fkX0_20 (mm_ks kd_347) (mm_ltq kd_347) rfl (mrX0_2 kd_347) ?_
      refine me_iload_n (pc' := 79) (i := 3) dX0_insert_78 rfl rfl rfl ?_
      refine me_iload_n (pc' := 80) (i := 2) dX0_insert_79 rfl rfl rfl ?_
      refine me_callV (As := [.int w4, .int u3]) (st := []) (F' := (mm_Sq q)) (G' := (mm_Sq q)) (F'' := (mm_Sq q)) (pc' := 83) dX0_insert_80 rfl mfX4_put rfl lkX0_31 (mm_ks kd_350) rfl (mm_ltq kd_350) ⟨Nat.le_of_ble_eq_true rfl, Nat.le_of_ble_eq_true rfl⟩ (Nat.le_of_ble_eq_true rfl) (fun z => z) (rX4_put (q := q) 350 w4 u3 h7 kd_350) (fun h9 e10 => Or.inl ⟨_, _, rfl, fun z => z, ?_⟩)
      show mm_E2 _ _ _ _ _ [] h9 _ _
      refine me_aload_n (pc' := 84) (i := 0) dX0_insert_83 rfl rfl rfl ?_
      refine me_dup (pc' := 85) dX0_insert_84 rfl rfl ?_
      refine me_getI (pc' := 88) dX0_insert_85 rfl fkX0_23 (mm_ks kd_347) (mm_ltq kd_347) rfl ?_
      refine me_iconst (pc' := 89) (v := 1) dX0_insert_88 rfl kc_i1 ?_
      refine me_iadd (pc' := 90) dX0_insert_89 rfl ?_
      refine me_putI (F' := (mm_Sq q)) (pc' := 93) dX0_insert_90 rfl fkX0_23 (mm_ks kd_347) (mm_ltq kd_347) rfl pgX0_0 (fun z => z) ?_
      refine mm_bnd (ms_I h9 347 0 (((mh_I h9 347 0) + 1))) (fun _ => [some (.ref 347), some (.int u2), some (.int u3), some (.int w4)]) (fun _ => []) (fun h11 => h11) (fun h11 => ?_)
      exact me_vret dX0_insert_93 rfl (fun z => z) rfl
    refine me_if_le (pc' := 9) (tgt := 65) dX0_insert_6 (by decide) rfl (fun c12 => ?_) (fun c12 => ?_)
    · exact j6p ()
    · refine me_aload_n (pc' := 10) (i := 0) dX0_insert_9 rfl rfl rfl ?_
      refine me_getR (pc' := 13) (q' := 350) dX0_insert_10 rfl fkX0_20 (mm_ks kd_347) (mm_ltq kd_347) rfl (mrX0_2 kd_347) ?_
      refine me_iload_n (pc' := 14) (i := 3) dX0_insert_13 rfl rfl rfl ?_
      refine me_iconst (pc' := 15) (v := 1) dX0_insert_14 rfl kc_i1 ?_
      refine me_isub (pc' := 16) dX0_insert_15 rfl ?_
      refine me_callV (As := [.int (w4 - 1)]) (st := []) (F' := (mm_Sq q)) (G' := (mm_Sq q)) (F'' := (mm_Sq q)) (pc' := 19) dX0_insert_16 rfl mfX4_get rfl lkX0_27 (mm_ks kd_350) rfl (mm_ltq kd_350) ⟨Nat.le_of_ble_eq_true rfl, Nat.le_of_ble_eq_true rfl⟩ (Nat.le_of_ble_eq_true rfl) (fun z => z) (rX4_get (q := q) 350 ((w4 - 1)) h5 kd_350) (fun x13 e14 => Or.inl ⟨_, _, rfl, fun z => z, ?_⟩)
      show mm_E2 _ _ _ _ _ [.int x13] h5 _ _
      refine me_iload_n (pc' := 20) (i := 2) dX0_insert_19 rfl rfl rfl ?_
      refine me_icmp_le (pc' := 23) (tgt := 65) dX0_insert_20 (by decide) rfl (fun c15 => ?_) (fun c15 => ?_)
      · exact j6p ()
      · refine me_aload_n (pc' := 24) (i := 0) dX0_insert_23 rfl rfl rfl ?_
        refine me_getR (pc' := 27) (q' := 348) dX0_insert_24 rfl fkX0_14 (mm_ks kd_347) (mm_ltq kd_347) rfl (mrX0_1 kd_347) ?_
        refine me_iload_n (pc' := 28) (i := 3) dX0_insert_27 rfl rfl rfl ?_
        refine me_aload_n (pc' := 29) (i := 0) dX0_insert_28 rfl rfl rfl ?_
        refine me_getR (pc' := 32) (q' := 348) dX0_insert_29 rfl fkX0_14 (mm_ks kd_347) (mm_ltq kd_347) rfl (mrX0_1 kd_347) ?_
        refine me_iload_n (pc' := 33) (i := 3) dX0_insert_32 rfl rfl rfl ?_
        refine me_iconst (pc' := 34) (v := 1) dX0_insert_33 rfl kc_i1 ?_
        refine me_isub (pc' := 35) dX0_insert_34 rfl ?_
        refine me_callV (As := [.int (w4 - 1)]) (st := [.int w4, .ref 348]) (F' := (mm_Sq q)) (G' := (mm_Sq q)) (F'' := (mm_Sq q)) (pc' := 38) dX0_insert_35 rfl mfX4_get rfl lkX0_27 (mm_ks kd_348) rfl (mm_ltq kd_348) ⟨Nat.le_of_ble_eq_true rfl, Nat.le_of_ble_eq_true rfl⟩ (Nat.le_of_ble_eq_true rfl) (fun z => z) (rX4_get (q := q) 348 ((w4 - 1)) h5 kd_348) (fun x16 e17 => Or.inl ⟨_, _, rfl, fun z => z, ?_⟩)
        show mm_E2 _ _ _ _ _ [.int x16, .int w4, .ref 348] h5 _ _
        refine me_callV (As := [.int w4, .int x16]) (st := []) (F' := (mm_Sq q)) (G' := (mm_Sq q)) (F'' := (mm_Sq q)) (pc' := 41) dX0_insert_38 rfl mfX4_put rfl lkX0_31 (mm_ks kd_348) rfl (mm_ltq kd_348) ⟨Nat.le_of_ble_eq_true rfl, Nat.le_of_ble_eq_true rfl⟩ (Nat.le_of_ble_eq_true rfl) (fun z => z) (rX4_put (q := q) 348 w4 x16 h5 kd_348) (fun h18 e19 => Or.inl ⟨_, _, rfl, fun z => z, ?_⟩)
        show mm_E2 _ _ _ _ _ [] h18 _ _
        refine me_aload_n (pc' := 42) (i := 0) dX0_insert_41 rfl rfl rfl ?_
        refine me_getR (pc' := 45) (q' := 350) dX0_insert_42 rfl fkX0_20 (mm_ks kd_347) (mm_ltq kd_347) rfl (mrX0_2 kd_347) ?_
        refine me_iload_n (pc' := 46) (i := 3) dX0_insert_45 rfl rfl rfl ?_
        refine me_aload_n (pc' := 47) (i := 0) dX0_insert_46 rfl rfl rfl ?_
        refine me_getR (pc' := 50) (q' := 350) dX0_insert_47 rfl fkX0_20 (mm_ks kd_347) (mm_ltq kd_347) rfl (mrX0_2 kd_347) ?_
        refine me_iload_n (pc' := 51) (i := 3) dX0_insert_50 rfl rfl rfl ?_
        refine me_iconst (pc' := 52) (v := 1) dX0_insert_51 rfl kc_i1 ?_
        refine me_isub (pc' := 53) dX0_insert_52 rfl ?_
        refine me_callV (As := [.int (w4 - 1)]) (st := [.int w4, .ref 350]) (F' := (mm_Sq q)) (G' := (mm_Sq q)) (F'' := (mm_Sq q)) (pc' := 56) dX0_insert_53 rfl mfX4_get rfl lkX0_27 (mm_ks kd_350) rfl (mm_ltq kd_350) ⟨Nat.le_of_ble_eq_true rfl, Nat.le_of_ble_eq_true rfl⟩ (Nat.le_of_ble_eq_true rfl) (fun z => z) (rX4_get (q := q) 350 ((w4 - 1)) h18 kd_350) (fun x20 e21 => Or.inl ⟨_, _, rfl, fun z => z, ?_⟩)
        show mm_E2 _ _ _ _ _ [.int x20, .int w4, .ref 350] h18 _ _
        refine me_callV (As := [.int w4, .int x20]) (st := []) (F' := (mm_Sq q)) (G' := (mm_Sq q)) (F'' := (mm_Sq q)) (pc' := 59) dX0_insert_56 rfl mfX4_put rfl lkX0_31 (mm_ks kd_350) rfl (mm_ltq kd_350) ⟨Nat.le_of_ble_eq_true rfl, Nat.le_of_ble_eq_true rfl⟩ (Nat.le_of_ble_eq_true rfl) (fun z => z) (rX4_put (q := q) 350 w4 x20 h18 kd_350) (fun h22 e23 => Or.inl ⟨_, _, rfl, fun z => z, ?_⟩)
        show mm_E2 _ _ _ _ _ [] h22 _ _
        refine me_iinc (pc' := 62) (i := 3) (x := w4) (y := w4 + (-1)) (L' := [some (.ref 347), some (.int u2), some (.int u3), some (.int (w4 + (-1)))]) dX0_insert_59 rfl (Nat.le_of_ble_eq_true rfl) (Nat.le_of_ble_eq_true rfl) rfl (kc_plus kc_im1) rfl ?_
        refine mm_bnd (w4 + (-1)) (fun x24 => [some (.ref 347), some (.int u2), some (.int u3), some (.int x24)]) (fun _ => []) (fun _ => h22) (fun x24 => ?_)
        refine me_goto (tgt := 5) dX0_insert_62 (by decide) ?_
        exact ih x24 h22
theorem rX0_insert {q : mm_q} (p0 : Int32) (p1 : Int32) (h : mm_H) : mm_R2 (mm_Sq q) (mm_Sq q) mX0_insert [.ref 347, .int p0, .int p1] h (gX0_insert p0 p1 h) lf_v := by
  refine mm_body (L := [some (.ref 347), some (.int p0), some (.int p1), none]) rfl (by decide +kernel) (Nat.le_of_ble_eq_true rfl) rfl ?_
  unfold gX0_insert
  refine me_aload_n (pc' := 1) (i := 0) dX0_insert_0 rfl rfl rfl ?_
  refine me_getI (pc' := 4) dX0_insert_1 rfl fkX0_23 (mm_ks kd_347) (mm_ltq kd_347) rfl ?_
  refine mm_bnd ((mh_I h 347 0)) (fun x1 => [some (.ref 347), some (.int p0), some (.int p1), none]) (fun x1 => [.int x1]) (fun _ => h) (fun x1 => ?_)
  refine me_istore_n (pc' := 5) (i := 3) (L' := [some (.ref 347), some (.int p0), some (.int p1), some (.int x1)]) dX0_insert_4 rfl rfl (Nat.le_of_ble_eq_true rfl) (Nat.le_of_ble_eq_true rfl) rfl ?_
  exact rX0_insert_L5 (q := q) p0 p1 mm_F x1 h
def gX7_collectIssueOrder_L7 (o : Nat) (u3 : Int32) (u4 : Int32) : Nat → Int32 → mm_H → Option mm_H
  | 0, _, _ => none
  | n + 1, w5, h6 =>
    if w5 < (mh_I h6 o 1) then
    (gX7_isOf o w5 u3 h6).bind (fun (x8 : Bool) =>
    mm_jn (fun (h10 : mm_H) =>
    (some (w5 + 1)).bind (fun (x12 : Int32) =>
    gX7_collectIssueOrder_L7 o u3 u4 n x12 h10)) (fun (j11 : mm_H → Option mm_H) =>
    if x8 = true then
    (gX7_lastsUntil o w5 u4 h6).bind (fun (x14 : Bool) =>
    if x14 = true then
    (gX7_freeUnitsIn o w5 h6).bind (fun (x17 : Int32) =>
    if 0 < x17 then
    (gX4_get ((o + 7)) w5 h6).bind (fun (x20 : Int32) =>
    (gX0_insert w5 x20 h6).bind (fun (h22 : mm_H) =>
    j11 h22))
    else
    j11 h6)
    else
    j11 h6)
    else
    j11 h6))
    else
    some h6
def gX7_collectIssueOrder (o : Nat) (p1 : Int32) (p2 : Int32) (h : mm_H) : Option mm_H :=
(gX0_empty h).bind (fun (h1 : mm_H) =>
gX7_collectIssueOrder_L7 o p1 p2 mm_F 0 h1)
theorem rX7_collectIssueOrder_L7 {q : mm_q} (o : Nat) (u3 : Int32) (u4 : Int32)   (ho : mm_kd o = (0, 7)) : ∀ (n : Nat) (w5 : Int32) (h6 : mm_H), mm_E2 (mm_Sq q) (mm_Sq q) mX7_collectIssueOrder 7 [some (.ref o), some (.ref 347), some (.int u3), some (.int u4), some (.int w5)] [] h6 (gX7_collectIssueOrder_L7 o u3 u4  n w5 h6) lf_v := by
  intro n
  induction n with
  | zero =>
    intro w5 h6
    exact mm_none
  | succ n ih =>
    intro w5 h6
    rw [gX7_collectIssueOrder_L7]
    refine me_iload (pc' := 9) (i := 4) dX7_collectIssueOrder_7 rfl rfl ?_
    refine me_aload_n (pc' := 10) (i := 0) dX7_collectIssueOrder_9 rfl rfl rfl ?_
    refine me_getI (pc' := 13) dX7_collectIssueOrder_10 rfl fkX7_66 (mm_ks ho) (mm_ltq ho) rfl ?_
    refine me_icmp_ge (pc' := 16) (tgt := 66) dX7_collectIssueOrder_13 (by decide) rfl (fun c7 => ?_) (fun c7 => ?_)
    · exact me_vret dX7_collectIssueOrder_66 rfl (fun z => z) rfl
    · refine me_aload_n (pc' := 17) (i := 0) dX7_collectIssueOrder_16 rfl rfl rfl ?_
      refine me_iload (pc' := 19) (i := 4) dX7_collectIssueOrder_17 rfl rfl ?_
      refine me_iload_n (pc' := 20) (i := 2) dX7_collectIssueOrder_19 rfl rfl rfl ?_
      refine me_callV (As := [.int w5, .int u3]) (st := []) (F' := (mm_Sq q)) (G' := (mm_Sq q)) (F'' := (mm_Sq q)) (pc' := 23) dX7_collectIssueOrder_20 rfl mfX7_isOf rfl lkX7_88 (mm_ks ho) rfl (mm_ltq ho) ⟨Nat.le_of_ble_eq_true rfl, Nat.le_of_ble_eq_true rfl⟩ (Nat.le_of_ble_eq_true rfl) (fun z => z) (rX7_isOf (q := q) o w5 u3 h6 ho) (fun x8 e9 => Or.inl ⟨_, _, rfl, fun z => z, ?_⟩)
      show mm_E2 _ _ _ _ _ [.int (mx_bi x8)] h6 _ _
      refine mm_jnI (fun (j119 : mm_H → Option mm_H) => ∀ (h10 : mm_H), mm_E2 (mm_Sq q) (mm_Sq q) mX7_collectIssueOrder 60 [some (.ref o), some (.ref 347), some (.int u3), some (.int u4), some (.int w5)] [] h10 (j119 h10) lf_v) ?_ (fun j11 j11p => ?_)
      · intro h10
        refine me_iinc (pc' := 63) (i := 4) (x := w5) (y := w5 + 1) (L' := [some (.ref o), some (.ref 347), some (.int u3), some (.int u4), some (.int (w5 + 1))]) dX7_collectIssueOrder_60 rfl (Nat.le_of_ble_eq_true rfl) (Nat.le_of_ble_eq_true rfl) rfl (kc_plus kc_i1) rfl ?_
        refine mm_bnd (w5 + 1) (fun x12 => [some (.ref o), some (.ref 347), some (.int u3), some (.int u4), some (.int x12)]) (fun _ => []) (fun _ => h10) (fun x12 => ?_)
        refine me_goto (tgt := 7) dX7_collectIssueOrder_63 (by decide) ?_
        exact ih x12 h10
      refine me_ifB_eq (pc' := 26) (tgt := 60) dX7_collectIssueOrder_23 (by decide) rfl (fun c13 => ?_) (fun c13 => ?_)
      · exact j11p h6
      · refine me_aload_n (pc' := 27) (i := 0) dX7_collectIssueOrder_26 rfl rfl rfl ?_
        refine me_iload (pc' := 29) (i := 4) dX7_collectIssueOrder_27 rfl rfl ?_
        refine me_iload_n (pc' := 30) (i := 3) dX7_collectIssueOrder_29 rfl rfl rfl ?_
        refine me_callV (As := [.int w5, .int u4]) (st := []) (F' := (mm_Sq q)) (G' := (mm_Sq q)) (F'' := (mm_Sq q)) (pc' := 33) dX7_collectIssueOrder_30 rfl mfX7_lastsUntil rfl lkX7_92 (mm_ks ho) rfl (mm_ltq ho) ⟨Nat.le_of_ble_eq_true rfl, Nat.le_of_ble_eq_true rfl⟩ (Nat.le_of_ble_eq_true rfl) (fun z => z) (rX7_lastsUntil (q := q) o w5 u4 h6 ho) (fun x14 e15 => Or.inl ⟨_, _, rfl, fun z => z, ?_⟩)
        show mm_E2 _ _ _ _ _ [.int (mx_bi x14)] h6 _ _
        refine me_ifB_eq (pc' := 36) (tgt := 60) dX7_collectIssueOrder_33 (by decide) rfl (fun c16 => ?_) (fun c16 => ?_)
        · exact j11p h6
        · refine me_aload_n (pc' := 37) (i := 0) dX7_collectIssueOrder_36 rfl rfl rfl ?_
          refine me_iload (pc' := 39) (i := 4) dX7_collectIssueOrder_37 rfl rfl ?_
          refine me_callV (As := [.int w5]) (st := []) (F' := (mm_Sq q)) (G' := (mm_Sq q)) (F'' := (mm_Sq q)) (pc' := 42) dX7_collectIssueOrder_39 rfl mfX7_freeUnitsIn rfl lkX7_95 (mm_ks ho) rfl (mm_ltq ho) ⟨Nat.le_of_ble_eq_true rfl, Nat.le_of_ble_eq_true rfl⟩ (Nat.le_of_ble_eq_true rfl) (fun z => z) (rX7_freeUnitsIn (q := q) o w5 h6 ho) (fun x17 e18 => Or.inl ⟨_, _, rfl, fun z => z, ?_⟩)
          show mm_E2 _ _ _ _ _ [.int x17] h6 _ _
          refine me_if_le (pc' := 45) (tgt := 60) dX7_collectIssueOrder_42 (by decide) rfl (fun c19 => ?_) (fun c19 => ?_)
          · exact j11p h6
          · refine me_aload_n (pc' := 46) (i := 1) dX7_collectIssueOrder_45 rfl rfl rfl ?_
            refine me_iload (pc' := 48) (i := 4) dX7_collectIssueOrder_46 rfl rfl ?_
            refine me_aload_n (pc' := 49) (i := 0) dX7_collectIssueOrder_48 rfl rfl rfl ?_
            refine me_getR (pc' := 52) (q' := (o + 7)) dX7_collectIssueOrder_49 rfl fkX7_26 (mm_ks ho) (mm_ltq ho) rfl (mrX7_5 ho) ?_
            refine me_iload (pc' := 54) (i := 4) dX7_collectIssueOrder_52 rfl rfl ?_
            refine me_callV (As := [.int w5]) (st := [.int w5, .ref 347]) (F' := (mm_Sq q)) (G' := (mm_Sq q)) (F'' := (mm_Sq q)) (pc' := 57) dX7_collectIssueOrder_54 rfl mfX4_get rfl lkX7_79 (mm_ks (kdX7_5 ho)) rfl (mm_ltq (kdX7_5 ho)) ⟨Nat.le_of_ble_eq_true rfl, Nat.le_of_ble_eq_true rfl⟩ (Nat.le_of_ble_eq_true rfl) (fun z => z) (rX4_get (q := q) ((o + 7)) w5 h6 (kdX7_5 ho)) (fun x20 e21 => Or.inl ⟨_, _, rfl, fun z => z, ?_⟩)
            show mm_E2 _ _ _ _ _ [.int x20, .int w5, .ref 347] h6 _ _
            refine me_callV (As := [.int w5, .int x20]) (st := []) (F' := (mm_Sq q)) (G' := (mm_Sq q)) (F'' := (mm_Sq q)) (pc' := 60) dX7_collectIssueOrder_57 rfl mfX0_insert rfl lkX7_98 (mm_ks kd_347) rfl (mm_ltq kd_347) ⟨Nat.le_of_ble_eq_true rfl, Nat.le_of_ble_eq_true rfl⟩ (Nat.le_of_ble_eq_true rfl) (fun z => z) (rX0_insert (q := q) w5 x20 h6 ) (fun h22 e23 => Or.inl ⟨_, _, rfl, fun z => z, ?_⟩)
            show mm_E2 _ _ _ _ _ [] h22 _ _
            exact j11p h22
theorem rX7_collectIssueOrder {q : mm_q} (o : Nat) (p1 : Int32) (p2 : Int32) (h : mm_H) (ho : mm_kd o = (0, 7)) : mm_R2 (mm_Sq q) (mm_Sq q) mX7_collectIssueOrder [.ref o, .ref 347, .int p1, .int p2] h (gX7_collectIssueOrder o p1 p2 h) lf_v := by
  refine mm_body (L := [some (.ref o), some (.ref 347), some (.int p1), some (.int p2), none]) rfl (by decide +kernel) (Nat.le_of_ble_eq_true rfl) rfl ?_
  unfold gX7_collectIssueOrder
  refine me_aload_n (pc' := 1) (i := 1) dX7_collectIssueOrder_0 rfl rfl rfl ?_
  refine me_callV (As := []) (st := []) (F' := (mm_Sq q)) (G' := (mm_Sq q)) (F'' := (mm_Sq q)) (pc' := 4) dX7_collectIssueOrder_1 rfl mfX0_empty rfl lkX7_83 (mm_ks kd_347) rfl (mm_ltq kd_347) ⟨Nat.le_of_ble_eq_true rfl, Nat.le_of_ble_eq_true rfl⟩ (Nat.le_of_ble_eq_true rfl) (fun z => z) (rX0_empty (q := q) h ) (fun h1 e2 => Or.inl ⟨_, _, rfl, fun z => z, ?_⟩)
  show mm_E2 _ _ _ _ _ [] h1 _ _
  refine me_iconst (pc' := 5) (v := 0) dX7_collectIssueOrder_4 rfl kc_i0 ?_
  refine me_istore (pc' := 7) (i := 4) (L' := [some (.ref o), some (.ref 347), some (.int p1), some (.int p2), some (.int 0)]) dX7_collectIssueOrder_5 rfl (Nat.le_of_ble_eq_true rfl) (Nat.le_of_ble_eq_true rfl) rfl ?_
  exact rX7_collectIssueOrder_L7 (q := q) o p1 p2 ho mm_F 0 h1
def gX7_costOfTaking_L8 (o : Nat) (h : mm_H) : Nat → Int32 → Int32 → Int32 → Option Int32
  | 0, _, _, _ => none
  | n + 1, w1, w2, w3 =>
    if w3 < (mh_I h 347 0) then
    if 0 < w2 then
    (gX4_get 348 w3 h).bind (fun (x6 : Int32) =>
    (gX7_freeUnitsIn o x6 h).bind (fun (x8 : Int32) =>
    (some ((mm_min w2 x8))).bind (fun (x10 : Int32) =>
    (gX4_get ((o + 9)) x6 h).bind (fun (x11 : Int32) =>
    (some ((w1 + (x10 * x11)))).bind (fun (x13 : Int32) =>
    (some ((w2 - x10))).bind (fun (x14 : Int32) =>
    (some (w3 + 1)).bind (fun (x15 : Int32) =>
    gX7_costOfTaking_L8 o h n x13 x14 x15)))))))
    else
    some w1
    else
    some w1
def gX7_costOfTaking (o : Nat) (p1 : Int32) (h : mm_H) : Option Int32 :=
gX7_costOfTaking_L8 o h mm_F 0 p1 0
theorem rX7_costOfTaking_L8 {q : mm_q} (o : Nat)   (h : mm_H) (ho : mm_kd o = (0, 7)) : ∀ (n : Nat) (w1 : Int32) (w2 : Int32) (w3 : Int32), mm_E2 (mm_Sq q) (mm_Sq q) mX7_costOfTaking 8 [some (.ref o), some (.ref 347), none, some (.int w1), some (.int w2), some (.int w3), none, none] [] h (gX7_costOfTaking_L8 o h n w1 w2 w3) (lf_i h) := by
  intro n
  induction n with
  | zero =>
    intro w1 w2 w3
    exact mm_none
  | succ n ih =>
    intro w1 w2 w3
    rw [gX7_costOfTaking_L8]
    refine me_iload (pc' := 10) (i := 5) dX7_costOfTaking_8 rfl rfl ?_
    refine me_aload_n (pc' := 11) (i := 1) dX7_costOfTaking_10 rfl rfl rfl ?_
    refine me_getI (pc' := 14) dX7_costOfTaking_11 rfl fkX7_102 (mm_ks kd_347) (mm_ltq kd_347) rfl ?_
    refine me_icmp_ge (pc' := 17) (tgt := 74) dX7_costOfTaking_14 (by decide) rfl (fun c4 => ?_) (fun c4 => ?_)
    · refine me_iload_n (pc' := 75) (i := 3) dX7_costOfTaking_74 rfl rfl rfl ?_
      exact me_iret dX7_costOfTaking_75 rfl (fun z => z) rfl
    · refine me_iload (pc' := 19) (i := 4) dX7_costOfTaking_17 rfl rfl ?_
      refine me_if_le (pc' := 22) (tgt := 74) dX7_costOfTaking_19 (by decide) rfl (fun c5 => ?_) (fun c5 => ?_)
      · refine me_iload_n (pc' := 75) (i := 3) dX7_costOfTaking_74 rfl rfl rfl ?_
        exact me_iret dX7_costOfTaking_75 rfl (fun z => z) rfl
      · refine me_aload_n (pc' := 23) (i := 1) dX7_costOfTaking_22 rfl rfl rfl ?_
        refine me_getR (pc' := 26) (q' := 348) dX7_costOfTaking_23 rfl fkX7_105 (mm_ks kd_347) (mm_ltq kd_347) rfl (mrX0_1 kd_347) ?_
        refine me_iload (pc' := 28) (i := 5) dX7_costOfTaking_26 rfl rfl ?_
        refine me_callV (As := [.int w3]) (st := []) (F' := (mm_Sq q)) (G' := (mm_Sq q)) (F'' := (mm_Sq q)) (pc' := 31) dX7_costOfTaking_28 rfl mfX4_get rfl lkX7_79 (mm_ks kd_348) rfl (mm_ltq kd_348) ⟨Nat.le_of_ble_eq_true rfl, Nat.le_of_ble_eq_true rfl⟩ (Nat.le_of_ble_eq_true rfl) (fun z => z) (rX4_get (q := q) 348 w3 h kd_348) (fun x6 e7 => Or.inl ⟨_, _, rfl, fun z => z, ?_⟩)
        show mm_E2 _ _ _ _ _ [.int x6] h _ _
        refine me_istore (pc' := 33) (i := 6) (L' := [some (.ref o), some (.ref 347), none, some (.int w1), some (.int w2), some (.int w3), some (.int x6), none]) dX7_costOfTaking_31 rfl (Nat.le_of_ble_eq_true rfl) (Nat.le_of_ble_eq_true rfl) rfl ?_
        refine me_iload (pc' := 35) (i := 4) dX7_costOfTaking_33 rfl rfl ?_
        refine me_aload_n (pc' := 36) (i := 0) dX7_costOfTaking_35 rfl rfl rfl ?_
        refine me_iload (pc' := 38) (i := 6) dX7_costOfTaking_36 rfl rfl ?_
        refine me_callV (As := [.int x6]) (st := [.int w2]) (F' := (mm_Sq q)) (G' := (mm_Sq q)) (F'' := (mm_Sq q)) (pc' := 41) dX7_costOfTaking_38 rfl mfX7_freeUnitsIn rfl lkX7_95 (mm_ks ho) rfl (mm_ltq ho) ⟨Nat.le_of_ble_eq_true rfl, Nat.le_of_ble_eq_true rfl⟩ (Nat.le_of_ble_eq_true rfl) (fun z => z) (rX7_freeUnitsIn (q := q) o x6 h ho) (fun x8 e9 => Or.inl ⟨_, _, rfl, fun z => z, ?_⟩)
        show mm_E2 _ _ _ _ _ [.int x8, .int w2] h _ _
        refine me_mmin (pc' := 44) dX7_costOfTaking_41 rfl ljX7_107 ⟨Nat.le_of_ble_eq_true rfl, Nat.le_of_ble_eq_true rfl⟩ (Nat.le_of_ble_eq_true rfl) ?_
        show mm_E2 _ _ _ _ _ [.int (mm_min w2 x8)] _ _ _
        refine mm_bnd ((mm_min w2 x8)) (fun x10 => [some (.ref o), some (.ref 347), none, some (.int w1), some (.int w2), some (.int w3), some (.int x6), none]) (fun x10 => [.int x10]) (fun _ => h) (fun x10 => ?_)
        refine me_istore (pc' := 46) (i := 7) (L' := [some (.ref o), some (.ref 347), none, some (.int w1), some (.int w2), some (.int w3), some (.int x6), some (.int x10)]) dX7_costOfTaking_44 rfl (Nat.le_of_ble_eq_true rfl) (Nat.le_of_ble_eq_true rfl) rfl ?_
        refine me_iload_n (pc' := 47) (i := 3) dX7_costOfTaking_46 rfl rfl rfl ?_
        refine me_iload (pc' := 49) (i := 7) dX7_costOfTaking_47 rfl rfl ?_
        refine me_aload_n (pc' := 50) (i := 0) dX7_costOfTaking_49 rfl rfl rfl ?_
        refine me_getR (pc' := 53) (q' := (o + 9)) dX7_costOfTaking_50 rfl fkX7_29 (mm_ks ho) (mm_ltq ho) rfl (mrX7_6 ho) ?_
        refine me_iload (pc' := 55) (i := 6) dX7_costOfTaking_53 rfl rfl ?_
        refine me_callV (As := [.int x6]) (st := [.int x10, .int w1]) (F' := (mm_Sq q)) (G' := (mm_Sq q)) (F'' := (mm_Sq q)) (pc' := 58) dX7_costOfTaking_55 rfl mfX4_get rfl lkX7_79 (mm_ks (kdX7_6 ho)) rfl (mm_ltq (kdX7_6 ho)) ⟨Nat.le_of_ble_eq_true rfl, Nat.le_of_ble_eq_true rfl⟩ (Nat.le_of_ble_eq_true rfl) (fun z => z) (rX4_get (q := q) ((o + 9)) x6 h (kdX7_6 ho)) (fun x11 e12 => Or.inl ⟨_, _, rfl, fun z => z, ?_⟩)
        show mm_E2 _ _ _ _ _ [.int x11, .int x10, .int w1] h _ _
        refine me_imul (pc' := 59) dX7_costOfTaking_58 rfl ?_
        refine me_iadd (pc' := 60) dX7_costOfTaking_59 rfl ?_
        refine mm_bnd ((w1 + (x10 * x11))) (fun x13 => [some (.ref o), some (.ref 347), none, some (.int w1), some (.int w2), some (.int w3), some (.int x6), some (.int x10)]) (fun x13 => [.int x13]) (fun _ => h) (fun x13 => ?_)
        refine me_istore_n (pc' := 61) (i := 3) (L' := [some (.ref o), some (.ref 347), none, some (.int x13), some (.int w2), some (.int w3), some (.int x6), some (.int x10)]) dX7_costOfTaking_60 rfl rfl (Nat.le_of_ble_eq_true rfl) (Nat.le_of_ble_eq_true rfl) rfl ?_
        refine me_iload (pc' := 63) (i := 4) dX7_costOfTaking_61 rfl rfl ?_
        refine me_iload (pc' := 65) (i := 7) dX7_costOfTaking_63 rfl rfl ?_
        refine me_isub (pc' := 66) dX7_costOfTaking_65 rfl ?_
        refine mm_bnd ((w2 - x10)) (fun x14 => [some (.ref o), some (.ref 347), none, some (.int x13), some (.int w2), some (.int w3), some (.int x6), some (.int x10)]) (fun x14 => [.int x14]) (fun _ => h) (fun x14 => ?_)
        refine me_istore (pc' := 68) (i := 4) (L' := [some (.ref o), some (.ref 347), none, some (.int x13), some (.int x14), some (.int w3), some (.int x6), some (.int x10)]) dX7_costOfTaking_66 rfl (Nat.le_of_ble_eq_true rfl) (Nat.le_of_ble_eq_true rfl) rfl ?_
        refine me_iinc (pc' := 71) (i := 5) (x := w3) (y := w3 + 1) (L' := [some (.ref o), some (.ref 347), none, some (.int x13), some (.int x14), some (.int (w3 + 1)), some (.int x6), some (.int x10)]) dX7_costOfTaking_68 rfl (Nat.le_of_ble_eq_true rfl) (Nat.le_of_ble_eq_true rfl) rfl (kc_plus kc_i1) rfl ?_
        refine mm_bnd (w3 + 1) (fun x15 => [some (.ref o), some (.ref 347), none, some (.int x13), some (.int x14), some (.int x15), some (.int x6), some (.int x10)]) (fun _ => []) (fun _ => h) (fun x15 => ?_)
        refine me_goto (tgt := 8) dX7_costOfTaking_71 (by decide) ?_
        exact mm_maskB [true, true, false, true, true, true, false, false] (ih x13 x14 x15)
theorem rX7_costOfTaking {q : mm_q} (o : Nat) (p1 : Int32) (h : mm_H) (ho : mm_kd o = (0, 7)) : mm_R2 (mm_Sq q) (mm_Sq q) mX7_costOfTaking [.ref o, .ref 347, .int p1] h (gX7_costOfTaking o p1 h) (lf_i h) := by
  refine mm_body (L := [some (.ref o), some (.ref 347), some (.int p1), none, none, none, none, none]) rfl (by decide +kernel) (Nat.le_of_ble_eq_true rfl) rfl ?_
  unfold gX7_costOfTaking
  refine me_iconst (pc' := 1) (v := 0) dX7_costOfTaking_0 rfl kc_i0 ?_
  refine me_istore_n (pc' := 2) (i := 3) (L' := [some (.ref o), some (.ref 347), some (.int p1), some (.int 0), none, none, none, none]) dX7_costOfTaking_1 rfl rfl (Nat.le_of_ble_eq_true rfl) (Nat.le_of_ble_eq_true rfl) rfl ?_
  refine me_iload_n (pc' := 3) (i := 2) dX7_costOfTaking_2 rfl rfl rfl ?_
  refine me_istore (pc' := 5) (i := 4) (L' := [some (.ref o), some (.ref 347), some (.int p1), some (.int 0), some (.int p1), none, none, none]) dX7_costOfTaking_3 rfl (Nat.le_of_ble_eq_true rfl) (Nat.le_of_ble_eq_true rfl) rfl ?_
  refine me_iconst (pc' := 6) (v := 0) dX7_costOfTaking_5 rfl kc_i0 ?_
  refine me_istore (pc' := 8) (i := 5) (L' := [some (.ref o), some (.ref 347), some (.int p1), some (.int 0), some (.int p1), some (.int 0), none, none]) dX7_costOfTaking_6 rfl (Nat.le_of_ble_eq_true rfl) (Nat.le_of_ble_eq_true rfl) rfl ?_
  exact mm_maskB [true, true, false, true, true, true, false, false] (rX7_costOfTaking_L8 (q := q) o h ho mm_F 0 p1 0)
def gX7_hasReservation (o : Nat) (p0 : Int32) (h : mm_H) : Option Bool :=
if p0 < 0 then
some false
else
if p0 < (mh_I h o 7) then
some true
else
some false
theorem rX7_hasReservation {q : mm_q} (o : Nat) (p0 : Int32) (h : mm_H) (ho : mm_kd o = (0, 7)) : mm_R2 (mm_Sq q) (mm_Sq q) mX7_hasReservation [.ref o, .int p0] h (gX7_hasReservation o p0 h) (lf_z h) := by
  refine mm_body (L := [some (.ref o), some (.int p0)]) rfl (by decide +kernel) (Nat.le_of_ble_eq_true rfl) rfl ?_
  unfold gX7_hasReservation
  refine me_iload_n (pc' := 1) (i := 1) dX7_hasReservation_0 rfl rfl rfl ?_
  refine me_if_lt (pc' := 4) (tgt := 16) dX7_hasReservation_1 (by decide) rfl (fun c1 => ?_) (fun c1 => ?_)
  · refine me_iconst (pc' := 17) (v := 0) dX7_hasReservation_16 rfl kc_i0 ?_
    exact me_zret (b := false) dX7_hasReservation_17 rfl (fun z => z) rfl
  · refine me_iload_n (pc' := 5) (i := 1) dX7_hasReservation_4 rfl rfl rfl ?_
    refine me_aload_n (pc' := 6) (i := 0) dX7_hasReservation_5 rfl rfl rfl ?_
    refine me_getI (pc' := 9) dX7_hasReservation_6 rfl fkX7_69 (mm_ks ho) (mm_ltq ho) rfl ?_
    refine me_icmp_ge (pc' := 12) (tgt := 16) dX7_hasReservation_9 (by decide) rfl (fun c2 => ?_) (fun c2 => ?_)
    · refine me_iconst (pc' := 17) (v := 0) dX7_hasReservation_16 rfl kc_i0 ?_
      exact me_zret (b := false) dX7_hasReservation_17 rfl (fun z => z) rfl
    · refine me_iconst (pc' := 13) (v := 1) dX7_hasReservation_12 rfl kc_i1 ?_
      refine me_goto (tgt := 17) dX7_hasReservation_13 (by decide) ?_
      exact me_zret (b := true) dX7_hasReservation_17 rfl (fun z => z) rfl
def gX7_isPending (o : Nat) (p0 : Int32) (h : mm_H) : Option Bool :=
(gX4_get ((o + 17)) p0 h).bind (fun (x1 : Int32) =>
if x1 = 0 then
some true
else
some false)
theorem rX7_isPending {q : mm_q} (o : Nat) (p0 : Int32) (h : mm_H) (ho : mm_kd o = (0, 7)) : mm_R2 (mm_Sq q) (mm_Sq q) mX7_isPending [.ref o, .int p0] h (gX7_isPending o p0 h) (lf_z h) := by
  refine mm_body (L := [some (.ref o), some (.int p0)]) rfl (by decide +kernel) (Nat.le_of_ble_eq_true rfl) rfl ?_
  unfold gX7_isPending
  refine me_aload_n (pc' := 1) (i := 0) dX7_isPending_0 rfl rfl rfl ?_
  refine me_getR (pc' := 4) (q' := (o + 17)) dX7_isPending_1 rfl fkX7_41 (mm_ks ho) (mm_ltq ho) rfl (mrX7_11 ho) ?_
  refine me_iload_n (pc' := 5) (i := 1) dX7_isPending_4 rfl rfl rfl ?_
  refine me_callV (As := [.int p0]) (st := []) (F' := (mm_Sq q)) (G' := (mm_Sq q)) (F'' := (mm_Sq q)) (pc' := 8) dX7_isPending_5 rfl mfX4_get rfl lkX7_79 (mm_ks (kdX7_11 ho)) rfl (mm_ltq (kdX7_11 ho)) ⟨Nat.le_of_ble_eq_true rfl, Nat.le_of_ble_eq_true rfl⟩ (Nat.le_of_ble_eq_true rfl) (fun z => z) (rX4_get (q := q) ((o + 17)) p0 h (kdX7_11 ho)) (fun x1 e2 => Or.inl ⟨_, _, rfl, fun z => z, ?_⟩)
  show mm_E2 _ _ _ _ _ [.int x1] h _ _
  refine me_if_ne (pc' := 11) (tgt := 15) dX7_isPending_8 (by decide) rfl (fun c3 => ?_) (fun c3 => ?_)
  · refine me_iconst (pc' := 16) (v := 0) dX7_isPending_15 rfl kc_i0 ?_
    exact me_zret (b := false) dX7_isPending_16 rfl (fun z => z) rfl
  · refine me_iconst (pc' := 12) (v := 1) dX7_isPending_11 rfl kc_i1 ?_
    refine me_goto (tgt := 16) dX7_isPending_12 (by decide) ?_
    exact me_zret (b := true) dX7_isPending_16 rfl (fun z => z) rfl
def gX7_allUnitsAllocated_L4 (o : Nat) (u1 : Int32) (h : mm_H) : Nat → Int32 → Int32 → Option Int32
  | 0, _, _ => none
  | n + 1, w2, w3 =>
    if w3 < (mh_I h o 1) then
    (gX4_get ((o + 19)) (((u1 * 20) + w3)) h).bind (fun (x5 : Int32) =>
    (some ((w2 + x5))).bind (fun (x7 : Int32) =>
    (some (w3 + 1)).bind (fun (x8 : Int32) =>
    gX7_allUnitsAllocated_L4 o u1 h n x7 x8)))
    else
    some w2
def gX7_allUnitsAllocated (o : Nat) (p0 : Int32) (h : mm_H) : Option Int32 :=
gX7_allUnitsAllocated_L4 o p0 h mm_F 0 0
theorem rX7_allUnitsAllocated_L4 {q : mm_q} (o : Nat) (u1 : Int32)  (h : mm_H) (ho : mm_kd o = (0, 7)) : ∀ (n : Nat) (w2 : Int32) (w3 : Int32), mm_E2 (mm_Sq q) (mm_Sq q) mX7_allUnitsAllocated 4 [some (.ref o), some (.int u1), some (.int w2), some (.int w3)] [] h (gX7_allUnitsAllocated_L4 o u1 h n w2 w3) (lf_i h) := by
  intro n
  induction n with
  | zero =>
    intro w2 w3
    exact mm_none
  | succ n ih =>
    intro w2 w3
    rw [gX7_allUnitsAllocated_L4]
    refine me_iload_n (pc' := 5) (i := 3) dX7_allUnitsAllocated_4 rfl rfl rfl ?_
    refine me_aload_n (pc' := 6) (i := 0) dX7_allUnitsAllocated_5 rfl rfl rfl ?_
    refine me_getI (pc' := 9) dX7_allUnitsAllocated_6 rfl fkX7_66 (mm_ks ho) (mm_ltq ho) rfl ?_
    refine me_icmp_ge (pc' := 12) (tgt := 34) dX7_allUnitsAllocated_9 (by decide) rfl (fun c4 => ?_) (fun c4 => ?_)
    · refine me_iload_n (pc' := 35) (i := 2) dX7_allUnitsAllocated_34 rfl rfl rfl ?_
      exact me_iret dX7_allUnitsAllocated_35 rfl (fun z => z) rfl
    · refine me_iload_n (pc' := 13) (i := 2) dX7_allUnitsAllocated_12 rfl rfl rfl ?_
      refine me_aload_n (pc' := 14) (i := 0) dX7_allUnitsAllocated_13 rfl rfl rfl ?_
      refine me_getR (pc' := 17) (q' := (o + 19)) dX7_allUnitsAllocated_14 rfl fkX7_44 (mm_ks ho) (mm_ltq ho) rfl (mrX7_12 ho) ?_
      refine me_iload_n (pc' := 18) (i := 1) dX7_allUnitsAllocated_17 rfl rfl rfl ?_
      refine me_bipush (pc' := 20) (v := 20) dX7_allUnitsAllocated_18 rfl kc_b20 ?_
      refine me_imul (pc' := 21) dX7_allUnitsAllocated_20 rfl ?_
      refine me_iload_n (pc' := 22) (i := 3) dX7_allUnitsAllocated_21 rfl rfl rfl ?_
      refine me_iadd (pc' := 23) dX7_allUnitsAllocated_22 rfl ?_
      refine me_callV (As := [.int ((u1 * 20) + w3)]) (st := [.int w2]) (F' := (mm_Sq q)) (G' := (mm_Sq q)) (F'' := (mm_Sq q)) (pc' := 26) dX7_allUnitsAllocated_23 rfl mfX4_get rfl lkX7_79 (mm_ks (kdX7_12 ho)) rfl (mm_ltq (kdX7_12 ho)) ⟨Nat.le_of_ble_eq_true rfl, Nat.le_of_ble_eq_true rfl⟩ (Nat.le_of_ble_eq_true rfl) (fun z => z) (rX4_get (q := q) ((o + 19)) (((u1 * 20) + w3)) h (kdX7_12 ho)) (fun x5 e6 => Or.inl ⟨_, _, rfl, fun z => z, ?_⟩)
      show mm_E2 _ _ _ _ _ [.int x5, .int w2] h _ _
      refine me_iadd (pc' := 27) dX7_allUnitsAllocated_26 rfl ?_
      refine mm_bnd ((w2 + x5)) (fun x7 => [some (.ref o), some (.int u1), some (.int w2), some (.int w3)]) (fun x7 => [.int x7]) (fun _ => h) (fun x7 => ?_)
      refine me_istore_n (pc' := 28) (i := 2) (L' := [some (.ref o), some (.int u1), some (.int x7), some (.int w3)]) dX7_allUnitsAllocated_27 rfl rfl (Nat.le_of_ble_eq_true rfl) (Nat.le_of_ble_eq_true rfl) rfl ?_
      refine me_iinc (pc' := 31) (i := 3) (x := w3) (y := w3 + 1) (L' := [some (.ref o), some (.int u1), some (.int x7), some (.int (w3 + 1))]) dX7_allUnitsAllocated_28 rfl (Nat.le_of_ble_eq_true rfl) (Nat.le_of_ble_eq_true rfl) rfl (kc_plus kc_i1) rfl ?_
      refine mm_bnd (w3 + 1) (fun x8 => [some (.ref o), some (.int u1), some (.int x7), some (.int x8)]) (fun _ => []) (fun _ => h) (fun x8 => ?_)
      refine me_goto (tgt := 4) dX7_allUnitsAllocated_31 (by decide) ?_
      exact ih x7 x8
theorem rX7_allUnitsAllocated {q : mm_q} (o : Nat) (p0 : Int32) (h : mm_H) (ho : mm_kd o = (0, 7)) : mm_R2 (mm_Sq q) (mm_Sq q) mX7_allUnitsAllocated [.ref o, .int p0] h (gX7_allUnitsAllocated o p0 h) (lf_i h) := by
  refine mm_body (L := [some (.ref o), some (.int p0), none, none]) rfl (by decide +kernel) (Nat.le_of_ble_eq_true rfl) rfl ?_
  unfold gX7_allUnitsAllocated
  refine me_iconst (pc' := 1) (v := 0) dX7_allUnitsAllocated_0 rfl kc_i0 ?_
  refine me_istore_n (pc' := 2) (i := 2) (L' := [some (.ref o), some (.int p0), some (.int 0), none]) dX7_allUnitsAllocated_1 rfl rfl (Nat.le_of_ble_eq_true rfl) (Nat.le_of_ble_eq_true rfl) rfl ?_
  refine me_iconst (pc' := 3) (v := 0) dX7_allUnitsAllocated_2 rfl kc_i0 ?_
  refine me_istore_n (pc' := 4) (i := 3) (L' := [some (.ref o), some (.int p0), some (.int 0), some (.int 0)]) dX7_allUnitsAllocated_3 rfl rfl (Nat.le_of_ble_eq_true rfl) (Nat.le_of_ble_eq_true rfl) rfl ?_
  exact rX7_allUnitsAllocated_L4 (q := q) o p0 h ho mm_F 0 0
def gX7_missingUnits (o : Nat) (p0 : Int32) (h : mm_H) : Option Int32 :=
(gX7_isPending o p0 h).bind (fun (x1 : Bool) =>
if x1 = true then
(gX4_get ((o + 13)) p0 h).bind (fun (x4 : Int32) =>
(gX7_allUnitsAllocated o p0 h).bind (fun (x6 : Int32) =>
some ((x4 - x6))))
else
some 0)
theorem rX7_missingUnits {q : mm_q} (o : Nat) (p0 : Int32) (h : mm_H) (ho : mm_kd o = (0, 7)) : mm_R2 (mm_Sq q) (mm_Sq q) mX7_missingUnits [.ref o, .int p0] h (gX7_missingUnits o p0 h) (lf_i h) := by
  refine mm_body (L := [some (.ref o), some (.int p0)]) rfl (by decide +kernel) (Nat.le_of_ble_eq_true rfl) rfl ?_
  unfold gX7_missingUnits
  refine me_aload_n (pc' := 1) (i := 0) dX7_missingUnits_0 rfl rfl rfl ?_
  refine me_iload_n (pc' := 2) (i := 1) dX7_missingUnits_1 rfl rfl rfl ?_
  refine me_callV (As := [.int p0]) (st := []) (F' := (mm_Sq q)) (G' := (mm_Sq q)) (F'' := (mm_Sq q)) (pc' := 5) dX7_missingUnits_2 rfl mfX7_isPending rfl lkX7_113 (mm_ks ho) rfl (mm_ltq ho) ⟨Nat.le_of_ble_eq_true rfl, Nat.le_of_ble_eq_true rfl⟩ (Nat.le_of_ble_eq_true rfl) (fun z => z) (rX7_isPending (q := q) o p0 h ho) (fun x1 e2 => Or.inl ⟨_, _, rfl, fun z => z, ?_⟩)
  show mm_E2 _ _ _ _ _ [.int (mx_bi x1)] h _ _
  refine me_ifB_eq (pc' := 8) (tgt := 25) dX7_missingUnits_5 (by decide) rfl (fun c3 => ?_) (fun c3 => ?_)
  · refine me_iconst (pc' := 26) (v := 0) dX7_missingUnits_25 rfl kc_i0 ?_
    exact me_iret dX7_missingUnits_26 rfl (fun z => z) rfl
  · refine me_aload_n (pc' := 9) (i := 0) dX7_missingUnits_8 rfl rfl rfl ?_
    refine me_getR (pc' := 12) (q' := (o + 13)) dX7_missingUnits_9 rfl fkX7_35 (mm_ks ho) (mm_ltq ho) rfl (mrX7_9 ho) ?_
    refine me_iload_n (pc' := 13) (i := 1) dX7_missingUnits_12 rfl rfl rfl ?_
    refine me_callV (As := [.int p0]) (st := []) (F' := (mm_Sq q)) (G' := (mm_Sq q)) (F'' := (mm_Sq q)) (pc' := 16) dX7_missingUnits_13 rfl mfX4_get rfl lkX7_79 (mm_ks (kdX7_9 ho)) rfl (mm_ltq (kdX7_9 ho)) ⟨Nat.le_of_ble_eq_true rfl, Nat.le_of_ble_eq_true rfl⟩ (Nat.le_of_ble_eq_true rfl) (fun z => z) (rX4_get (q := q) ((o + 13)) p0 h (kdX7_9 ho)) (fun x4 e5 => Or.inl ⟨_, _, rfl, fun z => z, ?_⟩)
    show mm_E2 _ _ _ _ _ [.int x4] h _ _
    refine me_aload_n (pc' := 17) (i := 0) dX7_missingUnits_16 rfl rfl rfl ?_
    refine me_iload_n (pc' := 18) (i := 1) dX7_missingUnits_17 rfl rfl rfl ?_
    refine me_callV (As := [.int p0]) (st := [.int x4]) (F' := (mm_Sq q)) (G' := (mm_Sq q)) (F'' := (mm_Sq q)) (pc' := 21) dX7_missingUnits_18 rfl mfX7_allUnitsAllocated rfl lkX7_117 (mm_ks ho) rfl (mm_ltq ho) ⟨Nat.le_of_ble_eq_true rfl, Nat.le_of_ble_eq_true rfl⟩ (Nat.le_of_ble_eq_true rfl) (fun z => z) (rX7_allUnitsAllocated (q := q) o p0 h ho) (fun x6 e7 => Or.inl ⟨_, _, rfl, fun z => z, ?_⟩)
    show mm_E2 _ _ _ _ _ [.int x6, .int x4] h _ _
    refine me_isub (pc' := 22) dX7_missingUnits_21 rfl ?_
    refine me_goto (tgt := 26) dX7_missingUnits_22 (by decide) ?_
    exact me_iret dX7_missingUnits_26 rfl (fun z => z) rfl
def gX7_allocatedUnits (o : Nat) (p0 : Int32) (p1 : Int32) (h : mm_H) : Option Int32 :=
(gX4_get ((o + 19)) (((p0 * 20) + p1)) h).bind (fun (x1 : Int32) =>
some x1)
theorem rX7_allocatedUnits {q : mm_q} (o : Nat) (p0 : Int32) (p1 : Int32) (h : mm_H) (ho : mm_kd o = (0, 7)) : mm_R2 (mm_Sq q) (mm_Sq q) mX7_allocatedUnits [.ref o, .int p0, .int p1] h (gX7_allocatedUnits o p0 p1 h) (lf_i h) := by
  refine mm_body (L := [some (.ref o), some (.int p0), some (.int p1)]) rfl (by decide +kernel) (Nat.le_of_ble_eq_true rfl) rfl ?_
  unfold gX7_allocatedUnits
  refine me_aload_n (pc' := 1) (i := 0) dX7_allocatedUnits_0 rfl rfl rfl ?_
  refine me_getR (pc' := 4) (q' := (o + 19)) dX7_allocatedUnits_1 rfl fkX7_44 (mm_ks ho) (mm_ltq ho) rfl (mrX7_12 ho) ?_
  refine me_iload_n (pc' := 5) (i := 1) dX7_allocatedUnits_4 rfl rfl rfl ?_
  refine me_bipush (pc' := 7) (v := 20) dX7_allocatedUnits_5 rfl kc_b20 ?_
  refine me_imul (pc' := 8) dX7_allocatedUnits_7 rfl ?_
  refine me_iload_n (pc' := 9) (i := 2) dX7_allocatedUnits_8 rfl rfl rfl ?_
  refine me_iadd (pc' := 10) dX7_allocatedUnits_9 rfl ?_
  refine me_callV (As := [.int ((p0 * 20) + p1)]) (st := []) (F' := (mm_Sq q)) (G' := (mm_Sq q)) (F'' := (mm_Sq q)) (pc' := 13) dX7_allocatedUnits_10 rfl mfX4_get rfl lkX7_79 (mm_ks (kdX7_12 ho)) rfl (mm_ltq (kdX7_12 ho)) ⟨Nat.le_of_ble_eq_true rfl, Nat.le_of_ble_eq_true rfl⟩ (Nat.le_of_ble_eq_true rfl) (fun z => z) (rX4_get (q := q) ((o + 19)) (((p0 * 20) + p1)) h (kdX7_12 ho)) (fun x1 e2 => Or.inl ⟨_, _, rfl, fun z => z, ?_⟩)
  show mm_E2 _ _ _ _ _ [.int x1] h _ _
  exact me_iret dX7_allocatedUnits_13 rfl (fun z => z) rfl
def gX7_holdsExpiringBefore_L2 (o : Nat) (u1 : Int32) (u2 : Int32) (h : mm_H) : Nat → Int32 → Option Bool
  | 0, _ => none
  | n + 1, w3 =>
    if w3 < (mh_I h o 1) then
    (gX7_allocatedUnits o u1 w3 h).bind (fun (x5 : Int32) =>
    mm_jn (fun (_ : Unit) =>
    (some (w3 + 1)).bind (fun (x8 : Int32) =>
    gX7_holdsExpiringBefore_L2 o u1 u2 h n x8)) (fun (j7 : Unit → Option Bool) =>
    if 0 < x5 then
    (gX7_lastsUntil o w3 u2 h).bind (fun (x10 : Bool) =>
    if x10 = true then
    j7 ()
    else
    some true)
    else
    j7 ()))
    else
    some false
def gX7_holdsExpiringBefore (o : Nat) (p0 : Int32) (p1 : Int32) (h : mm_H) : Option Bool :=
gX7_holdsExpiringBefore_L2 o p0 p1 h mm_F 0
theorem rX7_holdsExpiringBefore_L2 {q : mm_q} (o : Nat) (u1 : Int32) (u2 : Int32)  (h : mm_H) (ho : mm_kd o = (0, 7)) : ∀ (n : Nat) (w3 : Int32), mm_E2 (mm_Sq q) (mm_Sq q) mX7_holdsExpiringBefore 2 [some (.ref o), some (.int u1), some (.int u2), some (.int w3)] [] h (gX7_holdsExpiringBefore_L2 o u1 u2 h n w3) (lf_z h) := by
  intro n
  induction n with
  | zero =>
    intro w3
    exact mm_none
  | succ n ih =>
    intro w3
    rw [gX7_holdsExpiringBefore_L2]
    refine me_iload_n (pc' := 3) (i := 3) dX7_holdsExpiringBefore_2 rfl rfl rfl ?_
    refine me_aload_n (pc' := 4) (i := 0) dX7_holdsExpiringBefore_3 rfl rfl rfl ?_
    refine me_getI (pc' := 7) dX7_holdsExpiringBefore_4 rfl fkX7_66 (mm_ks ho) (mm_ltq ho) rfl ?_
    refine me_icmp_ge (pc' := 10) (tgt := 36) dX7_holdsExpiringBefore_7 (by decide) rfl (fun c4 => ?_) (fun c4 => ?_)
    · refine me_iconst (pc' := 37) (v := 0) dX7_holdsExpiringBefore_36 rfl kc_i0 ?_
      exact me_zret (b := false) dX7_holdsExpiringBefore_37 rfl (fun z => z) rfl
    · refine me_aload_n (pc' := 11) (i := 0) dX7_holdsExpiringBefore_10 rfl rfl rfl ?_
      refine me_iload_n (pc' := 12) (i := 1) dX7_holdsExpiringBefore_11 rfl rfl rfl ?_
      refine me_iload_n (pc' := 13) (i := 3) dX7_holdsExpiringBefore_12 rfl rfl rfl ?_
      refine me_callV (As := [.int u1, .int w3]) (st := []) (F' := (mm_Sq q)) (G' := (mm_Sq q)) (F'' := (mm_Sq q)) (pc' := 16) dX7_holdsExpiringBefore_13 rfl mfX7_allocatedUnits rfl lkX7_129 (mm_ks ho) rfl (mm_ltq ho) ⟨Nat.le_of_ble_eq_true rfl, Nat.le_of_ble_eq_true rfl⟩ (Nat.le_of_ble_eq_true rfl) (fun z => z) (rX7_allocatedUnits (q := q) o u1 w3 h ho) (fun x5 e6 => Or.inl ⟨_, _, rfl, fun z => z, ?_⟩)
      show mm_E2 _ _ _ _ _ [.int x5] h _ _
      refine mm_jnI (fun (j79 : Unit → Option Bool) => ∀ (_ : Unit), mm_E2 (mm_Sq q) (mm_Sq q) mX7_holdsExpiringBefore 30 [some (.ref o), some (.int u1), some (.int u2), some (.int w3)] [] h (j79 ()) (lf_z h)) ?_ (fun j7 j7p => ?_)
      · intro _
        refine me_iinc (pc' := 33) (i := 3) (x := w3) (y := w3 + 1) (L' := [some (.ref o), some (.int u1), some (.int u2), some (.int (w3 + 1))]) dX7_holdsExpiringBefore_30 rfl (Nat.le_of_ble_eq_true rfl) (Nat.le_of_ble_eq_true rfl) rfl (kc_plus kc_i1) rfl ?_
        refine mm_bnd (w3 + 1) (fun x8 => [some (.ref o), some (.int u1), some (.int u2), some (.int x8)]) (fun _ => []) (fun _ => h) (fun x8 => ?_)
        refine me_goto (tgt := 2) dX7_holdsExpiringBefore_33 (by decide) ?_
        exact ih x8
      refine me_if_le (pc' := 19) (tgt := 30) dX7_holdsExpiringBefore_16 (by decide) rfl (fun c9 => ?_) (fun c9 => ?_)
      · exact j7p ()
      · refine me_aload_n (pc' := 20) (i := 0) dX7_holdsExpiringBefore_19 rfl rfl rfl ?_
        refine me_iload_n (pc' := 21) (i := 3) dX7_holdsExpiringBefore_20 rfl rfl rfl ?_
        refine me_iload_n (pc' := 22) (i := 2) dX7_holdsExpiringBefore_21 rfl rfl rfl ?_
        refine me_callV (As := [.int w3, .int u2]) (st := []) (F' := (mm_Sq q)) (G' := (mm_Sq q)) (F'' := (mm_Sq q)) (pc' := 25) dX7_holdsExpiringBefore_22 rfl mfX7_lastsUntil rfl lkX7_92 (mm_ks ho) rfl (mm_ltq ho) ⟨Nat.le_of_ble_eq_true rfl, Nat.le_of_ble_eq_true rfl⟩ (Nat.le_of_ble_eq_true rfl) (fun z => z) (rX7_lastsUntil (q := q) o w3 u2 h ho) (fun x10 e11 => Or.inl ⟨_, _, rfl, fun z => z, ?_⟩)
        show mm_E2 _ _ _ _ _ [.int (mx_bi x10)] h _ _
        refine me_ifB_ne (pc' := 28) (tgt := 30) dX7_holdsExpiringBefore_25 (by decide) rfl (fun c12 => ?_) (fun c12 => ?_)
        · exact j7p ()
        · refine me_iconst (pc' := 29) (v := 1) dX7_holdsExpiringBefore_28 rfl kc_i1 ?_
          exact me_zret (b := true) dX7_holdsExpiringBefore_29 rfl (fun z => z) rfl
theorem rX7_holdsExpiringBefore {q : mm_q} (o : Nat) (p0 : Int32) (p1 : Int32) (h : mm_H) (ho : mm_kd o = (0, 7)) : mm_R2 (mm_Sq q) (mm_Sq q) mX7_holdsExpiringBefore [.ref o, .int p0, .int p1] h (gX7_holdsExpiringBefore o p0 p1 h) (lf_z h) := by
  refine mm_body (L := [some (.ref o), some (.int p0), some (.int p1), none]) rfl (by decide +kernel) (Nat.le_of_ble_eq_true rfl) rfl ?_
  unfold gX7_holdsExpiringBefore
  refine me_iconst (pc' := 1) (v := 0) dX7_holdsExpiringBefore_0 rfl kc_i0 ?_
  refine me_istore_n (pc' := 2) (i := 3) (L' := [some (.ref o), some (.int p0), some (.int p1), some (.int 0)]) dX7_holdsExpiringBefore_1 rfl rfl (Nat.le_of_ble_eq_true rfl) (Nat.le_of_ble_eq_true rfl) rfl ?_
  exact rX7_holdsExpiringBefore_L2 (q := q) o p0 p1 h ho mm_F 0
def gX7_shippingObstacle (o : Nat) (p0 : Int32) (h : mm_H) : Option Int32 :=
(gX7_isPending o p0 h).bind (fun (x1 : Bool) =>
if x1 = true then
(gX7_missingUnits o p0 h).bind (fun (x4 : Int32) =>
if 0 < x4 then
some 2
else
(gX7_holdsExpiringBefore o p0 ((mh_I h o 0)) h).bind (fun (x7 : Bool) =>
if x7 = true then
some 3
else
some 0))
else
some 1)
theorem rX7_shippingObstacle {q : mm_q} (o : Nat) (p0 : Int32) (h : mm_H) (ho : mm_kd o = (0, 7)) : mm_R2 (mm_Sq q) (mm_Sq q) mX7_shippingObstacle [.ref o, .int p0] h (gX7_shippingObstacle o p0 h) (lf_i h) := by
  refine mm_body (L := [some (.ref o), some (.int p0)]) rfl (by decide +kernel) (Nat.le_of_ble_eq_true rfl) rfl ?_
  unfold gX7_shippingObstacle
  refine me_aload_n (pc' := 1) (i := 0) dX7_shippingObstacle_0 rfl rfl rfl ?_
  refine me_iload_n (pc' := 2) (i := 1) dX7_shippingObstacle_1 rfl rfl rfl ?_
  refine me_callV (As := [.int p0]) (st := []) (F' := (mm_Sq q)) (G' := (mm_Sq q)) (F'' := (mm_Sq q)) (pc' := 5) dX7_shippingObstacle_2 rfl mfX7_isPending rfl lkX7_113 (mm_ks ho) rfl (mm_ltq ho) ⟨Nat.le_of_ble_eq_true rfl, Nat.le_of_ble_eq_true rfl⟩ (Nat.le_of_ble_eq_true rfl) (fun z => z) (rX7_isPending (q := q) o p0 h ho) (fun x1 e2 => Or.inl ⟨_, _, rfl, fun z => z, ?_⟩)
  show mm_E2 _ _ _ _ _ [.int (mx_bi x1)] h _ _
  refine me_ifB_ne (pc' := 8) (tgt := 10) dX7_shippingObstacle_5 (by decide) rfl (fun c3 => ?_) (fun c3 => ?_)
  · refine me_aload_n (pc' := 11) (i := 0) dX7_shippingObstacle_10 rfl rfl rfl ?_
    refine me_iload_n (pc' := 12) (i := 1) dX7_shippingObstacle_11 rfl rfl rfl ?_
    refine me_callV (As := [.int p0]) (st := []) (F' := (mm_Sq q)) (G' := (mm_Sq q)) (F'' := (mm_Sq q)) (pc' := 15) dX7_shippingObstacle_12 rfl mfX7_missingUnits rfl lkX7_120 (mm_ks ho) rfl (mm_ltq ho) ⟨Nat.le_of_ble_eq_true rfl, Nat.le_of_ble_eq_true rfl⟩ (Nat.le_of_ble_eq_true rfl) (fun z => z) (rX7_missingUnits (q := q) o p0 h ho) (fun x4 e5 => Or.inl ⟨_, _, rfl, fun z => z, ?_⟩)
    show mm_E2 _ _ _ _ _ [.int x4] h _ _
    refine me_if_le (pc' := 18) (tgt := 20) dX7_shippingObstacle_15 (by decide) rfl (fun c6 => ?_) (fun c6 => ?_)
    · refine me_aload_n (pc' := 21) (i := 0) dX7_shippingObstacle_20 rfl rfl rfl ?_
      refine me_iload_n (pc' := 22) (i := 1) dX7_shippingObstacle_21 rfl rfl rfl ?_
      refine me_aload_n (pc' := 23) (i := 0) dX7_shippingObstacle_22 rfl rfl rfl ?_
      refine me_getI (pc' := 26) dX7_shippingObstacle_23 rfl fkX7_62 (mm_ks ho) (mm_ltq ho) rfl ?_
      refine me_callV (As := [.int p0, .int (mh_I h o 0)]) (st := []) (F' := (mm_Sq q)) (G' := (mm_Sq q)) (F'' := (mm_Sq q)) (pc' := 29) dX7_shippingObstacle_26 rfl mfX7_holdsExpiringBefore rfl lkX7_123 (mm_ks ho) rfl (mm_ltq ho) ⟨Nat.le_of_ble_eq_true rfl, Nat.le_of_ble_eq_true rfl⟩ (Nat.le_of_ble_eq_true rfl) (fun z => z) (rX7_holdsExpiringBefore (q := q) o p0 ((mh_I h o 0)) h ho) (fun x7 e8 => Or.inl ⟨_, _, rfl, fun z => z, ?_⟩)
      show mm_E2 _ _ _ _ _ [.int (mx_bi x7)] h _ _
      refine me_ifB_eq (pc' := 32) (tgt := 36) dX7_shippingObstacle_29 (by decide) rfl (fun c9 => ?_) (fun c9 => ?_)
      · refine me_iconst (pc' := 37) (v := 0) dX7_shippingObstacle_36 rfl kc_i0 ?_
        exact me_iret dX7_shippingObstacle_37 rfl (fun z => z) rfl
      · refine me_iconst (pc' := 33) (v := 3) dX7_shippingObstacle_32 rfl kc_i3 ?_
        refine me_goto (tgt := 37) dX7_shippingObstacle_33 (by decide) ?_
        exact me_iret dX7_shippingObstacle_37 rfl (fun z => z) rfl
    · refine me_iconst (pc' := 19) (v := 2) dX7_shippingObstacle_18 rfl kc_i2 ?_
      exact me_iret dX7_shippingObstacle_19 rfl (fun z => z) rfl
  · refine me_iconst (pc' := 9) (v := 1) dX7_shippingObstacle_8 rfl kc_i1 ?_
    exact me_iret dX7_shippingObstacle_9 rfl (fun z => z) rfl
def gX7_unitsByAccounts (o : Nat) (p0 : Int32) (h : mm_H) : Option Int32 :=
(gX4_get ((o + 23)) p0 h).bind (fun (x1 : Int32) =>
(gX4_get ((o + 25)) p0 h).bind (fun (x3 : Int32) =>
(gX4_get ((o + 27)) p0 h).bind (fun (x5 : Int32) =>
(some (((x1 + x3) + x5))).bind (fun (x7 : Int32) =>
(gX4_get ((o + 21)) p0 h).bind (fun (x8 : Int32) =>
(gX4_get ((o + 29)) p0 h).bind (fun (x10 : Int32) =>
some (((x8 - x7) + x10))))))))
theorem rX7_unitsByAccounts {q : mm_q} (o : Nat) (p0 : Int32) (h : mm_H) (ho : mm_kd o = (0, 7)) : mm_R2 (mm_Sq q) (mm_Sq q) mX7_unitsByAccounts [.ref o, .int p0] h (gX7_unitsByAccounts o p0 h) (lf_i h) := by
  refine mm_body (L := [some (.ref o), some (.int p0), none]) rfl (by decide +kernel) (Nat.le_of_ble_eq_true rfl) rfl ?_
  unfold gX7_unitsByAccounts
  refine me_aload_n (pc' := 1) (i := 0) dX7_unitsByAccounts_0 rfl rfl rfl ?_
  refine me_getR (pc' := 4) (q' := (o + 23)) dX7_unitsByAccounts_1 rfl fkX7_50 (mm_ks ho) (mm_ltq ho) rfl (mrX7_14 ho) ?_
  refine me_iload_n (pc' := 5) (i := 1) dX7_unitsByAccounts_4 rfl rfl rfl ?_
  refine me_callV (As := [.int p0]) (st := []) (F' := (mm_Sq q)) (G' := (mm_Sq q)) (F'' := (mm_Sq q)) (pc' := 8) dX7_unitsByAccounts_5 rfl mfX4_get rfl lkX7_79 (mm_ks (kdX7_14 ho)) rfl (mm_ltq (kdX7_14 ho)) ⟨Nat.le_of_ble_eq_true rfl, Nat.le_of_ble_eq_true rfl⟩ (Nat.le_of_ble_eq_true rfl) (fun z => z) (rX4_get (q := q) ((o + 23)) p0 h (kdX7_14 ho)) (fun x1 e2 => Or.inl ⟨_, _, rfl, fun z => z, ?_⟩)
  show mm_E2 _ _ _ _ _ [.int x1] h _ _
  refine me_aload_n (pc' := 9) (i := 0) dX7_unitsByAccounts_8 rfl rfl rfl ?_
  refine me_getR (pc' := 12) (q' := (o + 25)) dX7_unitsByAccounts_9 rfl fkX7_53 (mm_ks ho) (mm_ltq ho) rfl (mrX7_15 ho) ?_
  refine me_iload_n (pc' := 13) (i := 1) dX7_unitsByAccounts_12 rfl rfl rfl ?_
  refine me_callV (As := [.int p0]) (st := [.int x1]) (F' := (mm_Sq q)) (G' := (mm_Sq q)) (F'' := (mm_Sq q)) (pc' := 16) dX7_unitsByAccounts_13 rfl mfX4_get rfl lkX7_79 (mm_ks (kdX7_15 ho)) rfl (mm_ltq (kdX7_15 ho)) ⟨Nat.le_of_ble_eq_true rfl, Nat.le_of_ble_eq_true rfl⟩ (Nat.le_of_ble_eq_true rfl) (fun z => z) (rX4_get (q := q) ((o + 25)) p0 h (kdX7_15 ho)) (fun x3 e4 => Or.inl ⟨_, _, rfl, fun z => z, ?_⟩)
  show mm_E2 _ _ _ _ _ [.int x3, .int x1] h _ _
  refine me_iadd (pc' := 17) dX7_unitsByAccounts_16 rfl ?_
  refine me_aload_n (pc' := 18) (i := 0) dX7_unitsByAccounts_17 rfl rfl rfl ?_
  refine me_getR (pc' := 21) (q' := (o + 27)) dX7_unitsByAccounts_18 rfl fkX7_56 (mm_ks ho) (mm_ltq ho) rfl (mrX7_16 ho) ?_
  refine me_iload_n (pc' := 22) (i := 1) dX7_unitsByAccounts_21 rfl rfl rfl ?_
  refine me_callV (As := [.int p0]) (st := [.int (x1 + x3)]) (F' := (mm_Sq q)) (G' := (mm_Sq q)) (F'' := (mm_Sq q)) (pc' := 25) dX7_unitsByAccounts_22 rfl mfX4_get rfl lkX7_79 (mm_ks (kdX7_16 ho)) rfl (mm_ltq (kdX7_16 ho)) ⟨Nat.le_of_ble_eq_true rfl, Nat.le_of_ble_eq_true rfl⟩ (Nat.le_of_ble_eq_true rfl) (fun z => z) (rX4_get (q := q) ((o + 27)) p0 h (kdX7_16 ho)) (fun x5 e6 => Or.inl ⟨_, _, rfl, fun z => z, ?_⟩)
  show mm_E2 _ _ _ _ _ [.int x5, .int (x1 + x3)] h _ _
  refine me_iadd (pc' := 26) dX7_unitsByAccounts_25 rfl ?_
  refine mm_bnd (((x1 + x3) + x5)) (fun x7 => [some (.ref o), some (.int p0), none]) (fun x7 => [.int x7]) (fun _ => h) (fun x7 => ?_)
  refine me_istore_n (pc' := 27) (i := 2) (L' := [some (.ref o), some (.int p0), some (.int x7)]) dX7_unitsByAccounts_26 rfl rfl (Nat.le_of_ble_eq_true rfl) (Nat.le_of_ble_eq_true rfl) rfl ?_
  refine me_aload_n (pc' := 28) (i := 0) dX7_unitsByAccounts_27 rfl rfl rfl ?_
  refine me_getR (pc' := 31) (q' := (o + 21)) dX7_unitsByAccounts_28 rfl fkX7_47 (mm_ks ho) (mm_ltq ho) rfl (mrX7_13 ho) ?_
  refine me_iload_n (pc' := 32) (i := 1) dX7_unitsByAccounts_31 rfl rfl rfl ?_
  refine me_callV (As := [.int p0]) (st := []) (F' := (mm_Sq q)) (G' := (mm_Sq q)) (F'' := (mm_Sq q)) (pc' := 35) dX7_unitsByAccounts_32 rfl mfX4_get rfl lkX7_79 (mm_ks (kdX7_13 ho)) rfl (mm_ltq (kdX7_13 ho)) ⟨Nat.le_of_ble_eq_true rfl, Nat.le_of_ble_eq_true rfl⟩ (Nat.le_of_ble_eq_true rfl) (fun z => z) (rX4_get (q := q) ((o + 21)) p0 h (kdX7_13 ho)) (fun x8 e9 => Or.inl ⟨_, _, rfl, fun z => z, ?_⟩)
  show mm_E2 _ _ _ _ _ [.int x8] h _ _
  refine me_iload_n (pc' := 36) (i := 2) dX7_unitsByAccounts_35 rfl rfl rfl ?_
  refine me_isub (pc' := 37) dX7_unitsByAccounts_36 rfl ?_
  refine me_aload_n (pc' := 38) (i := 0) dX7_unitsByAccounts_37 rfl rfl rfl ?_
  refine me_getR (pc' := 41) (q' := (o + 29)) dX7_unitsByAccounts_38 rfl fkX7_59 (mm_ks ho) (mm_ltq ho) rfl (mrX7_17 ho) ?_
  refine me_iload_n (pc' := 42) (i := 1) dX7_unitsByAccounts_41 rfl rfl rfl ?_
  refine me_callV (As := [.int p0]) (st := [.int (x8 - x7)]) (F' := (mm_Sq q)) (G' := (mm_Sq q)) (F'' := (mm_Sq q)) (pc' := 45) dX7_unitsByAccounts_42 rfl mfX4_get rfl lkX7_79 (mm_ks (kdX7_17 ho)) rfl (mm_ltq (kdX7_17 ho)) ⟨Nat.le_of_ble_eq_true rfl, Nat.le_of_ble_eq_true rfl⟩ (Nat.le_of_ble_eq_true rfl) (fun z => z) (rX4_get (q := q) ((o + 29)) p0 h (kdX7_17 ho)) (fun x10 e11 => Or.inl ⟨_, _, rfl, fun z => z, ?_⟩)
  show mm_E2 _ _ _ _ _ [.int x10, .int (x8 - x7)] h _ _
  refine me_iadd (pc' := 46) dX7_unitsByAccounts_45 rfl ?_
  exact me_iret dX7_unitsByAccounts_46 rfl (fun z => z) rfl
def gX7_unitsOf_L4 (o : Nat) (u1 : Int32) (h : mm_H) : Nat → Int32 → Int32 → Option Int32
  | 0, _, _ => none
  | n + 1, w2, w3 =>
    if w3 < (mh_I h o 1) then
    (gX7_isOf o w3 u1 h).bind (fun (x5 : Bool) =>
    mm_jn (fun (y7 : Int32) =>
    (some (w3 + 1)).bind (fun (x9 : Int32) =>
    gX7_unitsOf_L4 o u1 h n y7 x9)) (fun (j8 : Int32 → Option Int32) =>
    if x5 = true then
    (gX4_get ((o + 3)) w3 h).bind (fun (x11 : Int32) =>
    (some ((w2 + x11))).bind (fun (x13 : Int32) =>
    j8 x13))
    else
    j8 w2))
    else
    some w2
def gX7_unitsOf (o : Nat) (p0 : Int32) (h : mm_H) : Option Int32 :=
gX7_unitsOf_L4 o p0 h mm_F 0 0
theorem rX7_unitsOf_L4 {q : mm_q} (o : Nat) (u1 : Int32)  (h : mm_H) (ho : mm_kd o = (0, 7)) : ∀ (n : Nat) (w2 : Int32) (w3 : Int32), mm_E2 (mm_Sq q) (mm_Sq q) mX7_unitsOf 4 [some (.ref o), some (.int u1), some (.int w2), some (.int w3)] [] h (gX7_unitsOf_L4 o u1 h n w2 w3) (lf_i h) := by
  intro n
  induction n with
  | zero =>
    intro w2 w3
    exact mm_none
  | succ n ih =>
    intro w2 w3
    rw [gX7_unitsOf_L4]
    refine me_iload_n (pc' := 5) (i := 3) dX7_unitsOf_4 rfl rfl rfl ?_
    refine me_aload_n (pc' := 6) (i := 0) dX7_unitsOf_5 rfl rfl rfl ?_
    refine me_getI (pc' := 9) dX7_unitsOf_6 rfl fkX7_66 (mm_ks ho) (mm_ltq ho) rfl ?_
    refine me_icmp_ge (pc' := 12) (tgt := 38) dX7_unitsOf_9 (by decide) rfl (fun c4 => ?_) (fun c4 => ?_)
    · refine me_iload_n (pc' := 39) (i := 2) dX7_unitsOf_38 rfl rfl rfl ?_
      exact me_iret dX7_unitsOf_39 rfl (fun z => z) rfl
    · refine me_aload_n (pc' := 13) (i := 0) dX7_unitsOf_12 rfl rfl rfl ?_
      refine me_iload_n (pc' := 14) (i := 3) dX7_unitsOf_13 rfl rfl rfl ?_
      refine me_iload_n (pc' := 15) (i := 1) dX7_unitsOf_14 rfl rfl rfl ?_
      refine me_callV (As := [.int w3, .int u1]) (st := []) (F' := (mm_Sq q)) (G' := (mm_Sq q)) (F'' := (mm_Sq q)) (pc' := 18) dX7_unitsOf_15 rfl mfX7_isOf rfl lkX7_88 (mm_ks ho) rfl (mm_ltq ho) ⟨Nat.le_of_ble_eq_true rfl, Nat.le_of_ble_eq_true rfl⟩ (Nat.le_of_ble_eq_true rfl) (fun z => z) (rX7_isOf (q := q) o w3 u1 h ho) (fun x5 e6 => Or.inl ⟨_, _, rfl, fun z => z, ?_⟩)
      show mm_E2 _ _ _ _ _ [.int (mx_bi x5)] h _ _
      refine mm_jnI (fun (j89 : Int32 → Option Int32) => ∀ (y7 : Int32), mm_E2 (mm_Sq q) (mm_Sq q) mX7_unitsOf 32 [some (.ref o), some (.int u1), some (.int y7), some (.int w3)] [] h (j89 y7) (lf_i h)) ?_ (fun j8 j8p => ?_)
      · intro y7
        refine me_iinc (pc' := 35) (i := 3) (x := w3) (y := w3 + 1) (L' := [some (.ref o), some (.int u1), some (.int y7), some (.int (w3 + 1))]) dX7_unitsOf_32 rfl (Nat.le_of_ble_eq_true rfl) (Nat.le_of_ble_eq_true rfl) rfl (kc_plus kc_i1) rfl ?_
        refine mm_bnd (w3 + 1) (fun x9 => [some (.ref o), some (.int u1), some (.int y7), some (.int x9)]) (fun _ => []) (fun _ => h) (fun x9 => ?_)
        refine me_goto (tgt := 4) dX7_unitsOf_35 (by decide) ?_
        exact ih y7 x9
      refine me_ifB_eq (pc' := 21) (tgt := 32) dX7_unitsOf_18 (by decide) rfl (fun c10 => ?_) (fun c10 => ?_)
      · exact j8p w2
      · refine me_iload_n (pc' := 22) (i := 2) dX7_unitsOf_21 rfl rfl rfl ?_
        refine me_aload_n (pc' := 23) (i := 0) dX7_unitsOf_22 rfl rfl rfl ?_
        refine me_getR (pc' := 26) (q' := (o + 3)) dX7_unitsOf_23 rfl fkX7_20 (mm_ks ho) (mm_ltq ho) rfl (mrX7_3 ho) ?_
        refine me_iload_n (pc' := 27) (i := 3) dX7_unitsOf_26 rfl rfl rfl ?_
        refine me_callV (As := [.int w3]) (st := [.int w2]) (F' := (mm_Sq q)) (G' := (mm_Sq q)) (F'' := (mm_Sq q)) (pc' := 30) dX7_unitsOf_27 rfl mfX4_get rfl lkX7_79 (mm_ks (kdX7_3 ho)) rfl (mm_ltq (kdX7_3 ho)) ⟨Nat.le_of_ble_eq_true rfl, Nat.le_of_ble_eq_true rfl⟩ (Nat.le_of_ble_eq_true rfl) (fun z => z) (rX4_get (q := q) ((o + 3)) w3 h (kdX7_3 ho)) (fun x11 e12 => Or.inl ⟨_, _, rfl, fun z => z, ?_⟩)
        show mm_E2 _ _ _ _ _ [.int x11, .int w2] h _ _
        refine me_iadd (pc' := 31) dX7_unitsOf_30 rfl ?_
        refine mm_bnd ((w2 + x11)) (fun x13 => [some (.ref o), some (.int u1), some (.int w2), some (.int w3)]) (fun x13 => [.int x13]) (fun _ => h) (fun x13 => ?_)
        refine me_istore_n (pc' := 32) (i := 2) (L' := [some (.ref o), some (.int u1), some (.int x13), some (.int w3)]) dX7_unitsOf_31 rfl rfl (Nat.le_of_ble_eq_true rfl) (Nat.le_of_ble_eq_true rfl) rfl ?_
        exact j8p x13
theorem rX7_unitsOf {q : mm_q} (o : Nat) (p0 : Int32) (h : mm_H) (ho : mm_kd o = (0, 7)) : mm_R2 (mm_Sq q) (mm_Sq q) mX7_unitsOf [.ref o, .int p0] h (gX7_unitsOf o p0 h) (lf_i h) := by
  refine mm_body (L := [some (.ref o), some (.int p0), none, none]) rfl (by decide +kernel) (Nat.le_of_ble_eq_true rfl) rfl ?_
  unfold gX7_unitsOf
  refine me_iconst (pc' := 1) (v := 0) dX7_unitsOf_0 rfl kc_i0 ?_
  refine me_istore_n (pc' := 2) (i := 2) (L' := [some (.ref o), some (.int p0), some (.int 0), none]) dX7_unitsOf_1 rfl rfl (Nat.le_of_ble_eq_true rfl) (Nat.le_of_ble_eq_true rfl) rfl ?_
  refine me_iconst (pc' := 3) (v := 0) dX7_unitsOf_2 rfl kc_i0 ?_
  refine me_istore_n (pc' := 4) (i := 3) (L' := [some (.ref o), some (.int p0), some (.int 0), some (.int 0)]) dX7_unitsOf_3 rfl rfl (Nat.le_of_ble_eq_true rfl) (Nat.le_of_ble_eq_true rfl) rfl ?_
  exact rX7_unitsOf_L4 (q := q) o p0 h ho mm_F 0 0
def gX6_store (o : Nat) (p0 : Int32) (p1 : Nat) (h : mm_H) : Option mm_H :=
if p0 < 0 then
some h
else
if p0 < (nI (mm_cap o)) then
if mm_ibd p0 (mm_cap o) = true then
if mm_ibd p0 (mm_cap o) = true then
(gX7_copyFrom (((o + 1) + 3 + 31 * (Int32.toNatClampNeg (p0)))) p1 h).bind (fun (h5 : mm_H) =>
(gX4_put ((o + 2)) p0 1 h5).bind (fun (h7 : mm_H) =>
some h7)) else none else none
else
some h
theorem rX6_store {q : mm_q} (o : Nat) (p0 : Int32) (p1 : Nat) (h : mm_H) (ho : mm_kd o = (0, 6)) (hp1 : mm_kd p1 = (0, 7)) : mm_R2 (mm_Sq q) (mm_Sq q) mX6_store [.ref o, .int p0, .ref p1] h (gX6_store o p0 p1 h) lf_v := by
  refine mm_body (L := [some (.ref o), some (.int p0), some (.ref p1)]) rfl (by decide +kernel) (Nat.le_of_ble_eq_true rfl) rfl ?_
  unfold gX6_store
  refine me_iload_n (pc' := 1) (i := 1) dX6_store_0 rfl rfl rfl ?_
  refine me_if_lt (pc' := 4) (tgt := 41) dX6_store_1 (by decide) rfl (fun c1 => ?_) (fun c1 => ?_)
  · exact me_vret dX6_store_41 rfl (fun z => z) rfl
  · refine me_iload_n (pc' := 5) (i := 1) dX6_store_4 rfl rfl rfl ?_
    refine me_aload_n (pc' := 6) (i := 0) dX6_store_5 rfl rfl rfl ?_
    refine me_getR (pc' := 9) (q' := (o + 1)) dX6_store_6 rfl fkX6_15 (mm_ks ho) (mm_ltq ho) rfl (mrX6_0 ho) ?_
    refine me_alen (pc' := 10) (v := (nI (mm_cap o))) dX6_store_9 rfl (mm_ks (kdX6_0 ho)) (mm_ltq (kdX6_0 ho)) rfl ?_
    refine me_icmp_ge (pc' := 13) (tgt := 41) dX6_store_10 (by decide) rfl (fun c2 => ?_) (fun c2 => ?_)
    · exact me_vret dX6_store_41 rfl (fun z => z) rfl
    · refine me_aload_n (pc' := 14) (i := 0) dX6_store_13 rfl rfl rfl ?_
      refine me_getR (pc' := 17) (q' := (o + 1)) dX6_store_14 rfl fkX6_15 (mm_ks ho) (mm_ltq ho) rfl (mrX6_0 ho) ?_
      refine me_iload_n (pc' := 18) (i := 1) dX6_store_17 rfl rfl rfl ?_
      refine mm_guard (fun c3 => ?_)
      refine me_aald (pc' := 19) (q' := ((o + 1) + 3 + 31 * (Int32.toNatClampNeg (p0)))) dX6_store_18 rfl (mm_ks (kdX6_0 ho)) (mm_ltq (kdX6_0 ho)) (mm_ibd_of c3) (mrA (kdX6_0 ho) (mm_ibd_of c3)) ?_
      refine me_ifnull (pc' := 22) dX6_store_19 rfl ?_
      refine me_aload_n (pc' := 23) (i := 0) dX6_store_22 rfl rfl rfl ?_
      refine me_getR (pc' := 26) (q' := (o + 1)) dX6_store_23 rfl fkX6_15 (mm_ks ho) (mm_ltq ho) rfl (mrX6_0 ho) ?_
      refine me_iload_n (pc' := 27) (i := 1) dX6_store_26 rfl rfl rfl ?_
      refine mm_guard (fun c4 => ?_)
      refine me_aald (pc' := 28) (q' := ((o + 1) + 3 + 31 * (Int32.toNatClampNeg (p0)))) dX6_store_27 rfl (mm_ks (kdX6_0 ho)) (mm_ltq (kdX6_0 ho)) (mm_ibd_of c4) (mrA (kdX6_0 ho) (mm_ibd_of c4)) ?_
      refine me_aload_n (pc' := 29) (i := 2) dX6_store_28 rfl rfl rfl ?_
      refine me_callV (As := [.ref p1]) (st := []) (F' := (mm_Sq q)) (G' := (mm_Sq q)) (F'' := (mm_Sq q)) (pc' := 32) dX6_store_29 rfl mfX7_copyFrom rfl lkX6_38 (mm_ks (kdA (kdX6_0 ho) (mm_ibd_of c4))) rfl (mm_ltq (kdA (kdX6_0 ho) (mm_ibd_of c4))) ⟨Nat.le_of_ble_eq_true rfl, Nat.le_of_ble_eq_true rfl⟩ (Nat.le_of_ble_eq_true rfl) (fun z => z) (rX7_copyFrom (q := q) (((o + 1) + 3 + 31 * (Int32.toNatClampNeg (p0)))) p1 h (kdA (kdX6_0 ho) (mm_ibd_of c4)) hp1) (fun h5 e6 => Or.inl ⟨_, _, rfl, fun z => z, ?_⟩)
      show mm_E2 _ _ _ _ _ [] h5 _ _
      refine me_aload_n (pc' := 33) (i := 0) dX6_store_32 rfl rfl rfl ?_
      refine me_getR (pc' := 36) (q' := (o + 2)) dX6_store_33 rfl fkX6_26 (mm_ks ho) (mm_ltq ho) rfl (mrX6_1 ho) ?_
      refine me_iload_n (pc' := 37) (i := 1) dX6_store_36 rfl rfl rfl ?_
      refine me_iconst (pc' := 38) (v := 1) dX6_store_37 rfl kc_i1 ?_
      refine me_callV (As := [.int p0, .int 1]) (st := []) (F' := (mm_Sq q)) (G' := (mm_Sq q)) (F'' := (mm_Sq q)) (pc' := 41) dX6_store_38 rfl mfX4_put rfl lkX6_42 (mm_ks (kdX6_1 ho)) rfl (mm_ltq (kdX6_1 ho)) ⟨Nat.le_of_ble_eq_true rfl, Nat.le_of_ble_eq_true rfl⟩ (Nat.le_of_ble_eq_true rfl) (fun z => z) (rX4_put (q := q) ((o + 2)) p0 1 h5 (kdX6_1 ho)) (fun h7 e8 => Or.inl ⟨_, _, rfl, fun z => z, ?_⟩)
      show mm_E2 _ _ _ _ _ [] h7 _ _
      exact me_vret dX6_store_41 rfl (fun z => z) rfl
def gX2_remember (p0 : Nat) (h : mm_H) : Option mm_H :=
(gX6_store 91 ((mh_I h 90 1)) p0 h).bind (fun (h1 : mm_H) =>
(some (ms_I h1 90 1 ((((mh_I h1 90 1) + 1) - ((mh_I h1 90 1) + 1) / 6 * 6)))).bind (fun (h3 : mm_H) =>
(some (ms_I h3 90 2 ((mm_min 6 (((mh_I h3 90 2) + 1)))))).bind (fun (h4 : mm_H) =>
some h4)))
theorem rX2_remember {q : mm_q} (p0 : Nat) (h : mm_H) (hp0 : mm_kd p0 = (0, 7)) : mm_R2 (mm_Sq q) (mm_Sq q) mX2_remember [.ref 90, .ref p0] h (gX2_remember p0 h) lf_v := by
  refine mm_body (L := [some (.ref 90), some (.ref p0)]) rfl (by decide +kernel) (Nat.le_of_ble_eq_true rfl) rfl ?_
  unfold gX2_remember
  refine me_aload_n (pc' := 1) (i := 0) dX2_remember_0 rfl rfl rfl ?_
  refine me_getR (pc' := 4) (q' := 91) dX2_remember_1 rfl fkX2_14 (mm_ks kd_90) (mm_ltq kd_90) rfl (mrX2_0 kd_90) ?_
  refine me_aload_n (pc' := 5) (i := 0) dX2_remember_4 rfl rfl rfl ?_
  refine me_getI (pc' := 8) dX2_remember_5 rfl fkX2_24 (mm_ks kd_90) (mm_ltq kd_90) rfl ?_
  refine me_aload_n (pc' := 9) (i := 1) dX2_remember_8 rfl rfl rfl ?_
  refine me_callV (As := [.int (mh_I h 90 1), .ref p0]) (st := []) (F' := (mm_Sq q)) (G' := (mm_Sq q)) (F'' := (mm_Sq q)) (pc' := 12) dX2_remember_9 rfl mfX6_store rfl lkX2_27 (mm_ks kd_91) rfl (mm_ltq kd_91) ⟨Nat.le_of_ble_eq_true rfl, Nat.le_of_ble_eq_true rfl⟩ (Nat.le_of_ble_eq_true rfl) (fun z => z) (rX6_store (q := q) 91 ((mh_I h 90 1)) p0 h kd_91 hp0) (fun h1 e2 => Or.inl ⟨_, _, rfl, fun z => z, ?_⟩)
  show mm_E2 _ _ _ _ _ [] h1 _ _
  refine me_aload_n (pc' := 13) (i := 0) dX2_remember_12 rfl rfl rfl ?_
  refine me_aload_n (pc' := 14) (i := 0) dX2_remember_13 rfl rfl rfl ?_
  refine me_getI (pc' := 17) dX2_remember_14 rfl fkX2_24 (mm_ks kd_90) (mm_ltq kd_90) rfl ?_
  refine me_iconst (pc' := 18) (v := 1) dX2_remember_17 rfl kc_i1 ?_
  refine me_iadd (pc' := 19) dX2_remember_18 rfl ?_
  refine me_bipush (pc' := 21) (v := 6) dX2_remember_19 rfl kc_b6 ?_
  refine me_irem (pc' := 22) dX2_remember_21 rfl kc_nz6 ?_
  refine me_putI (F' := (mm_Sq q)) (pc' := 25) dX2_remember_22 rfl fkX2_24 (mm_ks kd_90) (mm_ltq kd_90) rfl pgX2_1 (fun z => z) ?_
  refine mm_bnd (ms_I h1 90 1 ((((mh_I h1 90 1) + 1) - ((mh_I h1 90 1) + 1) / 6 * 6))) (fun _ => [some (.ref 90), some (.ref p0)]) (fun _ => []) (fun h3 => h3) (fun h3 => ?_)
  refine me_aload_n (pc' := 26) (i := 0) dX2_remember_25 rfl rfl rfl ?_
  refine me_bipush (pc' := 28) (v := 6) dX2_remember_26 rfl kc_b6 ?_
  refine me_aload_n (pc' := 29) (i := 0) dX2_remember_28 rfl rfl rfl ?_
  refine me_getI (pc' := 32) dX2_remember_29 rfl fkX2_20 (mm_ks kd_90) (mm_ltq kd_90) rfl ?_
  refine me_iconst (pc' := 33) (v := 1) dX2_remember_32 rfl kc_i1 ?_
  refine me_iadd (pc' := 34) dX2_remember_33 rfl ?_
  refine me_mmin (pc' := 37) dX2_remember_34 rfl ljX2_31 ⟨Nat.le_of_ble_eq_true rfl, Nat.le_of_ble_eq_true rfl⟩ (Nat.le_of_ble_eq_true rfl) ?_
  show mm_E2 _ _ _ _ _ [.int (mm_min 6 (((mh_I h3 90 2) + 1))), .ref 90] _ _ _
  refine me_putI (F' := (mm_Sq q)) (pc' := 40) dX2_remember_37 rfl fkX2_20 (mm_ks kd_90) (mm_ltq kd_90) rfl pgX2_2 (fun z => z) ?_
  refine mm_bnd (ms_I h3 90 2 ((mm_min 6 (((mh_I h3 90 2) + 1))))) (fun _ => [some (.ref 90), some (.ref p0)]) (fun _ => []) (fun h4 => h4) (fun h4 => ?_)
  exact me_vret dX2_remember_40 rfl (fun z => z) rfl
def gX7_issueUnits_L24 (o : Nat) (u5 : Int32) (u6 : Int32) (u7 : Int32) : Nat → Int32 → Int32 → mm_H → Option (Int32 × mm_H)
  | 0, _, _, _ => none
  | n + 1, w8, w9, h10 =>
    mm_jn (fun (_ : Unit) =>
    (gX4_add ((o + 23)) u5 u6 h10).bind (fun (h12 : mm_H) =>
    some (u7, h12))) (fun (j11 : Unit → Option (Int32 × mm_H)) =>
    if w9 < (mh_I h10 347 0) then
    if 0 < w8 then
    (gX4_get 348 w9 h10).bind (fun (x16 : Int32) =>
    (gX7_freeUnitsIn o x16 h10).bind (fun (x18 : Int32) =>
    (some ((mm_min w8 x18))).bind (fun (x20 : Int32) =>
    (gX4_add ((o + 3)) x16 ((-x20)) h10).bind (fun (h21 : mm_H) =>
    (some ((w8 - x20))).bind (fun (x23 : Int32) =>
    (some (w9 + 1)).bind (fun (x24 : Int32) =>
    gX7_issueUnits_L24 o u5 u6 u7 n x23 x24 h21))))))
    else
    j11 ()
    else
    j11 ())
def gX7_issueUnits (o : Nat) (p1 : Int32) (p2 : Int32) (h : mm_H) : Option (Int32 × mm_H) :=
(gX7_collectIssueOrder o p1 ((mh_I h o 0)) h).bind (fun (h1 : mm_H) =>
(gX7_costOfTaking o p2 h1).bind (fun (x3 : Int32) =>
gX7_issueUnits_L24 o p1 p2 x3 mm_F p2 0 h1))
theorem rX7_issueUnits_L24 {q : mm_q} (o : Nat) (u5 : Int32) (u6 : Int32) (u7 : Int32)   (ho : mm_kd o = (0, 7)) : ∀ (n : Nat) (w8 : Int32) (w9 : Int32) (h10 : mm_H), mm_E2 (mm_Sq q) (mm_Sq q) mX7_issueUnits 24 [some (.ref o), some (.ref 347), some (.int u5), some (.int u6), some (.int u7), some (.int w8), some (.int w9), none, none] [] h10 (gX7_issueUnits_L24 o u5 u6 u7  n w8 w9 h10) lf_ie := by
  intro n
  induction n with
  | zero =>
    intro w8 w9 h10
    exact mm_none
  | succ n ih =>
    intro w8 w9 h10
    rw [gX7_issueUnits_L24]
    refine me_iload (pc' := 26) (i := 6) dX7_issueUnits_24 rfl rfl ?_
    refine me_aload_n (pc' := 27) (i := 1) dX7_issueUnits_26 rfl rfl rfl ?_
    refine me_getI (pc' := 30) dX7_issueUnits_27 rfl fkX7_102 (mm_ks kd_347) (mm_ltq kd_347) rfl ?_
    refine mm_jnI (fun (j119 : Unit → Option (Int32 × mm_H)) => ∀ (_ : Unit), mm_E2 (mm_Sq q) (mm_Sq q) mX7_issueUnits 87 [some (.ref o), none, some (.int u5), some (.int u6), some (.int u7), none, none, none, none] [] h10 (j119 ()) lf_ie) ?_ (fun j11 j11p => ?_)
    · intro _
      refine me_aload_n (pc' := 88) (i := 0) dX7_issueUnits_87 rfl rfl rfl ?_
      refine me_getR (pc' := 91) (q' := (o + 23)) dX7_issueUnits_88 rfl fkX7_50 (mm_ks ho) (mm_ltq ho) rfl (mrX7_14 ho) ?_
      refine me_iload_n (pc' := 92) (i := 2) dX7_issueUnits_91 rfl rfl rfl ?_
      refine me_iload_n (pc' := 93) (i := 3) dX7_issueUnits_92 rfl rfl rfl ?_
      refine me_callV (As := [.int u5, .int u6]) (st := []) (F' := (mm_Sq q)) (G' := (mm_Sq q)) (F'' := (mm_Sq q)) (pc' := 96) dX7_issueUnits_93 rfl mfX4_add rfl lkX7_135 (mm_ks (kdX7_14 ho)) rfl (mm_ltq (kdX7_14 ho)) ⟨Nat.le_of_ble_eq_true rfl, Nat.le_of_ble_eq_true rfl⟩ (Nat.le_of_ble_eq_true rfl) (fun z => z) (rX4_add (q := q) ((o + 23)) u5 u6 h10 (kdX7_14 ho)) (fun h12 e13 => Or.inl ⟨_, _, rfl, fun z => z, ?_⟩)
      show mm_E2 _ _ _ _ _ [] h12 _ _
      refine me_iload (pc' := 98) (i := 4) dX7_issueUnits_96 rfl rfl ?_
      exact me_iret dX7_issueUnits_98 rfl (fun z => z) rfl
    refine me_icmp_ge (pc' := 33) (tgt := 87) dX7_issueUnits_30 (by decide) rfl (fun c14 => ?_) (fun c14 => ?_)
    · exact mm_maskB [true, false, true, true, true, false, false, false, false] (j11p ())
    · refine me_iload (pc' := 35) (i := 5) dX7_issueUnits_33 rfl rfl ?_
      refine me_if_le (pc' := 38) (tgt := 87) dX7_issueUnits_35 (by decide) rfl (fun c15 => ?_) (fun c15 => ?_)
      · exact mm_maskB [true, false, true, true, true, false, false, false, false] (j11p ())
      · refine me_aload_n (pc' := 39) (i := 1) dX7_issueUnits_38 rfl rfl rfl ?_
        refine me_getR (pc' := 42) (q' := 348) dX7_issueUnits_39 rfl fkX7_105 (mm_ks kd_347) (mm_ltq kd_347) rfl (mrX0_1 kd_347) ?_
        refine me_iload (pc' := 44) (i := 6) dX7_issueUnits_42 rfl rfl ?_
        refine me_callV (As := [.int w9]) (st := []) (F' := (mm_Sq q)) (G' := (mm_Sq q)) (F'' := (mm_Sq q)) (pc' := 47) dX7_issueUnits_44 rfl mfX4_get rfl lkX7_79 (mm_ks kd_348) rfl (mm_ltq kd_348) ⟨Nat.le_of_ble_eq_true rfl, Nat.le_of_ble_eq_true rfl⟩ (Nat.le_of_ble_eq_true rfl) (fun z => z) (rX4_get (q := q) 348 w9 h10 kd_348) (fun x16 e17 => Or.inl ⟨_, _, rfl, fun z => z, ?_⟩)
        show mm_E2 _ _ _ _ _ [.int x16] h10 _ _
        refine me_istore (pc' := 49) (i := 7) (L' := [some (.ref o), some (.ref 347), some (.int u5), some (.int u6), some (.int u7), some (.int w8), some (.int w9), some (.int x16), none]) dX7_issueUnits_47 rfl (Nat.le_of_ble_eq_true rfl) (Nat.le_of_ble_eq_true rfl) rfl ?_
        refine me_iload (pc' := 51) (i := 5) dX7_issueUnits_49 rfl rfl ?_
        refine me_aload_n (pc' := 52) (i := 0) dX7_issueUnits_51 rfl rfl rfl ?_
        refine me_iload (pc' := 54) (i := 7) dX7_issueUnits_52 rfl rfl ?_
        refine me_callV (As := [.int x16]) (st := [.int w8]) (F' := (mm_Sq q)) (G' := (mm_Sq q)) (F'' := (mm_Sq q)) (pc' := 57) dX7_issueUnits_54 rfl mfX7_freeUnitsIn rfl lkX7_95 (mm_ks ho) rfl (mm_ltq ho) ⟨Nat.le_of_ble_eq_true rfl, Nat.le_of_ble_eq_true rfl⟩ (Nat.le_of_ble_eq_true rfl) (fun z => z) (rX7_freeUnitsIn (q := q) o x16 h10 ho) (fun x18 e19 => Or.inl ⟨_, _, rfl, fun z => z, ?_⟩)
        show mm_E2 _ _ _ _ _ [.int x18, .int w8] h10 _ _
        refine me_mmin (pc' := 60) dX7_issueUnits_57 rfl ljX7_107 ⟨Nat.le_of_ble_eq_true rfl, Nat.le_of_ble_eq_true rfl⟩ (Nat.le_of_ble_eq_true rfl) ?_
        show mm_E2 _ _ _ _ _ [.int (mm_min w8 x18)] _ _ _
        refine mm_bnd ((mm_min w8 x18)) (fun x20 => [some (.ref o), some (.ref 347), some (.int u5), some (.int u6), some (.int u7), some (.int w8), some (.int w9), some (.int x16), none]) (fun x20 => [.int x20]) (fun _ => h10) (fun x20 => ?_)
        refine me_istore (pc' := 62) (i := 8) (L' := [some (.ref o), some (.ref 347), some (.int u5), some (.int u6), some (.int u7), some (.int w8), some (.int w9), some (.int x16), some (.int x20)]) dX7_issueUnits_60 rfl (Nat.le_of_ble_eq_true rfl) (Nat.le_of_ble_eq_true rfl) rfl ?_
        refine me_aload_n (pc' := 63) (i := 0) dX7_issueUnits_62 rfl rfl rfl ?_
        refine me_getR (pc' := 66) (q' := (o + 3)) dX7_issueUnits_63 rfl fkX7_20 (mm_ks ho) (mm_ltq ho) rfl (mrX7_3 ho) ?_
        refine me_iload (pc' := 68) (i := 7) dX7_issueUnits_66 rfl rfl ?_
        refine me_iload (pc' := 70) (i := 8) dX7_issueUnits_68 rfl rfl ?_
        refine me_ineg (pc' := 71) dX7_issueUnits_70 rfl ?_
        refine me_callV (As := [.int x16, .int (-x20)]) (st := []) (F' := (mm_Sq q)) (G' := (mm_Sq q)) (F'' := (mm_Sq q)) (pc' := 74) dX7_issueUnits_71 rfl mfX4_add rfl lkX7_135 (mm_ks (kdX7_3 ho)) rfl (mm_ltq (kdX7_3 ho)) ⟨Nat.le_of_ble_eq_true rfl, Nat.le_of_ble_eq_true rfl⟩ (Nat.le_of_ble_eq_true rfl) (fun z => z) (rX4_add (q := q) ((o + 3)) x16 ((-x20)) h10 (kdX7_3 ho)) (fun h21 e22 => Or.inl ⟨_, _, rfl, fun z => z, ?_⟩)
        show mm_E2 _ _ _ _ _ [] h21 _ _
        refine me_iload (pc' := 76) (i := 5) dX7_issueUnits_74 rfl rfl ?_
        refine me_iload (pc' := 78) (i := 8) dX7_issueUnits_76 rfl rfl ?_
        refine me_isub (pc' := 79) dX7_issueUnits_78 rfl ?_
        refine mm_bnd ((w8 - x20)) (fun x23 => [some (.ref o), some (.ref 347), some (.int u5), some (.int u6), some (.int u7), some (.int w8), some (.int w9), some (.int x16), some (.int x20)]) (fun x23 => [.int x23]) (fun _ => h21) (fun x23 => ?_)
        refine me_istore (pc' := 81) (i := 5) (L' := [some (.ref o), some (.ref 347), some (.int u5), some (.int u6), some (.int u7), some (.int x23), some (.int w9), some (.int x16), some (.int x20)]) dX7_issueUnits_79 rfl (Nat.le_of_ble_eq_true rfl) (Nat.le_of_ble_eq_true rfl) rfl ?_
        refine me_iinc (pc' := 84) (i := 6) (x := w9) (y := w9 + 1) (L' := [some (.ref o), some (.ref 347), some (.int u5), some (.int u6), some (.int u7), some (.int x23), some (.int (w9 + 1)), some (.int x16), some (.int x20)]) dX7_issueUnits_81 rfl (Nat.le_of_ble_eq_true rfl) (Nat.le_of_ble_eq_true rfl) rfl (kc_plus kc_i1) rfl ?_
        refine mm_bnd (w9 + 1) (fun x24 => [some (.ref o), some (.ref 347), some (.int u5), some (.int u6), some (.int u7), some (.int x23), some (.int x24), some (.int x16), some (.int x20)]) (fun _ => []) (fun _ => h21) (fun x24 => ?_)
        refine me_goto (tgt := 24) dX7_issueUnits_84 (by decide) ?_
        exact mm_maskB [true, true, true, true, true, true, true, false, false] (ih x23 x24 h21)
theorem rX7_issueUnits {q : mm_q} (o : Nat) (p1 : Int32) (p2 : Int32) (h : mm_H) (ho : mm_kd o = (0, 7)) : mm_R2 (mm_Sq q) (mm_Sq q) mX7_issueUnits [.ref o, .ref 347, .int p1, .int p2] h (gX7_issueUnits o p1 p2 h) lf_ie := by
  refine mm_body (L := [some (.ref o), some (.ref 347), some (.int p1), some (.int p2), none, none, none, none, none]) rfl (by decide +kernel) (Nat.le_of_ble_eq_true rfl) rfl ?_
  unfold gX7_issueUnits
  refine me_aload_n (pc' := 1) (i := 0) dX7_issueUnits_0 rfl rfl rfl ?_
  refine me_aload_n (pc' := 2) (i := 1) dX7_issueUnits_1 rfl rfl rfl ?_
  refine me_iload_n (pc' := 3) (i := 2) dX7_issueUnits_2 rfl rfl rfl ?_
  refine me_aload_n (pc' := 4) (i := 0) dX7_issueUnits_3 rfl rfl rfl ?_
  refine me_getI (pc' := 7) dX7_issueUnits_4 rfl fkX7_62 (mm_ks ho) (mm_ltq ho) rfl ?_
  refine me_callV (As := [.ref 347, .int p1, .int (mh_I h o 0)]) (st := []) (F' := (mm_Sq q)) (G' := (mm_Sq q)) (F'' := (mm_Sq q)) (pc' := 10) dX7_issueUnits_7 rfl mfX7_collectIssueOrder rfl lkX7_138 (mm_ks ho) rfl (mm_ltq ho) ⟨Nat.le_of_ble_eq_true rfl, Nat.le_of_ble_eq_true rfl⟩ (Nat.le_of_ble_eq_true rfl) (fun z => z) (rX7_collectIssueOrder (q := q) o p1 ((mh_I h o 0)) h ho) (fun h1 e2 => Or.inl ⟨_, _, rfl, fun z => z, ?_⟩)
  show mm_E2 _ _ _ _ _ [] h1 _ _
  refine me_aload_n (pc' := 11) (i := 0) dX7_issueUnits_10 rfl rfl rfl ?_
  refine me_aload_n (pc' := 12) (i := 1) dX7_issueUnits_11 rfl rfl rfl ?_
  refine me_iload_n (pc' := 13) (i := 3) dX7_issueUnits_12 rfl rfl rfl ?_
  refine me_callV (As := [.ref 347, .int p2]) (st := []) (F' := (mm_Sq q)) (G' := (mm_Sq q)) (F'' := (mm_Sq q)) (pc' := 16) dX7_issueUnits_13 rfl mfX7_costOfTaking rfl lkX7_142 (mm_ks ho) rfl (mm_ltq ho) ⟨Nat.le_of_ble_eq_true rfl, Nat.le_of_ble_eq_true rfl⟩ (Nat.le_of_ble_eq_true rfl) (fun z => z) (rX7_costOfTaking (q := q) o p2 h1 ho) (fun x3 e4 => Or.inl ⟨_, _, rfl, fun z => z, ?_⟩)
  show mm_E2 _ _ _ _ _ [.int x3] h1 _ _
  refine me_istore (pc' := 18) (i := 4) (L' := [some (.ref o), some (.ref 347), some (.int p1), some (.int p2), some (.int x3), none, none, none, none]) dX7_issueUnits_16 rfl (Nat.le_of_ble_eq_true rfl) (Nat.le_of_ble_eq_true rfl) rfl ?_
  refine me_iload_n (pc' := 19) (i := 3) dX7_issueUnits_18 rfl rfl rfl ?_
  refine me_istore (pc' := 21) (i := 5) (L' := [some (.ref o), some (.ref 347), some (.int p1), some (.int p2), some (.int x3), some (.int p2), none, none, none]) dX7_issueUnits_19 rfl (Nat.le_of_ble_eq_true rfl) (Nat.le_of_ble_eq_true rfl) rfl ?_
  refine me_iconst (pc' := 22) (v := 0) dX7_issueUnits_21 rfl kc_i0 ?_
  refine me_istore (pc' := 24) (i := 6) (L' := [some (.ref o), some (.ref 347), some (.int p1), some (.int p2), some (.int x3), some (.int p2), some (.int 0), none, none]) dX7_issueUnits_22 rfl (Nat.le_of_ble_eq_true rfl) (Nat.le_of_ble_eq_true rfl) rfl ?_
  exact rX7_issueUnits_L24 (q := q) o p1 p2 x3 ho mm_F p2 0 h1
def gX7_refillReservation_L44 (o : Nat) (u10 : Int32) (u11 : Int32) : Nat → Int32 → Int32 → mm_H → Option (Int32 × mm_H)
  | 0, _, _, _ => none
  | n + 1, w12, w13, h14 =>
    mm_jn (fun (_ : Unit) =>
    some ((u11 - w12), h14)) (fun (j15 : Unit → Option (Int32 × mm_H)) =>
    if w13 < (mh_I h14 347 0) then
    if 0 < w12 then
    (gX4_get 348 w13 h14).bind (fun (x18 : Int32) =>
    (gX7_freeUnitsIn o x18 h14).bind (fun (x20 : Int32) =>
    (some ((mm_min w12 x20))).bind (fun (x22 : Int32) =>
    (gX4_add ((o + 19)) (((u10 * 20) + x18)) x22 h14).bind (fun (h23 : mm_H) =>
    (gX4_add ((o + 5)) x18 x22 h23).bind (fun (h25 : mm_H) =>
    (some ((w12 - x22))).bind (fun (x27 : Int32) =>
    (some (w13 + 1)).bind (fun (x28 : Int32) =>
    gX7_refillReservation_L44 o u10 u11 n x27 x28 h25)))))))
    else
    j15 ()
    else
    j15 ())
def gX7_refillReservation (o : Nat) (p1 : Int32) (h : mm_H) : Option (Int32 × mm_H) :=
(gX4_get ((o + 15)) p1 h).bind (fun (x1 : Int32) =>
(some ((mm_max x1 ((mh_I h o 0))))).bind (fun (x3 : Int32) =>
(gX4_get ((o + 11)) p1 h).bind (fun (x4 : Int32) =>
(gX7_collectIssueOrder o x4 x3 h).bind (fun (h6 : mm_H) =>
(gX7_missingUnits o p1 h6).bind (fun (x8 : Int32) =>
gX7_refillReservation_L44 o p1 x8 mm_F x8 0 h6)))))
theorem rX7_refillReservation_L44 {q : mm_q} (o : Nat) (u10 : Int32) (u11 : Int32)   (ho : mm_kd o = (0, 7)) : ∀ (n : Nat) (w12 : Int32) (w13 : Int32) (h14 : mm_H), mm_E2 (mm_Sq q) (mm_Sq q) mX7_refillReservation 44 [some (.ref o), some (.ref 347), some (.int u10), none, some (.int u11), some (.int w12), some (.int w13), none, none] [] h14 (gX7_refillReservation_L44 o u10 u11  n w12 w13 h14) lf_ie := by
  intro n
  induction n with
  | zero =>
    intro w12 w13 h14
    exact mm_none
  | succ n ih =>
    intro w12 w13 h14
    rw [gX7_refillReservation_L44]
    refine me_iload (pc' := 46) (i := 6) dX7_refillReservation_44 rfl rfl ?_
    refine me_aload_n (pc' := 47) (i := 1) dX7_refillReservation_46 rfl rfl rfl ?_
    refine me_getI (pc' := 50) dX7_refillReservation_47 rfl fkX7_102 (mm_ks kd_347) (mm_ltq kd_347) rfl ?_
    refine mm_jnI (fun (j159 : Unit → Option (Int32 × mm_H)) => ∀ (_ : Unit), mm_E2 (mm_Sq q) (mm_Sq q) mX7_refillReservation 122 [none, none, none, none, some (.int u11), some (.int w12), none, none, none] [] h14 (j159 ()) lf_ie) ?_ (fun j15 j15p => ?_)
    · intro _
      refine me_iload (pc' := 124) (i := 4) dX7_refillReservation_122 rfl rfl ?_
      refine me_iload (pc' := 126) (i := 5) dX7_refillReservation_124 rfl rfl ?_
      refine me_isub (pc' := 127) dX7_refillReservation_126 rfl ?_
      exact me_iret dX7_refillReservation_127 rfl (fun z => z) rfl
    refine me_icmp_ge (pc' := 53) (tgt := 122) dX7_refillReservation_50 (by decide) rfl (fun c16 => ?_) (fun c16 => ?_)
    · exact mm_maskB [false, false, false, false, true, true, false, false, false] (j15p ())
    · refine me_iload (pc' := 55) (i := 5) dX7_refillReservation_53 rfl rfl ?_
      refine me_if_le (pc' := 58) (tgt := 122) dX7_refillReservation_55 (by decide) rfl (fun c17 => ?_) (fun c17 => ?_)
      · exact mm_maskB [false, false, false, false, true, true, false, false, false] (j15p ())
      · refine me_aload_n (pc' := 59) (i := 1) dX7_refillReservation_58 rfl rfl rfl ?_
        refine me_getR (pc' := 62) (q' := 348) dX7_refillReservation_59 rfl fkX7_105 (mm_ks kd_347) (mm_ltq kd_347) rfl (mrX0_1 kd_347) ?_
        refine me_iload (pc' := 64) (i := 6) dX7_refillReservation_62 rfl rfl ?_
        refine me_callV (As := [.int w13]) (st := []) (F' := (mm_Sq q)) (G' := (mm_Sq q)) (F'' := (mm_Sq q)) (pc' := 67) dX7_refillReservation_64 rfl mfX4_get rfl lkX7_79 (mm_ks kd_348) rfl (mm_ltq kd_348) ⟨Nat.le_of_ble_eq_true rfl, Nat.le_of_ble_eq_true rfl⟩ (Nat.le_of_ble_eq_true rfl) (fun z => z) (rX4_get (q := q) 348 w13 h14 kd_348) (fun x18 e19 => Or.inl ⟨_, _, rfl, fun z => z, ?_⟩)
        show mm_E2 _ _ _ _ _ [.int x18] h14 _ _
        refine me_istore (pc' := 69) (i := 7) (L' := [some (.ref o), some (.ref 347), some (.int u10), none, some (.int u11), some (.int w12), some (.int w13), some (.int x18), none]) dX7_refillReservation_67 rfl (Nat.le_of_ble_eq_true rfl) (Nat.le_of_ble_eq_true rfl) rfl ?_
        refine me_iload (pc' := 71) (i := 5) dX7_refillReservation_69 rfl rfl ?_
        refine me_aload_n (pc' := 72) (i := 0) dX7_refillReservation_71 rfl rfl rfl ?_
        refine me_iload (pc' := 74) (i := 7) dX7_refillReservation_72 rfl rfl ?_
        refine me_callV (As := [.int x18]) (st := [.int w12]) (F' := (mm_Sq q)) (G' := (mm_Sq q)) (F'' := (mm_Sq q)) (pc' := 77) dX7_refillReservation_74 rfl mfX7_freeUnitsIn rfl lkX7_95 (mm_ks ho) rfl (mm_ltq ho) ⟨Nat.le_of_ble_eq_true rfl, Nat.le_of_ble_eq_true rfl⟩ (Nat.le_of_ble_eq_true rfl) (fun z => z) (rX7_freeUnitsIn (q := q) o x18 h14 ho) (fun x20 e21 => Or.inl ⟨_, _, rfl, fun z => z, ?_⟩)
        show mm_E2 _ _ _ _ _ [.int x20, .int w12] h14 _ _
        refine me_mmin (pc' := 80) dX7_refillReservation_77 rfl ljX7_107 ⟨Nat.le_of_ble_eq_true rfl, Nat.le_of_ble_eq_true rfl⟩ (Nat.le_of_ble_eq_true rfl) ?_
        show mm_E2 _ _ _ _ _ [.int (mm_min w12 x20)] _ _ _
        refine mm_bnd ((mm_min w12 x20)) (fun x22 => [some (.ref o), some (.ref 347), some (.int u10), none, some (.int u11), some (.int w12), some (.int w13), some (.int x18), none]) (fun x22 => [.int x22]) (fun _ => h14) (fun x22 => ?_)
        refine me_istore (pc' := 82) (i := 8) (L' := [some (.ref o), some (.ref 347), some (.int u10), none, some (.int u11), some (.int w12), some (.int w13), some (.int x18), some (.int x22)]) dX7_refillReservation_80 rfl (Nat.le_of_ble_eq_true rfl) (Nat.le_of_ble_eq_true rfl) rfl ?_
        refine me_aload_n (pc' := 83) (i := 0) dX7_refillReservation_82 rfl rfl rfl ?_
        refine me_getR (pc' := 86) (q' := (o + 19)) dX7_refillReservation_83 rfl fkX7_44 (mm_ks ho) (mm_ltq ho) rfl (mrX7_12 ho) ?_
        refine me_iload_n (pc' := 87) (i := 2) dX7_refillReservation_86 rfl rfl rfl ?_
        refine me_bipush (pc' := 89) (v := 20) dX7_refillReservation_87 rfl kc_b20 ?_
        refine me_imul (pc' := 90) dX7_refillReservation_89 rfl ?_
        refine me_iload (pc' := 92) (i := 7) dX7_refillReservation_90 rfl rfl ?_
        refine me_iadd (pc' := 93) dX7_refillReservation_92 rfl ?_
        refine me_iload (pc' := 95) (i := 8) dX7_refillReservation_93 rfl rfl ?_
        refine me_callV (As := [.int ((u10 * 20) + x18), .int x22]) (st := []) (F' := (mm_Sq q)) (G' := (mm_Sq q)) (F'' := (mm_Sq q)) (pc' := 98) dX7_refillReservation_95 rfl mfX4_add rfl lkX7_135 (mm_ks (kdX7_12 ho)) rfl (mm_ltq (kdX7_12 ho)) ⟨Nat.le_of_ble_eq_true rfl, Nat.le_of_ble_eq_true rfl⟩ (Nat.le_of_ble_eq_true rfl) (fun z => z) (rX4_add (q := q) ((o + 19)) (((u10 * 20) + x18)) x22 h14 (kdX7_12 ho)) (fun h23 e24 => Or.inl ⟨_, _, rfl, fun z => z, ?_⟩)
        show mm_E2 _ _ _ _ _ [] h23 _ _
        refine me_aload_n (pc' := 99) (i := 0) dX7_refillReservation_98 rfl rfl rfl ?_
        refine me_getR (pc' := 102) (q' := (o + 5)) dX7_refillReservation_99 rfl fkX7_23 (mm_ks ho) (mm_ltq ho) rfl (mrX7_4 ho) ?_
        refine me_iload (pc' := 104) (i := 7) dX7_refillReservation_102 rfl rfl ?_
        refine me_iload (pc' := 106) (i := 8) dX7_refillReservation_104 rfl rfl ?_
        refine me_callV (As := [.int x18, .int x22]) (st := []) (F' := (mm_Sq q)) (G' := (mm_Sq q)) (F'' := (mm_Sq q)) (pc' := 109) dX7_refillReservation_106 rfl mfX4_add rfl lkX7_135 (mm_ks (kdX7_4 ho)) rfl (mm_ltq (kdX7_4 ho)) ⟨Nat.le_of_ble_eq_true rfl, Nat.le_of_ble_eq_true rfl⟩ (Nat.le_of_ble_eq_true rfl) (fun z => z) (rX4_add (q := q) ((o + 5)) x18 x22 h23 (kdX7_4 ho)) (fun h25 e26 => Or.inl ⟨_, _, rfl, fun z => z, ?_⟩)
        show mm_E2 _ _ _ _ _ [] h25 _ _
        refine me_iload (pc' := 111) (i := 5) dX7_refillReservation_109 rfl rfl ?_
        refine me_iload (pc' := 113) (i := 8) dX7_refillReservation_111 rfl rfl ?_
        refine me_isub (pc' := 114) dX7_refillReservation_113 rfl ?_
        refine mm_bnd ((w12 - x22)) (fun x27 => [some (.ref o), some (.ref 347), some (.int u10), none, some (.int u11), some (.int w12), some (.int w13), some (.int x18), some (.int x22)]) (fun x27 => [.int x27]) (fun _ => h25) (fun x27 => ?_)
        refine me_istore (pc' := 116) (i := 5) (L' := [some (.ref o), some (.ref 347), some (.int u10), none, some (.int u11), some (.int x27), some (.int w13), some (.int x18), some (.int x22)]) dX7_refillReservation_114 rfl (Nat.le_of_ble_eq_true rfl) (Nat.le_of_ble_eq_true rfl) rfl ?_
        refine me_iinc (pc' := 119) (i := 6) (x := w13) (y := w13 + 1) (L' := [some (.ref o), some (.ref 347), some (.int u10), none, some (.int u11), some (.int x27), some (.int (w13 + 1)), some (.int x18), some (.int x22)]) dX7_refillReservation_116 rfl (Nat.le_of_ble_eq_true rfl) (Nat.le_of_ble_eq_true rfl) rfl (kc_plus kc_i1) rfl ?_
        refine mm_bnd (w13 + 1) (fun x28 => [some (.ref o), some (.ref 347), some (.int u10), none, some (.int u11), some (.int x27), some (.int x28), some (.int x18), some (.int x22)]) (fun _ => []) (fun _ => h25) (fun x28 => ?_)
        refine me_goto (tgt := 44) dX7_refillReservation_119 (by decide) ?_
        exact mm_maskB [true, true, true, false, true, true, true, false, false] (ih x27 x28 h25)
theorem rX7_refillReservation {q : mm_q} (o : Nat) (p1 : Int32) (h : mm_H) (ho : mm_kd o = (0, 7)) : mm_R2 (mm_Sq q) (mm_Sq q) mX7_refillReservation [.ref o, .ref 347, .int p1] h (gX7_refillReservation o p1 h) lf_ie := by
  refine mm_body (L := [some (.ref o), some (.ref 347), some (.int p1), none, none, none, none, none, none]) rfl (by decide +kernel) (Nat.le_of_ble_eq_true rfl) rfl ?_
  unfold gX7_refillReservation
  refine me_aload_n (pc' := 1) (i := 0) dX7_refillReservation_0 rfl rfl rfl ?_
  refine me_getR (pc' := 4) (q' := (o + 15)) dX7_refillReservation_1 rfl fkX7_38 (mm_ks ho) (mm_ltq ho) rfl (mrX7_10 ho) ?_
  refine me_iload_n (pc' := 5) (i := 2) dX7_refillReservation_4 rfl rfl rfl ?_
  refine me_callV (As := [.int p1]) (st := []) (F' := (mm_Sq q)) (G' := (mm_Sq q)) (F'' := (mm_Sq q)) (pc' := 8) dX7_refillReservation_5 rfl mfX4_get rfl lkX7_79 (mm_ks (kdX7_10 ho)) rfl (mm_ltq (kdX7_10 ho)) ⟨Nat.le_of_ble_eq_true rfl, Nat.le_of_ble_eq_true rfl⟩ (Nat.le_of_ble_eq_true rfl) (fun z => z) (rX4_get (q := q) ((o + 15)) p1 h (kdX7_10 ho)) (fun x1 e2 => Or.inl ⟨_, _, rfl, fun z => z, ?_⟩)
  show mm_E2 _ _ _ _ _ [.int x1] h _ _
  refine me_aload_n (pc' := 9) (i := 0) dX7_refillReservation_8 rfl rfl rfl ?_
  refine me_getI (pc' := 12) dX7_refillReservation_9 rfl fkX7_62 (mm_ks ho) (mm_ltq ho) rfl ?_
  refine me_mmax (pc' := 15) dX7_refillReservation_12 rfl ljX7_126 ⟨Nat.le_of_ble_eq_true rfl, Nat.le_of_ble_eq_true rfl⟩ (Nat.le_of_ble_eq_true rfl) ?_
  show mm_E2 _ _ _ _ _ [.int (mm_max x1 ((mh_I h o 0)))] _ _ _
  refine mm_bnd ((mm_max x1 ((mh_I h o 0)))) (fun x3 => [some (.ref o), some (.ref 347), some (.int p1), none, none, none, none, none, none]) (fun x3 => [.int x3]) (fun _ => h) (fun x3 => ?_)
  refine me_istore_n (pc' := 16) (i := 3) (L' := [some (.ref o), some (.ref 347), some (.int p1), some (.int x3), none, none, none, none, none]) dX7_refillReservation_15 rfl rfl (Nat.le_of_ble_eq_true rfl) (Nat.le_of_ble_eq_true rfl) rfl ?_
  refine me_aload_n (pc' := 17) (i := 0) dX7_refillReservation_16 rfl rfl rfl ?_
  refine me_aload_n (pc' := 18) (i := 1) dX7_refillReservation_17 rfl rfl rfl ?_
  refine me_aload_n (pc' := 19) (i := 0) dX7_refillReservation_18 rfl rfl rfl ?_
  refine me_getR (pc' := 22) (q' := (o + 11)) dX7_refillReservation_19 rfl fkX7_32 (mm_ks ho) (mm_ltq ho) rfl (mrX7_8 ho) ?_
  refine me_iload_n (pc' := 23) (i := 2) dX7_refillReservation_22 rfl rfl rfl ?_
  refine me_callV (As := [.int p1]) (st := [.ref 347, .ref o]) (F' := (mm_Sq q)) (G' := (mm_Sq q)) (F'' := (mm_Sq q)) (pc' := 26) dX7_refillReservation_23 rfl mfX4_get rfl lkX7_79 (mm_ks (kdX7_8 ho)) rfl (mm_ltq (kdX7_8 ho)) ⟨Nat.le_of_ble_eq_true rfl, Nat.le_of_ble_eq_true rfl⟩ (Nat.le_of_ble_eq_true rfl) (fun z => z) (rX4_get (q := q) ((o + 11)) p1 h (kdX7_8 ho)) (fun x4 e5 => Or.inl ⟨_, _, rfl, fun z => z, ?_⟩)
  show mm_E2 _ _ _ _ _ [.int x4, .ref 347, .ref o] h _ _
  refine me_iload_n (pc' := 27) (i := 3) dX7_refillReservation_26 rfl rfl rfl ?_
  refine me_callV (As := [.ref 347, .int x4, .int x3]) (st := []) (F' := (mm_Sq q)) (G' := (mm_Sq q)) (F'' := (mm_Sq q)) (pc' := 30) dX7_refillReservation_27 rfl mfX7_collectIssueOrder rfl lkX7_138 (mm_ks ho) rfl (mm_ltq ho) ⟨Nat.le_of_ble_eq_true rfl, Nat.le_of_ble_eq_true rfl⟩ (Nat.le_of_ble_eq_true rfl) (fun z => z) (rX7_collectIssueOrder (q := q) o x4 x3 h ho) (fun h6 e7 => Or.inl ⟨_, _, rfl, fun z => z, ?_⟩)
  show mm_E2 _ _ _ _ _ [] h6 _ _
  refine me_aload_n (pc' := 31) (i := 0) dX7_refillReservation_30 rfl rfl rfl ?_
  refine me_iload_n (pc' := 32) (i := 2) dX7_refillReservation_31 rfl rfl rfl ?_
  refine me_callV (As := [.int p1]) (st := []) (F' := (mm_Sq q)) (G' := (mm_Sq q)) (F'' := (mm_Sq q)) (pc' := 35) dX7_refillReservation_32 rfl mfX7_missingUnits rfl lkX7_120 (mm_ks ho) rfl (mm_ltq ho) ⟨Nat.le_of_ble_eq_true rfl, Nat.le_of_ble_eq_true rfl⟩ (Nat.le_of_ble_eq_true rfl) (fun z => z) (rX7_missingUnits (q := q) o p1 h6 ho) (fun x8 e9 => Or.inl ⟨_, _, rfl, fun z => z, ?_⟩)
  show mm_E2 _ _ _ _ _ [.int x8] h6 _ _
  refine me_istore (pc' := 37) (i := 4) (L' := [some (.ref o), some (.ref 347), some (.int p1), some (.int x3), some (.int x8), none, none, none, none]) dX7_refillReservation_35 rfl (Nat.le_of_ble_eq_true rfl) (Nat.le_of_ble_eq_true rfl) rfl ?_
  refine me_iload (pc' := 39) (i := 4) dX7_refillReservation_37 rfl rfl ?_
  refine me_istore (pc' := 41) (i := 5) (L' := [some (.ref o), some (.ref 347), some (.int p1), some (.int x3), some (.int x8), some (.int x8), none, none, none]) dX7_refillReservation_39 rfl (Nat.le_of_ble_eq_true rfl) (Nat.le_of_ble_eq_true rfl) rfl ?_
  refine me_iconst (pc' := 42) (v := 0) dX7_refillReservation_41 rfl kc_i0 ?_
  refine me_istore (pc' := 44) (i := 6) (L' := [some (.ref o), some (.ref 347), some (.int p1), some (.int x3), some (.int x8), some (.int x8), some (.int 0), none, none]) dX7_refillReservation_42 rfl (Nat.le_of_ble_eq_true rfl) (Nat.le_of_ble_eq_true rfl) rfl ?_
  exact mm_maskB [true, true, true, false, true, true, true, false, false] (rX7_refillReservation_L44 (q := q) o p1 x8 ho mm_F x8 0 h6)
def gX7_addReservation_L50 (o : Nat) (u10 : Int32) : Nat → Int32 → mm_H → Option (Int32 × mm_H)
  | 0, _, _ => none
  | n + 1, w11, h12 =>
    if w11 < 20 then
    (gX4_put ((o + 19)) (((u10 * 20) + w11)) 0 h12).bind (fun (h17 : mm_H) =>
    (some (w11 + 1)).bind (fun (x19 : Int32) =>
    gX7_addReservation_L50 o u10 n x19 h17))
    else
    (some (ms_I h12 o 7 (((mh_I h12 o 7) + 1)))).bind (fun (h14 : mm_H) =>
    (gX7_refillReservation o u10 h14).bind (fun (x15 : (Int32 × mm_H)) =>
    some (u10, x15.2)))
def gX7_addReservation (o : Nat) (p1 : Int32) (p2 : Int32) (p3 : Int32) (h : mm_H) : Option (Int32 × mm_H) :=
(some ((mh_I h o 7))).bind (fun (x1 : Int32) =>
(gX4_put ((o + 11)) x1 p1 h).bind (fun (h2 : mm_H) =>
(gX4_put ((o + 13)) x1 p2 h2).bind (fun (h4 : mm_H) =>
(gX4_put ((o + 15)) x1 p3 h4).bind (fun (h6 : mm_H) =>
(gX4_put ((o + 17)) x1 0 h6).bind (fun (h8 : mm_H) =>
gX7_addReservation_L50 o x1 mm_F 0 h8)))))
theorem rX7_addReservation_L50 {q : mm_q} (o : Nat) (u10 : Int32)   (ho : mm_kd o = (0, 7)) : ∀ (n : Nat) (w11 : Int32) (h12 : mm_H), mm_E2 (mm_Sq q) (mm_Sq q) mX7_addReservation 50 [some (.ref o), some (.ref 347), none, none, none, some (.int u10), some (.int w11)] [] h12 (gX7_addReservation_L50 o u10  n w11 h12) lf_ie := by
  intro n
  induction n with
  | zero =>
    intro w11 h12
    exact mm_none
  | succ n ih =>
    intro w11 h12
    rw [gX7_addReservation_L50]
    refine me_iload (pc' := 52) (i := 6) dX7_addReservation_50 rfl rfl ?_
    refine me_bipush (pc' := 54) (v := 20) dX7_addReservation_52 rfl kc_b20 ?_
    refine me_icmp_ge (pc' := 57) (tgt := 79) dX7_addReservation_54 (by decide) rfl (fun c13 => ?_) (fun c13 => ?_)
    · refine me_aload_n (pc' := 80) (i := 0) dX7_addReservation_79 rfl rfl rfl ?_
      refine me_dup (pc' := 81) dX7_addReservation_80 rfl rfl ?_
      refine me_getI (pc' := 84) dX7_addReservation_81 rfl fkX7_69 (mm_ks ho) (mm_ltq ho) rfl ?_
      refine me_iconst (pc' := 85) (v := 1) dX7_addReservation_84 rfl kc_i1 ?_
      refine me_iadd (pc' := 86) dX7_addReservation_85 rfl ?_
      refine me_putI (F' := (mm_Sq q)) (pc' := 89) dX7_addReservation_86 rfl fkX7_69 (mm_ks ho) (mm_ltq ho) rfl pgX7_7 (fun z => z) ?_
      refine mm_bnd (ms_I h12 o 7 (((mh_I h12 o 7) + 1))) (fun _ => [some (.ref o), some (.ref 347), none, none, none, some (.int u10), some (.int w11)]) (fun _ => []) (fun h14 => h14) (fun h14 => ?_)
      refine me_aload_n (pc' := 90) (i := 0) dX7_addReservation_89 rfl rfl rfl ?_
      refine me_aload_n (pc' := 91) (i := 1) dX7_addReservation_90 rfl rfl rfl ?_
      refine me_iload (pc' := 93) (i := 5) dX7_addReservation_91 rfl rfl ?_
      refine me_callV (As := [.ref 347, .int u10]) (st := []) (F' := (mm_Sq q)) (G' := (mm_Sq q)) (F'' := (mm_Sq q)) (pc' := 96) dX7_addReservation_93 rfl mfX7_refillReservation rfl lkX7_146 (mm_ks ho) rfl (mm_ltq ho) ⟨Nat.le_of_ble_eq_true rfl, Nat.le_of_ble_eq_true rfl⟩ (Nat.le_of_ble_eq_true rfl) (fun z => z) (rX7_refillReservation (q := q) o u10 h14 ho) (fun x15 e16 => Or.inl ⟨_, _, rfl, fun z => z, ?_⟩)
      show mm_E2 _ _ _ _ _ [.int x15.1] x15.2 _ _
      refine me_pop (pc' := 97) dX7_addReservation_96 rfl rfl ?_
      refine me_iload (pc' := 99) (i := 5) dX7_addReservation_97 rfl rfl ?_
      exact me_iret dX7_addReservation_99 rfl (fun z => z) rfl
    · refine me_aload_n (pc' := 58) (i := 0) dX7_addReservation_57 rfl rfl rfl ?_
      refine me_getR (pc' := 61) (q' := (o + 19)) dX7_addReservation_58 rfl fkX7_44 (mm_ks ho) (mm_ltq ho) rfl (mrX7_12 ho) ?_
      refine me_iload (pc' := 63) (i := 5) dX7_addReservation_61 rfl rfl ?_
      refine me_bipush (pc' := 65) (v := 20) dX7_addReservation_63 rfl kc_b20 ?_
      refine me_imul (pc' := 66) dX7_addReservation_65 rfl ?_
      refine me_iload (pc' := 68) (i := 6) dX7_addReservation_66 rfl rfl ?_
      refine me_iadd (pc' := 69) dX7_addReservation_68 rfl ?_
      refine me_iconst (pc' := 70) (v := 0) dX7_addReservation_69 rfl kc_i0 ?_
      refine me_callV (As := [.int ((u10 * 20) + w11), .int 0]) (st := []) (F' := (mm_Sq q)) (G' := (mm_Sq q)) (F'' := (mm_Sq q)) (pc' := 73) dX7_addReservation_70 rfl mfX4_put rfl lkX7_132 (mm_ks (kdX7_12 ho)) rfl (mm_ltq (kdX7_12 ho)) ⟨Nat.le_of_ble_eq_true rfl, Nat.le_of_ble_eq_true rfl⟩ (Nat.le_of_ble_eq_true rfl) (fun z => z) (rX4_put (q := q) ((o + 19)) (((u10 * 20) + w11)) 0 h12 (kdX7_12 ho)) (fun h17 e18 => Or.inl ⟨_, _, rfl, fun z => z, ?_⟩)
      show mm_E2 _ _ _ _ _ [] h17 _ _
      refine me_iinc (pc' := 76) (i := 6) (x := w11) (y := w11 + 1) (L' := [some (.ref o), some (.ref 347), none, none, none, some (.int u10), some (.int (w11 + 1))]) dX7_addReservation_73 rfl (Nat.le_of_ble_eq_true rfl) (Nat.le_of_ble_eq_true rfl) rfl (kc_plus kc_i1) rfl ?_
      refine mm_bnd (w11 + 1) (fun x19 => [some (.ref o), some (.ref 347), none, none, none, some (.int u10), some (.int x19)]) (fun _ => []) (fun _ => h17) (fun x19 => ?_)
      refine me_goto (tgt := 50) dX7_addReservation_76 (by decide) ?_
      exact ih x19 h17
theorem rX7_addReservation {q : mm_q} (o : Nat) (p1 : Int32) (p2 : Int32) (p3 : Int32) (h : mm_H) (ho : mm_kd o = (0, 7)) : mm_R2 (mm_Sq q) (mm_Sq q) mX7_addReservation [.ref o, .ref 347, .int p1, .int p2, .int p3] h (gX7_addReservation o p1 p2 p3 h) lf_ie := by
  refine mm_body (L := [some (.ref o), some (.ref 347), some (.int p1), some (.int p2), some (.int p3), none, none]) rfl (by decide +kernel) (Nat.le_of_ble_eq_true rfl) rfl ?_
  unfold gX7_addReservation
  refine me_aload_n (pc' := 1) (i := 0) dX7_addReservation_0 rfl rfl rfl ?_
  refine me_getI (pc' := 4) dX7_addReservation_1 rfl fkX7_69 (mm_ks ho) (mm_ltq ho) rfl ?_
  refine mm_bnd ((mh_I h o 7)) (fun x1 => [some (.ref o), some (.ref 347), some (.int p1), some (.int p2), some (.int p3), none, none]) (fun x1 => [.int x1]) (fun _ => h) (fun x1 => ?_)
  refine me_istore (pc' := 6) (i := 5) (L' := [some (.ref o), some (.ref 347), some (.int p1), some (.int p2), some (.int p3), some (.int x1), none]) dX7_addReservation_4 rfl (Nat.le_of_ble_eq_true rfl) (Nat.le_of_ble_eq_true rfl) rfl ?_
  refine me_aload_n (pc' := 7) (i := 0) dX7_addReservation_6 rfl rfl rfl ?_
  refine me_getR (pc' := 10) (q' := (o + 11)) dX7_addReservation_7 rfl fkX7_32 (mm_ks ho) (mm_ltq ho) rfl (mrX7_8 ho) ?_
  refine me_iload (pc' := 12) (i := 5) dX7_addReservation_10 rfl rfl ?_
  refine me_iload_n (pc' := 13) (i := 2) dX7_addReservation_12 rfl rfl rfl ?_
  refine me_callV (As := [.int x1, .int p1]) (st := []) (F' := (mm_Sq q)) (G' := (mm_Sq q)) (F'' := (mm_Sq q)) (pc' := 16) dX7_addReservation_13 rfl mfX4_put rfl lkX7_132 (mm_ks (kdX7_8 ho)) rfl (mm_ltq (kdX7_8 ho)) ⟨Nat.le_of_ble_eq_true rfl, Nat.le_of_ble_eq_true rfl⟩ (Nat.le_of_ble_eq_true rfl) (fun z => z) (rX4_put (q := q) ((o + 11)) x1 p1 h (kdX7_8 ho)) (fun h2 e3 => Or.inl ⟨_, _, rfl, fun z => z, ?_⟩)
  show mm_E2 _ _ _ _ _ [] h2 _ _
  refine me_aload_n (pc' := 17) (i := 0) dX7_addReservation_16 rfl rfl rfl ?_
  refine me_getR (pc' := 20) (q' := (o + 13)) dX7_addReservation_17 rfl fkX7_35 (mm_ks ho) (mm_ltq ho) rfl (mrX7_9 ho) ?_
  refine me_iload (pc' := 22) (i := 5) dX7_addReservation_20 rfl rfl ?_
  refine me_iload_n (pc' := 23) (i := 3) dX7_addReservation_22 rfl rfl rfl ?_
  refine me_callV (As := [.int x1, .int p2]) (st := []) (F' := (mm_Sq q)) (G' := (mm_Sq q)) (F'' := (mm_Sq q)) (pc' := 26) dX7_addReservation_23 rfl mfX4_put rfl lkX7_132 (mm_ks (kdX7_9 ho)) rfl (mm_ltq (kdX7_9 ho)) ⟨Nat.le_of_ble_eq_true rfl, Nat.le_of_ble_eq_true rfl⟩ (Nat.le_of_ble_eq_true rfl) (fun z => z) (rX4_put (q := q) ((o + 13)) x1 p2 h2 (kdX7_9 ho)) (fun h4 e5 => Or.inl ⟨_, _, rfl, fun z => z, ?_⟩)
  show mm_E2 _ _ _ _ _ [] h4 _ _
  refine me_aload_n (pc' := 27) (i := 0) dX7_addReservation_26 rfl rfl rfl ?_
  refine me_getR (pc' := 30) (q' := (o + 15)) dX7_addReservation_27 rfl fkX7_38 (mm_ks ho) (mm_ltq ho) rfl (mrX7_10 ho) ?_
  refine me_iload (pc' := 32) (i := 5) dX7_addReservation_30 rfl rfl ?_
  refine me_iload (pc' := 34) (i := 4) dX7_addReservation_32 rfl rfl ?_
  refine me_callV (As := [.int x1, .int p3]) (st := []) (F' := (mm_Sq q)) (G' := (mm_Sq q)) (F'' := (mm_Sq q)) (pc' := 37) dX7_addReservation_34 rfl mfX4_put rfl lkX7_132 (mm_ks (kdX7_10 ho)) rfl (mm_ltq (kdX7_10 ho)) ⟨Nat.le_of_ble_eq_true rfl, Nat.le_of_ble_eq_true rfl⟩ (Nat.le_of_ble_eq_true rfl) (fun z => z) (rX4_put (q := q) ((o + 15)) x1 p3 h4 (kdX7_10 ho)) (fun h6 e7 => Or.inl ⟨_, _, rfl, fun z => z, ?_⟩)
  show mm_E2 _ _ _ _ _ [] h6 _ _
  refine me_aload_n (pc' := 38) (i := 0) dX7_addReservation_37 rfl rfl rfl ?_
  refine me_getR (pc' := 41) (q' := (o + 17)) dX7_addReservation_38 rfl fkX7_41 (mm_ks ho) (mm_ltq ho) rfl (mrX7_11 ho) ?_
  refine me_iload (pc' := 43) (i := 5) dX7_addReservation_41 rfl rfl ?_
  refine me_iconst (pc' := 44) (v := 0) dX7_addReservation_43 rfl kc_i0 ?_
  refine me_callV (As := [.int x1, .int 0]) (st := []) (F' := (mm_Sq q)) (G' := (mm_Sq q)) (F'' := (mm_Sq q)) (pc' := 47) dX7_addReservation_44 rfl mfX4_put rfl lkX7_132 (mm_ks (kdX7_11 ho)) rfl (mm_ltq (kdX7_11 ho)) ⟨Nat.le_of_ble_eq_true rfl, Nat.le_of_ble_eq_true rfl⟩ (Nat.le_of_ble_eq_true rfl) (fun z => z) (rX4_put (q := q) ((o + 17)) x1 0 h6 (kdX7_11 ho)) (fun h8 e9 => Or.inl ⟨_, _, rfl, fun z => z, ?_⟩)
  show mm_E2 _ _ _ _ _ [] h8 _ _
  refine me_iconst (pc' := 48) (v := 0) dX7_addReservation_47 rfl kc_i0 ?_
  refine me_istore (pc' := 50) (i := 6) (L' := [some (.ref o), some (.ref 347), some (.int p1), some (.int p2), some (.int p3), some (.int x1), some (.int 0)]) dX7_addReservation_48 rfl (Nat.le_of_ble_eq_true rfl) (Nat.le_of_ble_eq_true rfl) rfl ?_
  exact mm_maskB [true, true, false, false, false, true, true] (rX7_addReservation_L50 (q := q) o x1 ho mm_F 0 h8)
def gX7_close_L11 (o : Nat) (u3 : Int32) : Nat → Int32 → mm_H → Option mm_H
  | 0, _, _ => none
  | n + 1, w4, h5 =>
    if w4 < (mh_I h5 o 1) then
    (gX7_allocatedUnits o u3 w4 h5).bind (fun (x7 : Int32) =>
    (gX4_add ((o + 5)) w4 ((-x7)) h5).bind (fun (h9 : mm_H) =>
    (some (w4 + 1)).bind (fun (x11 : Int32) =>
    gX7_close_L11 o u3 n x11 h9)))
    else
    some h5
def gX7_close (o : Nat) (p0 : Int32) (p1 : Int32) (h : mm_H) : Option mm_H :=
(gX4_put ((o + 17)) p0 p1 h).bind (fun (h1 : mm_H) =>
gX7_close_L11 o p0 mm_F 0 h1)
theorem rX7_close_L11 {q : mm_q} (o : Nat) (u3 : Int32)   (ho : mm_kd o = (0, 7)) : ∀ (n : Nat) (w4 : Int32) (h5 : mm_H), mm_E2 (mm_Sq q) (mm_Sq q) mX7_close 11 [some (.ref o), some (.int u3), none, some (.int w4)] [] h5 (gX7_close_L11 o u3  n w4 h5) lf_v := by
  intro n
  induction n with
  | zero =>
    intro w4 h5
    exact mm_none
  | succ n ih =>
    intro w4 h5
    rw [gX7_close_L11]
    refine me_iload_n (pc' := 12) (i := 3) dX7_close_11 rfl rfl rfl ?_
    refine me_aload_n (pc' := 13) (i := 0) dX7_close_12 rfl rfl rfl ?_
    refine me_getI (pc' := 16) dX7_close_13 rfl fkX7_66 (mm_ks ho) (mm_ltq ho) rfl ?_
    refine me_icmp_ge (pc' := 19) (tgt := 40) dX7_close_16 (by decide) rfl (fun c6 => ?_) (fun c6 => ?_)
    · exact me_vret dX7_close_40 rfl (fun z => z) rfl
    · refine me_aload_n (pc' := 20) (i := 0) dX7_close_19 rfl rfl rfl ?_
      refine me_getR (pc' := 23) (q' := (o + 5)) dX7_close_20 rfl fkX7_23 (mm_ks ho) (mm_ltq ho) rfl (mrX7_4 ho) ?_
      refine me_iload_n (pc' := 24) (i := 3) dX7_close_23 rfl rfl rfl ?_
      refine me_aload_n (pc' := 25) (i := 0) dX7_close_24 rfl rfl rfl ?_
      refine me_iload_n (pc' := 26) (i := 1) dX7_close_25 rfl rfl rfl ?_
      refine me_iload_n (pc' := 27) (i := 3) dX7_close_26 rfl rfl rfl ?_
      refine me_callV (As := [.int u3, .int w4]) (st := [.int w4, .ref (o + 5)]) (F' := (mm_Sq q)) (G' := (mm_Sq q)) (F'' := (mm_Sq q)) (pc' := 30) dX7_close_27 rfl mfX7_allocatedUnits rfl lkX7_129 (mm_ks ho) rfl (mm_ltq ho) ⟨Nat.le_of_ble_eq_true rfl, Nat.le_of_ble_eq_true rfl⟩ (Nat.le_of_ble_eq_true rfl) (fun z => z) (rX7_allocatedUnits (q := q) o u3 w4 h5 ho) (fun x7 e8 => Or.inl ⟨_, _, rfl, fun z => z, ?_⟩)
      show mm_E2 _ _ _ _ _ [.int x7, .int w4, .ref (o + 5)] h5 _ _
      refine me_ineg (pc' := 31) dX7_close_30 rfl ?_
      refine me_callV (As := [.int w4, .int (-x7)]) (st := []) (F' := (mm_Sq q)) (G' := (mm_Sq q)) (F'' := (mm_Sq q)) (pc' := 34) dX7_close_31 rfl mfX4_add rfl lkX7_135 (mm_ks (kdX7_4 ho)) rfl (mm_ltq (kdX7_4 ho)) ⟨Nat.le_of_ble_eq_true rfl, Nat.le_of_ble_eq_true rfl⟩ (Nat.le_of_ble_eq_true rfl) (fun z => z) (rX4_add (q := q) ((o + 5)) w4 ((-x7)) h5 (kdX7_4 ho)) (fun h9 e10 => Or.inl ⟨_, _, rfl, fun z => z, ?_⟩)
      show mm_E2 _ _ _ _ _ [] h9 _ _
      refine me_iinc (pc' := 37) (i := 3) (x := w4) (y := w4 + 1) (L' := [some (.ref o), some (.int u3), none, some (.int (w4 + 1))]) dX7_close_34 rfl (Nat.le_of_ble_eq_true rfl) (Nat.le_of_ble_eq_true rfl) rfl (kc_plus kc_i1) rfl ?_
      refine mm_bnd (w4 + 1) (fun x11 => [some (.ref o), some (.int u3), none, some (.int x11)]) (fun _ => []) (fun _ => h9) (fun x11 => ?_)
      refine me_goto (tgt := 11) dX7_close_37 (by decide) ?_
      exact ih x11 h9
theorem rX7_close {q : mm_q} (o : Nat) (p0 : Int32) (p1 : Int32) (h : mm_H) (ho : mm_kd o = (0, 7)) : mm_R2 (mm_Sq q) (mm_Sq q) mX7_close [.ref o, .int p0, .int p1] h (gX7_close o p0 p1 h) lf_v := by
  refine mm_body (L := [some (.ref o), some (.int p0), some (.int p1), none]) rfl (by decide +kernel) (Nat.le_of_ble_eq_true rfl) rfl ?_
  unfold gX7_close
  refine me_aload_n (pc' := 1) (i := 0) dX7_close_0 rfl rfl rfl ?_
  refine me_getR (pc' := 4) (q' := (o + 17)) dX7_close_1 rfl fkX7_41 (mm_ks ho) (mm_ltq ho) rfl (mrX7_11 ho) ?_
  refine me_iload_n (pc' := 5) (i := 1) dX7_close_4 rfl rfl rfl ?_
  refine me_iload_n (pc' := 6) (i := 2) dX7_close_5 rfl rfl rfl ?_
  refine me_callV (As := [.int p0, .int p1]) (st := []) (F' := (mm_Sq q)) (G' := (mm_Sq q)) (F'' := (mm_Sq q)) (pc' := 9) dX7_close_6 rfl mfX4_put rfl lkX7_132 (mm_ks (kdX7_11 ho)) rfl (mm_ltq (kdX7_11 ho)) ⟨Nat.le_of_ble_eq_true rfl, Nat.le_of_ble_eq_true rfl⟩ (Nat.le_of_ble_eq_true rfl) (fun z => z) (rX4_put (q := q) ((o + 17)) p0 p1 h (kdX7_11 ho)) (fun h1 e2 => Or.inl ⟨_, _, rfl, fun z => z, ?_⟩)
  show mm_E2 _ _ _ _ _ [] h1 _ _
  refine me_iconst (pc' := 10) (v := 0) dX7_close_9 rfl kc_i0 ?_
  refine me_istore_n (pc' := 11) (i := 3) (L' := [some (.ref o), some (.int p0), some (.int p1), some (.int 0)]) dX7_close_10 rfl rfl (Nat.le_of_ble_eq_true rfl) (Nat.le_of_ble_eq_true rfl) rfl ?_
  exact mm_maskB [true, true, false, true] (rX7_close_L11 (q := q) o p0 ho mm_F 0 h1)
def gX7_shipReservation_L4 (o : Nat) (u1 : Int32) : Nat → Int32 → Int32 → mm_H → Option (Int32 × mm_H)
  | 0, _, _, _ => none
  | n + 1, w2, w3, h4 =>
    if w3 < (mh_I h4 o 1) then
    (gX7_allocatedUnits o u1 w3 h4).bind (fun (x14 : Int32) =>
    (gX4_add ((o + 3)) w3 ((-x14)) h4).bind (fun (h16 : mm_H) =>
    (gX4_get ((o + 9)) w3 h16).bind (fun (x18 : Int32) =>
    (some ((w2 + (x14 * x18)))).bind (fun (x20 : Int32) =>
    (some (w3 + 1)).bind (fun (x21 : Int32) =>
    gX7_shipReservation_L4 o u1 n x20 x21 h16)))))
    else
    (gX4_get ((o + 11)) u1 h4).bind (fun (x6 : Int32) =>
    (gX7_allUnitsAllocated o u1 h4).bind (fun (x8 : Int32) =>
    (gX4_add ((o + 25)) x6 x8 h4).bind (fun (h10 : mm_H) =>
    (gX7_close o u1 1 h10).bind (fun (h12 : mm_H) =>
    some (w2, h12)))))
def gX7_shipReservation (o : Nat) (p0 : Int32) (h : mm_H) : Option (Int32 × mm_H) :=
gX7_shipReservation_L4 o p0 mm_F 0 0 h
theorem rX7_shipReservation_L4 {q : mm_q} (o : Nat) (u1 : Int32)   (ho : mm_kd o = (0, 7)) : ∀ (n : Nat) (w2 : Int32) (w3 : Int32) (h4 : mm_H), mm_E2 (mm_Sq q) (mm_Sq q) mX7_shipReservation 4 [some (.ref o), some (.int u1), some (.int w2), some (.int w3), none] [] h4 (gX7_shipReservation_L4 o u1  n w2 w3 h4) lf_ie := by
  intro n
  induction n with
  | zero =>
    intro w2 w3 h4
    exact mm_none
  | succ n ih =>
    intro w2 w3 h4
    rw [gX7_shipReservation_L4]
    refine me_iload_n (pc' := 5) (i := 3) dX7_shipReservation_4 rfl rfl rfl ?_
    refine me_aload_n (pc' := 6) (i := 0) dX7_shipReservation_5 rfl rfl rfl ?_
    refine me_getI (pc' := 9) dX7_shipReservation_6 rfl fkX7_66 (mm_ks ho) (mm_ltq ho) rfl ?_
    refine me_icmp_ge (pc' := 12) (tgt := 51) dX7_shipReservation_9 (by decide) rfl (fun c5 => ?_) (fun c5 => ?_)
    · refine me_aload_n (pc' := 52) (i := 0) dX7_shipReservation_51 rfl rfl rfl ?_
      refine me_getR (pc' := 55) (q' := (o + 25)) dX7_shipReservation_52 rfl fkX7_53 (mm_ks ho) (mm_ltq ho) rfl (mrX7_15 ho) ?_
      refine me_aload_n (pc' := 56) (i := 0) dX7_shipReservation_55 rfl rfl rfl ?_
      refine me_getR (pc' := 59) (q' := (o + 11)) dX7_shipReservation_56 rfl fkX7_32 (mm_ks ho) (mm_ltq ho) rfl (mrX7_8 ho) ?_
      refine me_iload_n (pc' := 60) (i := 1) dX7_shipReservation_59 rfl rfl rfl ?_
      refine me_callV (As := [.int u1]) (st := [.ref (o + 25)]) (F' := (mm_Sq q)) (G' := (mm_Sq q)) (F'' := (mm_Sq q)) (pc' := 63) dX7_shipReservation_60 rfl mfX4_get rfl lkX7_79 (mm_ks (kdX7_8 ho)) rfl (mm_ltq (kdX7_8 ho)) ⟨Nat.le_of_ble_eq_true rfl, Nat.le_of_ble_eq_true rfl⟩ (Nat.le_of_ble_eq_true rfl) (fun z => z) (rX4_get (q := q) ((o + 11)) u1 h4 (kdX7_8 ho)) (fun x6 e7 => Or.inl ⟨_, _, rfl, fun z => z, ?_⟩)
      show mm_E2 _ _ _ _ _ [.int x6, .ref (o + 25)] h4 _ _
      refine me_aload_n (pc' := 64) (i := 0) dX7_shipReservation_63 rfl rfl rfl ?_
      refine me_iload_n (pc' := 65) (i := 1) dX7_shipReservation_64 rfl rfl rfl ?_
      refine me_callV (As := [.int u1]) (st := [.int x6, .ref (o + 25)]) (F' := (mm_Sq q)) (G' := (mm_Sq q)) (F'' := (mm_Sq q)) (pc' := 68) dX7_shipReservation_65 rfl mfX7_allUnitsAllocated rfl lkX7_117 (mm_ks ho) rfl (mm_ltq ho) ⟨Nat.le_of_ble_eq_true rfl, Nat.le_of_ble_eq_true rfl⟩ (Nat.le_of_ble_eq_true rfl) (fun z => z) (rX7_allUnitsAllocated (q := q) o u1 h4 ho) (fun x8 e9 => Or.inl ⟨_, _, rfl, fun z => z, ?_⟩)
      show mm_E2 _ _ _ _ _ [.int x8, .int x6, .ref (o + 25)] h4 _ _
      refine me_callV (As := [.int x6, .int x8]) (st := []) (F' := (mm_Sq q)) (G' := (mm_Sq q)) (F'' := (mm_Sq q)) (pc' := 71) dX7_shipReservation_68 rfl mfX4_add rfl lkX7_135 (mm_ks (kdX7_15 ho)) rfl (mm_ltq (kdX7_15 ho)) ⟨Nat.le_of_ble_eq_true rfl, Nat.le_of_ble_eq_true rfl⟩ (Nat.le_of_ble_eq_true rfl) (fun z => z) (rX4_add (q := q) ((o + 25)) x6 x8 h4 (kdX7_15 ho)) (fun h10 e11 => Or.inl ⟨_, _, rfl, fun z => z, ?_⟩)
      show mm_E2 _ _ _ _ _ [] h10 _ _
      refine me_aload_n (pc' := 72) (i := 0) dX7_shipReservation_71 rfl rfl rfl ?_
      refine me_iload_n (pc' := 73) (i := 1) dX7_shipReservation_72 rfl rfl rfl ?_
      refine me_iconst (pc' := 74) (v := 1) dX7_shipReservation_73 rfl kc_i1 ?_
      refine me_callV (As := [.int u1, .int 1]) (st := []) (F' := (mm_Sq q)) (G' := (mm_Sq q)) (F'' := (mm_Sq q)) (pc' := 77) dX7_shipReservation_74 rfl mfX7_close rfl lkX7_149 (mm_ks ho) rfl (mm_ltq ho) ⟨Nat.le_of_ble_eq_true rfl, Nat.le_of_ble_eq_true rfl⟩ (Nat.le_of_ble_eq_true rfl) (fun z => z) (rX7_close (q := q) o u1 1 h10 ho) (fun h12 e13 => Or.inl ⟨_, _, rfl, fun z => z, ?_⟩)
      show mm_E2 _ _ _ _ _ [] h12 _ _
      refine me_iload_n (pc' := 78) (i := 2) dX7_shipReservation_77 rfl rfl rfl ?_
      exact me_iret dX7_shipReservation_78 rfl (fun z => z) rfl
    · refine me_aload_n (pc' := 13) (i := 0) dX7_shipReservation_12 rfl rfl rfl ?_
      refine me_iload_n (pc' := 14) (i := 1) dX7_shipReservation_13 rfl rfl rfl ?_
      refine me_iload_n (pc' := 15) (i := 3) dX7_shipReservation_14 rfl rfl rfl ?_
      refine me_callV (As := [.int u1, .int w3]) (st := []) (F' := (mm_Sq q)) (G' := (mm_Sq q)) (F'' := (mm_Sq q)) (pc' := 18) dX7_shipReservation_15 rfl mfX7_allocatedUnits rfl lkX7_129 (mm_ks ho) rfl (mm_ltq ho) ⟨Nat.le_of_ble_eq_true rfl, Nat.le_of_ble_eq_true rfl⟩ (Nat.le_of_ble_eq_true rfl) (fun z => z) (rX7_allocatedUnits (q := q) o u1 w3 h4 ho) (fun x14 e15 => Or.inl ⟨_, _, rfl, fun z => z, ?_⟩)
      show mm_E2 _ _ _ _ _ [.int x14] h4 _ _
      refine me_istore (pc' := 20) (i := 4) (L' := [some (.ref o), some (.int u1), some (.int w2), some (.int w3), some (.int x14)]) dX7_shipReservation_18 rfl (Nat.le_of_ble_eq_true rfl) (Nat.le_of_ble_eq_true rfl) rfl ?_
      refine me_aload_n (pc' := 21) (i := 0) dX7_shipReservation_20 rfl rfl rfl ?_
      refine me_getR (pc' := 24) (q' := (o + 3)) dX7_shipReservation_21 rfl fkX7_20 (mm_ks ho) (mm_ltq ho) rfl (mrX7_3 ho) ?_
      refine me_iload_n (pc' := 25) (i := 3) dX7_shipReservation_24 rfl rfl rfl ?_
      refine me_iload (pc' := 27) (i := 4) dX7_shipReservation_25 rfl rfl ?_
      refine me_ineg (pc' := 28) dX7_shipReservation_27 rfl ?_
      refine me_callV (As := [.int w3, .int (-x14)]) (st := []) (F' := (mm_Sq q)) (G' := (mm_Sq q)) (F'' := (mm_Sq q)) (pc' := 31) dX7_shipReservation_28 rfl mfX4_add rfl lkX7_135 (mm_ks (kdX7_3 ho)) rfl (mm_ltq (kdX7_3 ho)) ⟨Nat.le_of_ble_eq_true rfl, Nat.le_of_ble_eq_true rfl⟩ (Nat.le_of_ble_eq_true rfl) (fun z => z) (rX4_add (q := q) ((o + 3)) w3 ((-x14)) h4 (kdX7_3 ho)) (fun h16 e17 => Or.inl ⟨_, _, rfl, fun z => z, ?_⟩)
      show mm_E2 _ _ _ _ _ [] h16 _ _
      refine me_iload_n (pc' := 32) (i := 2) dX7_shipReservation_31 rfl rfl rfl ?_
      refine me_iload (pc' := 34) (i := 4) dX7_shipReservation_32 rfl rfl ?_
      refine me_aload_n (pc' := 35) (i := 0) dX7_shipReservation_34 rfl rfl rfl ?_
      refine me_getR (pc' := 38) (q' := (o + 9)) dX7_shipReservation_35 rfl fkX7_29 (mm_ks ho) (mm_ltq ho) rfl (mrX7_6 ho) ?_
      refine me_iload_n (pc' := 39) (i := 3) dX7_shipReservation_38 rfl rfl rfl ?_
      refine me_callV (As := [.int w3]) (st := [.int x14, .int w2]) (F' := (mm_Sq q)) (G' := (mm_Sq q)) (F'' := (mm_Sq q)) (pc' := 42) dX7_shipReservation_39 rfl mfX4_get rfl lkX7_79 (mm_ks (kdX7_6 ho)) rfl (mm_ltq (kdX7_6 ho)) ⟨Nat.le_of_ble_eq_true rfl, Nat.le_of_ble_eq_true rfl⟩ (Nat.le_of_ble_eq_true rfl) (fun z => z) (rX4_get (q := q) ((o + 9)) w3 h16 (kdX7_6 ho)) (fun x18 e19 => Or.inl ⟨_, _, rfl, fun z => z, ?_⟩)
      show mm_E2 _ _ _ _ _ [.int x18, .int x14, .int w2] h16 _ _
      refine me_imul (pc' := 43) dX7_shipReservation_42 rfl ?_
      refine me_iadd (pc' := 44) dX7_shipReservation_43 rfl ?_
      refine mm_bnd ((w2 + (x14 * x18))) (fun x20 => [some (.ref o), some (.int u1), some (.int w2), some (.int w3), some (.int x14)]) (fun x20 => [.int x20]) (fun _ => h16) (fun x20 => ?_)
      refine me_istore_n (pc' := 45) (i := 2) (L' := [some (.ref o), some (.int u1), some (.int x20), some (.int w3), some (.int x14)]) dX7_shipReservation_44 rfl rfl (Nat.le_of_ble_eq_true rfl) (Nat.le_of_ble_eq_true rfl) rfl ?_
      refine me_iinc (pc' := 48) (i := 3) (x := w3) (y := w3 + 1) (L' := [some (.ref o), some (.int u1), some (.int x20), some (.int (w3 + 1)), some (.int x14)]) dX7_shipReservation_45 rfl (Nat.le_of_ble_eq_true rfl) (Nat.le_of_ble_eq_true rfl) rfl (kc_plus kc_i1) rfl ?_
      refine mm_bnd (w3 + 1) (fun x21 => [some (.ref o), some (.int u1), some (.int x20), some (.int x21), some (.int x14)]) (fun _ => []) (fun _ => h16) (fun x21 => ?_)
      refine me_goto (tgt := 4) dX7_shipReservation_48 (by decide) ?_
      exact mm_maskB [true, true, true, true, false] (ih x20 x21 h16)
theorem rX7_shipReservation {q : mm_q} (o : Nat) (p0 : Int32) (h : mm_H) (ho : mm_kd o = (0, 7)) : mm_R2 (mm_Sq q) (mm_Sq q) mX7_shipReservation [.ref o, .int p0] h (gX7_shipReservation o p0 h) lf_ie := by
  refine mm_body (L := [some (.ref o), some (.int p0), none, none, none]) rfl (by decide +kernel) (Nat.le_of_ble_eq_true rfl) rfl ?_
  unfold gX7_shipReservation
  refine me_iconst (pc' := 1) (v := 0) dX7_shipReservation_0 rfl kc_i0 ?_
  refine me_istore_n (pc' := 2) (i := 2) (L' := [some (.ref o), some (.int p0), some (.int 0), none, none]) dX7_shipReservation_1 rfl rfl (Nat.le_of_ble_eq_true rfl) (Nat.le_of_ble_eq_true rfl) rfl ?_
  refine me_iconst (pc' := 3) (v := 0) dX7_shipReservation_2 rfl kc_i0 ?_
  refine me_istore_n (pc' := 4) (i := 3) (L' := [some (.ref o), some (.int p0), some (.int 0), some (.int 0), none]) dX7_shipReservation_3 rfl rfl (Nat.le_of_ble_eq_true rfl) (Nat.le_of_ble_eq_true rfl) rfl ?_
  exact rX7_shipReservation_L4 (q := q) o p0 ho mm_F 0 0 h
def gX7_cancelReservation (o : Nat) (p0 : Int32) (h : mm_H) : Option (Int32 × mm_H) :=
(gX7_close o p0 2 h).bind (fun (h1 : mm_H) =>
(gX7_allUnitsAllocated o p0 h1).bind (fun (x3 : Int32) =>
some (x3, h1)))
theorem rX7_cancelReservation {q : mm_q} (o : Nat) (p0 : Int32) (h : mm_H) (ho : mm_kd o = (0, 7)) : mm_R2 (mm_Sq q) (mm_Sq q) mX7_cancelReservation [.ref o, .int p0] h (gX7_cancelReservation o p0 h) lf_ie := by
  refine mm_body (L := [some (.ref o), some (.int p0)]) rfl (by decide +kernel) (Nat.le_of_ble_eq_true rfl) rfl ?_
  unfold gX7_cancelReservation
  refine me_aload_n (pc' := 1) (i := 0) dX7_cancelReservation_0 rfl rfl rfl ?_
  refine me_iload_n (pc' := 2) (i := 1) dX7_cancelReservation_1 rfl rfl rfl ?_
  refine me_iconst (pc' := 3) (v := 2) dX7_cancelReservation_2 rfl kc_i2 ?_
  refine me_callV (As := [.int p0, .int 2]) (st := []) (F' := (mm_Sq q)) (G' := (mm_Sq q)) (F'' := (mm_Sq q)) (pc' := 6) dX7_cancelReservation_3 rfl mfX7_close rfl lkX7_149 (mm_ks ho) rfl (mm_ltq ho) ⟨Nat.le_of_ble_eq_true rfl, Nat.le_of_ble_eq_true rfl⟩ (Nat.le_of_ble_eq_true rfl) (fun z => z) (rX7_close (q := q) o p0 2 h ho) (fun h1 e2 => Or.inl ⟨_, _, rfl, fun z => z, ?_⟩)
  show mm_E2 _ _ _ _ _ [] h1 _ _
  refine me_aload_n (pc' := 7) (i := 0) dX7_cancelReservation_6 rfl rfl rfl ?_
  refine me_iload_n (pc' := 8) (i := 1) dX7_cancelReservation_7 rfl rfl rfl ?_
  refine me_callV (As := [.int p0]) (st := []) (F' := (mm_Sq q)) (G' := (mm_Sq q)) (F'' := (mm_Sq q)) (pc' := 11) dX7_cancelReservation_8 rfl mfX7_allUnitsAllocated rfl lkX7_117 (mm_ks ho) rfl (mm_ltq ho) ⟨Nat.le_of_ble_eq_true rfl, Nat.le_of_ble_eq_true rfl⟩ (Nat.le_of_ble_eq_true rfl) (fun z => z) (rX7_allUnitsAllocated (q := q) o p0 h1 ho) (fun x3 e4 => Or.inl ⟨_, _, rfl, fun z => z, ?_⟩)
  show mm_E2 _ _ _ _ _ [.int x3] h1 _ _
  exact me_iret dX7_cancelReservation_11 rfl (fun z => z) rfl
def gX7_countBatch (o : Nat) (p0 : Int32) (p1 : Int32) (h : mm_H) : Option (Int32 × mm_H) :=
(gX4_get ((o + 3)) p0 h).bind (fun (x1 : Int32) =>
(some ((p1 - x1))).bind (fun (x3 : Int32) =>
(gX4_put ((o + 3)) p0 p1 h).bind (fun (h4 : mm_H) =>
(gX4_get ((o + 1)) p0 h4).bind (fun (x6 : Int32) =>
(gX4_add ((o + 29)) x6 x3 h4).bind (fun (h8 : mm_H) =>
some (x3, h8))))))
theorem rX7_countBatch {q : mm_q} (o : Nat) (p0 : Int32) (p1 : Int32) (h : mm_H) (ho : mm_kd o = (0, 7)) : mm_R2 (mm_Sq q) (mm_Sq q) mX7_countBatch [.ref o, .int p0, .int p1] h (gX7_countBatch o p0 p1 h) lf_ie := by
  refine mm_body (L := [some (.ref o), some (.int p0), some (.int p1), none]) rfl (by decide +kernel) (Nat.le_of_ble_eq_true rfl) rfl ?_
  unfold gX7_countBatch
  refine me_iload_n (pc' := 1) (i := 2) dX7_countBatch_0 rfl rfl rfl ?_
  refine me_aload_n (pc' := 2) (i := 0) dX7_countBatch_1 rfl rfl rfl ?_
  refine me_getR (pc' := 5) (q' := (o + 3)) dX7_countBatch_2 rfl fkX7_20 (mm_ks ho) (mm_ltq ho) rfl (mrX7_3 ho) ?_
  refine me_iload_n (pc' := 6) (i := 1) dX7_countBatch_5 rfl rfl rfl ?_
  refine me_callV (As := [.int p0]) (st := [.int p1]) (F' := (mm_Sq q)) (G' := (mm_Sq q)) (F'' := (mm_Sq q)) (pc' := 9) dX7_countBatch_6 rfl mfX4_get rfl lkX7_79 (mm_ks (kdX7_3 ho)) rfl (mm_ltq (kdX7_3 ho)) ⟨Nat.le_of_ble_eq_true rfl, Nat.le_of_ble_eq_true rfl⟩ (Nat.le_of_ble_eq_true rfl) (fun z => z) (rX4_get (q := q) ((o + 3)) p0 h (kdX7_3 ho)) (fun x1 e2 => Or.inl ⟨_, _, rfl, fun z => z, ?_⟩)
  show mm_E2 _ _ _ _ _ [.int x1, .int p1] h _ _
  refine me_isub (pc' := 10) dX7_countBatch_9 rfl ?_
  refine mm_bnd ((p1 - x1)) (fun x3 => [some (.ref o), some (.int p0), some (.int p1), none]) (fun x3 => [.int x3]) (fun _ => h) (fun x3 => ?_)
  refine me_istore_n (pc' := 11) (i := 3) (L' := [some (.ref o), some (.int p0), some (.int p1), some (.int x3)]) dX7_countBatch_10 rfl rfl (Nat.le_of_ble_eq_true rfl) (Nat.le_of_ble_eq_true rfl) rfl ?_
  refine me_aload_n (pc' := 12) (i := 0) dX7_countBatch_11 rfl rfl rfl ?_
  refine me_getR (pc' := 15) (q' := (o + 3)) dX7_countBatch_12 rfl fkX7_20 (mm_ks ho) (mm_ltq ho) rfl (mrX7_3 ho) ?_
  refine me_iload_n (pc' := 16) (i := 1) dX7_countBatch_15 rfl rfl rfl ?_
  refine me_iload_n (pc' := 17) (i := 2) dX7_countBatch_16 rfl rfl rfl ?_
  refine me_callV (As := [.int p0, .int p1]) (st := []) (F' := (mm_Sq q)) (G' := (mm_Sq q)) (F'' := (mm_Sq q)) (pc' := 20) dX7_countBatch_17 rfl mfX4_put rfl lkX7_132 (mm_ks (kdX7_3 ho)) rfl (mm_ltq (kdX7_3 ho)) ⟨Nat.le_of_ble_eq_true rfl, Nat.le_of_ble_eq_true rfl⟩ (Nat.le_of_ble_eq_true rfl) (fun z => z) (rX4_put (q := q) ((o + 3)) p0 p1 h (kdX7_3 ho)) (fun h4 e5 => Or.inl ⟨_, _, rfl, fun z => z, ?_⟩)
  show mm_E2 _ _ _ _ _ [] h4 _ _
  refine me_aload_n (pc' := 21) (i := 0) dX7_countBatch_20 rfl rfl rfl ?_
  refine me_getR (pc' := 24) (q' := (o + 29)) dX7_countBatch_21 rfl fkX7_59 (mm_ks ho) (mm_ltq ho) rfl (mrX7_17 ho) ?_
  refine me_aload_n (pc' := 25) (i := 0) dX7_countBatch_24 rfl rfl rfl ?_
  refine me_getR (pc' := 28) (q' := (o + 1)) dX7_countBatch_25 rfl fkX7_14 (mm_ks ho) (mm_ltq ho) rfl (mrX7_2 ho) ?_
  refine me_iload_n (pc' := 29) (i := 1) dX7_countBatch_28 rfl rfl rfl ?_
  refine me_callV (As := [.int p0]) (st := [.ref (o + 29)]) (F' := (mm_Sq q)) (G' := (mm_Sq q)) (F'' := (mm_Sq q)) (pc' := 32) dX7_countBatch_29 rfl mfX4_get rfl lkX7_79 (mm_ks (kdX7_2 ho)) rfl (mm_ltq (kdX7_2 ho)) ⟨Nat.le_of_ble_eq_true rfl, Nat.le_of_ble_eq_true rfl⟩ (Nat.le_of_ble_eq_true rfl) (fun z => z) (rX4_get (q := q) ((o + 1)) p0 h4 (kdX7_2 ho)) (fun x6 e7 => Or.inl ⟨_, _, rfl, fun z => z, ?_⟩)
  show mm_E2 _ _ _ _ _ [.int x6, .ref (o + 29)] h4 _ _
  refine me_iload_n (pc' := 33) (i := 3) dX7_countBatch_32 rfl rfl rfl ?_
  refine me_callV (As := [.int x6, .int x3]) (st := []) (F' := (mm_Sq q)) (G' := (mm_Sq q)) (F'' := (mm_Sq q)) (pc' := 36) dX7_countBatch_33 rfl mfX4_add rfl lkX7_135 (mm_ks (kdX7_17 ho)) rfl (mm_ltq (kdX7_17 ho)) ⟨Nat.le_of_ble_eq_true rfl, Nat.le_of_ble_eq_true rfl⟩ (Nat.le_of_ble_eq_true rfl) (fun z => z) (rX4_add (q := q) ((o + 29)) x6 x3 h4 (kdX7_17 ho)) (fun h8 e9 => Or.inl ⟨_, _, rfl, fun z => z, ?_⟩)
  show mm_E2 _ _ _ _ _ [] h8 _ _
  refine me_iload_n (pc' := 37) (i := 3) dX7_countBatch_36 rfl rfl rfl ?_
  exact me_iret dX7_countBatch_37 rfl (fun z => z) rfl
def gX7_hasExpired (o : Nat) (p0 : Int32) (h : mm_H) : Option Bool :=
(gX4_get ((o + 7)) p0 h).bind (fun (x1 : Int32) =>
if x1 < (mh_I h o 0) then
some true
else
some false)
theorem rX7_hasExpired {q : mm_q} (o : Nat) (p0 : Int32) (h : mm_H) (ho : mm_kd o = (0, 7)) : mm_R2 (mm_Sq q) (mm_Sq q) mX7_hasExpired [.ref o, .int p0] h (gX7_hasExpired o p0 h) (lf_z h) := by
  refine mm_body (L := [some (.ref o), some (.int p0)]) rfl (by decide +kernel) (Nat.le_of_ble_eq_true rfl) rfl ?_
  unfold gX7_hasExpired
  refine me_aload_n (pc' := 1) (i := 0) dX7_hasExpired_0 rfl rfl rfl ?_
  refine me_getR (pc' := 4) (q' := (o + 7)) dX7_hasExpired_1 rfl fkX7_26 (mm_ks ho) (mm_ltq ho) rfl (mrX7_5 ho) ?_
  refine me_iload_n (pc' := 5) (i := 1) dX7_hasExpired_4 rfl rfl rfl ?_
  refine me_callV (As := [.int p0]) (st := []) (F' := (mm_Sq q)) (G' := (mm_Sq q)) (F'' := (mm_Sq q)) (pc' := 8) dX7_hasExpired_5 rfl mfX4_get rfl lkX7_79 (mm_ks (kdX7_5 ho)) rfl (mm_ltq (kdX7_5 ho)) ⟨Nat.le_of_ble_eq_true rfl, Nat.le_of_ble_eq_true rfl⟩ (Nat.le_of_ble_eq_true rfl) (fun z => z) (rX4_get (q := q) ((o + 7)) p0 h (kdX7_5 ho)) (fun x1 e2 => Or.inl ⟨_, _, rfl, fun z => z, ?_⟩)
  show mm_E2 _ _ _ _ _ [.int x1] h _ _
  refine me_aload_n (pc' := 9) (i := 0) dX7_hasExpired_8 rfl rfl rfl ?_
  refine me_getI (pc' := 12) dX7_hasExpired_9 rfl fkX7_62 (mm_ks ho) (mm_ltq ho) rfl ?_
  refine me_icmp_ge (pc' := 15) (tgt := 19) dX7_hasExpired_12 (by decide) rfl (fun c3 => ?_) (fun c3 => ?_)
  · refine me_iconst (pc' := 20) (v := 0) dX7_hasExpired_19 rfl kc_i0 ?_
    exact me_zret (b := false) dX7_hasExpired_20 rfl (fun z => z) rfl
  · refine me_iconst (pc' := 16) (v := 1) dX7_hasExpired_15 rfl kc_i1 ?_
    refine me_goto (tgt := 20) dX7_hasExpired_16 (by decide) ?_
    exact me_zret (b := true) dX7_hasExpired_20 rfl (fun z => z) rfl
def gX7_writeOff_L43 (o : Nat) (u11 : Int32) : Nat → Int32 → mm_H → Option mm_H
  | 0, _, _ => none
  | n + 1, w12, h13 =>
    if w12 < (mh_I h13 o 7) then
    (gX7_isPending o w12 h13).bind (fun (x15 : Bool) =>
    mm_jn (fun (h17 : mm_H) =>
    (some (w12 + 1)).bind (fun (x19 : Int32) =>
    gX7_writeOff_L43 o u11 n x19 h17)) (fun (j18 : mm_H → Option mm_H) =>
    if x15 = true then
    (gX4_put ((o + 19)) (((w12 * 20) + u11)) 0 h13).bind (fun (h21 : mm_H) =>
    j18 h21)
    else
    j18 h13))
    else
    some h13
def gX7_writeOff (o : Nat) (p0 : Int32) (h : mm_H) : Option mm_H :=
(gX4_get ((o + 1)) p0 h).bind (fun (x1 : Int32) =>
(gX4_get ((o + 3)) p0 h).bind (fun (x3 : Int32) =>
(gX4_add ((o + 27)) x1 x3 h).bind (fun (h5 : mm_H) =>
(gX4_put ((o + 3)) p0 0 h5).bind (fun (h7 : mm_H) =>
(gX4_put ((o + 5)) p0 0 h7).bind (fun (h9 : mm_H) =>
gX7_writeOff_L43 o p0 mm_F 0 h9)))))
theorem rX7_writeOff_L43 {q : mm_q} (o : Nat) (u11 : Int32)   (ho : mm_kd o = (0, 7)) : ∀ (n : Nat) (w12 : Int32) (h13 : mm_H), mm_E2 (mm_Sq q) (mm_Sq q) mX7_writeOff 43 [some (.ref o), some (.int u11), some (.int w12)] [] h13 (gX7_writeOff_L43 o u11  n w12 h13) lf_v := by
  intro n
  induction n with
  | zero =>
    intro w12 h13
    exact mm_none
  | succ n ih =>
    intro w12 h13
    rw [gX7_writeOff_L43]
    refine me_iload_n (pc' := 44) (i := 2) dX7_writeOff_43 rfl rfl rfl ?_
    refine me_aload_n (pc' := 45) (i := 0) dX7_writeOff_44 rfl rfl rfl ?_
    refine me_getI (pc' := 48) dX7_writeOff_45 rfl fkX7_69 (mm_ks ho) (mm_ltq ho) rfl ?_
    refine me_icmp_ge (pc' := 51) (tgt := 79) dX7_writeOff_48 (by decide) rfl (fun c14 => ?_) (fun c14 => ?_)
    · exact me_vret dX7_writeOff_79 rfl (fun z => z) rfl
    · refine me_aload_n (pc' := 52) (i := 0) dX7_writeOff_51 rfl rfl rfl ?_
      refine me_iload_n (pc' := 53) (i := 2) dX7_writeOff_52 rfl rfl rfl ?_
      refine me_callV (As := [.int w12]) (st := []) (F' := (mm_Sq q)) (G' := (mm_Sq q)) (F'' := (mm_Sq q)) (pc' := 56) dX7_writeOff_53 rfl mfX7_isPending rfl lkX7_113 (mm_ks ho) rfl (mm_ltq ho) ⟨Nat.le_of_ble_eq_true rfl, Nat.le_of_ble_eq_true rfl⟩ (Nat.le_of_ble_eq_true rfl) (fun z => z) (rX7_isPending (q := q) o w12 h13 ho) (fun x15 e16 => Or.inl ⟨_, _, rfl, fun z => z, ?_⟩)
      show mm_E2 _ _ _ _ _ [.int (mx_bi x15)] h13 _ _
      refine mm_jnI (fun (j189 : mm_H → Option mm_H) => ∀ (h17 : mm_H), mm_E2 (mm_Sq q) (mm_Sq q) mX7_writeOff 73 [some (.ref o), some (.int u11), some (.int w12)] [] h17 (j189 h17) lf_v) ?_ (fun j18 j18p => ?_)
      · intro h17
        refine me_iinc (pc' := 76) (i := 2) (x := w12) (y := w12 + 1) (L' := [some (.ref o), some (.int u11), some (.int (w12 + 1))]) dX7_writeOff_73 rfl (Nat.le_of_ble_eq_true rfl) (Nat.le_of_ble_eq_true rfl) rfl (kc_plus kc_i1) rfl ?_
        refine mm_bnd (w12 + 1) (fun x19 => [some (.ref o), some (.int u11), some (.int x19)]) (fun _ => []) (fun _ => h17) (fun x19 => ?_)
        refine me_goto (tgt := 43) dX7_writeOff_76 (by decide) ?_
        exact ih x19 h17
      refine me_ifB_eq (pc' := 59) (tgt := 73) dX7_writeOff_56 (by decide) rfl (fun c20 => ?_) (fun c20 => ?_)
      · exact j18p h13
      · refine me_aload_n (pc' := 60) (i := 0) dX7_writeOff_59 rfl rfl rfl ?_
        refine me_getR (pc' := 63) (q' := (o + 19)) dX7_writeOff_60 rfl fkX7_44 (mm_ks ho) (mm_ltq ho) rfl (mrX7_12 ho) ?_
        refine me_iload_n (pc' := 64) (i := 2) dX7_writeOff_63 rfl rfl rfl ?_
        refine me_bipush (pc' := 66) (v := 20) dX7_writeOff_64 rfl kc_b20 ?_
        refine me_imul (pc' := 67) dX7_writeOff_66 rfl ?_
        refine me_iload_n (pc' := 68) (i := 1) dX7_writeOff_67 rfl rfl rfl ?_
        refine me_iadd (pc' := 69) dX7_writeOff_68 rfl ?_
        refine me_iconst (pc' := 70) (v := 0) dX7_writeOff_69 rfl kc_i0 ?_
        refine me_callV (As := [.int ((w12 * 20) + u11), .int 0]) (st := []) (F' := (mm_Sq q)) (G' := (mm_Sq q)) (F'' := (mm_Sq q)) (pc' := 73) dX7_writeOff_70 rfl mfX4_put rfl lkX7_132 (mm_ks (kdX7_12 ho)) rfl (mm_ltq (kdX7_12 ho)) ⟨Nat.le_of_ble_eq_true rfl, Nat.le_of_ble_eq_true rfl⟩ (Nat.le_of_ble_eq_true rfl) (fun z => z) (rX4_put (q := q) ((o + 19)) (((w12 * 20) + u11)) 0 h13 (kdX7_12 ho)) (fun h21 e22 => Or.inl ⟨_, _, rfl, fun z => z, ?_⟩)
        show mm_E2 _ _ _ _ _ [] h21 _ _
        exact j18p h21
theorem rX7_writeOff {q : mm_q} (o : Nat) (p0 : Int32) (h : mm_H) (ho : mm_kd o = (0, 7)) : mm_R2 (mm_Sq q) (mm_Sq q) mX7_writeOff [.ref o, .int p0] h (gX7_writeOff o p0 h) lf_v := by
  refine mm_body (L := [some (.ref o), some (.int p0), none]) rfl (by decide +kernel) (Nat.le_of_ble_eq_true rfl) rfl ?_
  unfold gX7_writeOff
  refine me_aload_n (pc' := 1) (i := 0) dX7_writeOff_0 rfl rfl rfl ?_
  refine me_getR (pc' := 4) (q' := (o + 27)) dX7_writeOff_1 rfl fkX7_56 (mm_ks ho) (mm_ltq ho) rfl (mrX7_16 ho) ?_
  refine me_aload_n (pc' := 5) (i := 0) dX7_writeOff_4 rfl rfl rfl ?_
  refine me_getR (pc' := 8) (q' := (o + 1)) dX7_writeOff_5 rfl fkX7_14 (mm_ks ho) (mm_ltq ho) rfl (mrX7_2 ho) ?_
  refine me_iload_n (pc' := 9) (i := 1) dX7_writeOff_8 rfl rfl rfl ?_
  refine me_callV (As := [.int p0]) (st := [.ref (o + 27)]) (F' := (mm_Sq q)) (G' := (mm_Sq q)) (F'' := (mm_Sq q)) (pc' := 12) dX7_writeOff_9 rfl mfX4_get rfl lkX7_79 (mm_ks (kdX7_2 ho)) rfl (mm_ltq (kdX7_2 ho)) ⟨Nat.le_of_ble_eq_true rfl, Nat.le_of_ble_eq_true rfl⟩ (Nat.le_of_ble_eq_true rfl) (fun z => z) (rX4_get (q := q) ((o + 1)) p0 h (kdX7_2 ho)) (fun x1 e2 => Or.inl ⟨_, _, rfl, fun z => z, ?_⟩)
  show mm_E2 _ _ _ _ _ [.int x1, .ref (o + 27)] h _ _
  refine me_aload_n (pc' := 13) (i := 0) dX7_writeOff_12 rfl rfl rfl ?_
  refine me_getR (pc' := 16) (q' := (o + 3)) dX7_writeOff_13 rfl fkX7_20 (mm_ks ho) (mm_ltq ho) rfl (mrX7_3 ho) ?_
  refine me_iload_n (pc' := 17) (i := 1) dX7_writeOff_16 rfl rfl rfl ?_
  refine me_callV (As := [.int p0]) (st := [.int x1, .ref (o + 27)]) (F' := (mm_Sq q)) (G' := (mm_Sq q)) (F'' := (mm_Sq q)) (pc' := 20) dX7_writeOff_17 rfl mfX4_get rfl lkX7_79 (mm_ks (kdX7_3 ho)) rfl (mm_ltq (kdX7_3 ho)) ⟨Nat.le_of_ble_eq_true rfl, Nat.le_of_ble_eq_true rfl⟩ (Nat.le_of_ble_eq_true rfl) (fun z => z) (rX4_get (q := q) ((o + 3)) p0 h (kdX7_3 ho)) (fun x3 e4 => Or.inl ⟨_, _, rfl, fun z => z, ?_⟩)
  show mm_E2 _ _ _ _ _ [.int x3, .int x1, .ref (o + 27)] h _ _
  refine me_callV (As := [.int x1, .int x3]) (st := []) (F' := (mm_Sq q)) (G' := (mm_Sq q)) (F'' := (mm_Sq q)) (pc' := 23) dX7_writeOff_20 rfl mfX4_add rfl lkX7_135 (mm_ks (kdX7_16 ho)) rfl (mm_ltq (kdX7_16 ho)) ⟨Nat.le_of_ble_eq_true rfl, Nat.le_of_ble_eq_true rfl⟩ (Nat.le_of_ble_eq_true rfl) (fun z => z) (rX4_add (q := q) ((o + 27)) x1 x3 h (kdX7_16 ho)) (fun h5 e6 => Or.inl ⟨_, _, rfl, fun z => z, ?_⟩)
  show mm_E2 _ _ _ _ _ [] h5 _ _
  refine me_aload_n (pc' := 24) (i := 0) dX7_writeOff_23 rfl rfl rfl ?_
  refine me_getR (pc' := 27) (q' := (o + 3)) dX7_writeOff_24 rfl fkX7_20 (mm_ks ho) (mm_ltq ho) rfl (mrX7_3 ho) ?_
  refine me_iload_n (pc' := 28) (i := 1) dX7_writeOff_27 rfl rfl rfl ?_
  refine me_iconst (pc' := 29) (v := 0) dX7_writeOff_28 rfl kc_i0 ?_
  refine me_callV (As := [.int p0, .int 0]) (st := []) (F' := (mm_Sq q)) (G' := (mm_Sq q)) (F'' := (mm_Sq q)) (pc' := 32) dX7_writeOff_29 rfl mfX4_put rfl lkX7_132 (mm_ks (kdX7_3 ho)) rfl (mm_ltq (kdX7_3 ho)) ⟨Nat.le_of_ble_eq_true rfl, Nat.le_of_ble_eq_true rfl⟩ (Nat.le_of_ble_eq_true rfl) (fun z => z) (rX4_put (q := q) ((o + 3)) p0 0 h5 (kdX7_3 ho)) (fun h7 e8 => Or.inl ⟨_, _, rfl, fun z => z, ?_⟩)
  show mm_E2 _ _ _ _ _ [] h7 _ _
  refine me_aload_n (pc' := 33) (i := 0) dX7_writeOff_32 rfl rfl rfl ?_
  refine me_getR (pc' := 36) (q' := (o + 5)) dX7_writeOff_33 rfl fkX7_23 (mm_ks ho) (mm_ltq ho) rfl (mrX7_4 ho) ?_
  refine me_iload_n (pc' := 37) (i := 1) dX7_writeOff_36 rfl rfl rfl ?_
  refine me_iconst (pc' := 38) (v := 0) dX7_writeOff_37 rfl kc_i0 ?_
  refine me_callV (As := [.int p0, .int 0]) (st := []) (F' := (mm_Sq q)) (G' := (mm_Sq q)) (F'' := (mm_Sq q)) (pc' := 41) dX7_writeOff_38 rfl mfX4_put rfl lkX7_132 (mm_ks (kdX7_4 ho)) rfl (mm_ltq (kdX7_4 ho)) ⟨Nat.le_of_ble_eq_true rfl, Nat.le_of_ble_eq_true rfl⟩ (Nat.le_of_ble_eq_true rfl) (fun z => z) (rX4_put (q := q) ((o + 5)) p0 0 h7 (kdX7_4 ho)) (fun h9 e10 => Or.inl ⟨_, _, rfl, fun z => z, ?_⟩)
  show mm_E2 _ _ _ _ _ [] h9 _ _
  refine me_iconst (pc' := 42) (v := 0) dX7_writeOff_41 rfl kc_i0 ?_
  refine me_istore_n (pc' := 43) (i := 2) (L' := [some (.ref o), some (.int p0), some (.int 0)]) dX7_writeOff_42 rfl rfl (Nat.le_of_ble_eq_true rfl) (Nat.le_of_ble_eq_true rfl) rfl ?_
  exact rX7_writeOff_L43 (q := q) o p0 ho mm_F 0 h9
def gX7_writeOffExpiredBatches_L4 (o : Nat) : Nat → Int32 → Int32 → mm_H → Option (Int32 × mm_H)
  | 0, _, _, _ => none
  | n + 1, w1, w2, h3 =>
    if w2 < (mh_I h3 o 1) then
    (gX7_hasExpired o w2 h3).bind (fun (x5 : Bool) =>
    mm_jn (fun (y7 : Int32) (h8 : mm_H) =>
    (some (w2 + 1)).bind (fun (x10 : Int32) =>
    gX7_writeOffExpiredBatches_L4 o n y7 x10 h8)) (fun (j9 : Int32 → mm_H → Option (Int32 × mm_H)) =>
    if x5 = true then
    (gX4_get ((o + 3)) w2 h3).bind (fun (x12 : Int32) =>
    (some ((w1 + x12))).bind (fun (x14 : Int32) =>
    (gX7_writeOff o w2 h3).bind (fun (h15 : mm_H) =>
    j9 x14 h15)))
    else
    j9 w1 h3))
    else
    some (w1, h3)
def gX7_writeOffExpiredBatches (o : Nat) (h : mm_H) : Option (Int32 × mm_H) :=
gX7_writeOffExpiredBatches_L4 o mm_F 0 0 h
theorem rX7_writeOffExpiredBatches_L4 {q : mm_q} (o : Nat)    (ho : mm_kd o = (0, 7)) : ∀ (n : Nat) (w1 : Int32) (w2 : Int32) (h3 : mm_H), mm_E2 (mm_Sq q) (mm_Sq q) mX7_writeOffExpiredBatches 4 [some (.ref o), some (.int w1), some (.int w2)] [] h3 (gX7_writeOffExpiredBatches_L4 o  n w1 w2 h3) lf_ie := by
  intro n
  induction n with
  | zero =>
    intro w1 w2 h3
    exact mm_none
  | succ n ih =>
    intro w1 w2 h3
    rw [gX7_writeOffExpiredBatches_L4]
    refine me_iload_n (pc' := 5) (i := 2) dX7_writeOffExpiredBatches_4 rfl rfl rfl ?_
    refine me_aload_n (pc' := 6) (i := 0) dX7_writeOffExpiredBatches_5 rfl rfl rfl ?_
    refine me_getI (pc' := 9) dX7_writeOffExpiredBatches_6 rfl fkX7_66 (mm_ks ho) (mm_ltq ho) rfl ?_
    refine me_icmp_ge (pc' := 12) (tgt := 42) dX7_writeOffExpiredBatches_9 (by decide) rfl (fun c4 => ?_) (fun c4 => ?_)
    · refine me_iload_n (pc' := 43) (i := 1) dX7_writeOffExpiredBatches_42 rfl rfl rfl ?_
      exact me_iret dX7_writeOffExpiredBatches_43 rfl (fun z => z) rfl
    · refine me_aload_n (pc' := 13) (i := 0) dX7_writeOffExpiredBatches_12 rfl rfl rfl ?_
      refine me_iload_n (pc' := 14) (i := 2) dX7_writeOffExpiredBatches_13 rfl rfl rfl ?_
      refine me_callV (As := [.int w2]) (st := []) (F' := (mm_Sq q)) (G' := (mm_Sq q)) (F'' := (mm_Sq q)) (pc' := 17) dX7_writeOffExpiredBatches_14 rfl mfX7_hasExpired rfl lkX7_152 (mm_ks ho) rfl (mm_ltq ho) ⟨Nat.le_of_ble_eq_true rfl, Nat.le_of_ble_eq_true rfl⟩ (Nat.le_of_ble_eq_true rfl) (fun z => z) (rX7_hasExpired (q := q) o w2 h3 ho) (fun x5 e6 => Or.inl ⟨_, _, rfl, fun z => z, ?_⟩)
      show mm_E2 _ _ _ _ _ [.int (mx_bi x5)] h3 _ _
      refine mm_jnI (fun (j99 : Int32 → mm_H → Option (Int32 × mm_H)) => ∀ (y7 : Int32) (h8 : mm_H), mm_E2 (mm_Sq q) (mm_Sq q) mX7_writeOffExpiredBatches 36 [some (.ref o), some (.int y7), some (.int w2)] [] h8 (j99 y7 h8) lf_ie) ?_ (fun j9 j9p => ?_)
      · intro y7 h8
        refine me_iinc (pc' := 39) (i := 2) (x := w2) (y := w2 + 1) (L' := [some (.ref o), some (.int y7), some (.int (w2 + 1))]) dX7_writeOffExpiredBatches_36 rfl (Nat.le_of_ble_eq_true rfl) (Nat.le_of_ble_eq_true rfl) rfl (kc_plus kc_i1) rfl ?_
        refine mm_bnd (w2 + 1) (fun x10 => [some (.ref o), some (.int y7), some (.int x10)]) (fun _ => []) (fun _ => h8) (fun x10 => ?_)
        refine me_goto (tgt := 4) dX7_writeOffExpiredBatches_39 (by decide) ?_
        exact ih y7 x10 h8
      refine me_ifB_eq (pc' := 20) (tgt := 36) dX7_writeOffExpiredBatches_17 (by decide) rfl (fun c11 => ?_) (fun c11 => ?_)
      · exact j9p w1 h3
      · refine me_iload_n (pc' := 21) (i := 1) dX7_writeOffExpiredBatches_20 rfl rfl rfl ?_
        refine me_aload_n (pc' := 22) (i := 0) dX7_writeOffExpiredBatches_21 rfl rfl rfl ?_
        refine me_getR (pc' := 25) (q' := (o + 3)) dX7_writeOffExpiredBatches_22 rfl fkX7_20 (mm_ks ho) (mm_ltq ho) rfl (mrX7_3 ho) ?_
        refine me_iload_n (pc' := 26) (i := 2) dX7_writeOffExpiredBatches_25 rfl rfl rfl ?_
        refine me_callV (As := [.int w2]) (st := [.int w1]) (F' := (mm_Sq q)) (G' := (mm_Sq q)) (F'' := (mm_Sq q)) (pc' := 29) dX7_writeOffExpiredBatches_26 rfl mfX4_get rfl lkX7_79 (mm_ks (kdX7_3 ho)) rfl (mm_ltq (kdX7_3 ho)) ⟨Nat.le_of_ble_eq_true rfl, Nat.le_of_ble_eq_true rfl⟩ (Nat.le_of_ble_eq_true rfl) (fun z => z) (rX4_get (q := q) ((o + 3)) w2 h3 (kdX7_3 ho)) (fun x12 e13 => Or.inl ⟨_, _, rfl, fun z => z, ?_⟩)
        show mm_E2 _ _ _ _ _ [.int x12, .int w1] h3 _ _
        refine me_iadd (pc' := 30) dX7_writeOffExpiredBatches_29 rfl ?_
        refine mm_bnd ((w1 + x12)) (fun x14 => [some (.ref o), some (.int w1), some (.int w2)]) (fun x14 => [.int x14]) (fun _ => h3) (fun x14 => ?_)
        refine me_istore_n (pc' := 31) (i := 1) (L' := [some (.ref o), some (.int x14), some (.int w2)]) dX7_writeOffExpiredBatches_30 rfl rfl (Nat.le_of_ble_eq_true rfl) (Nat.le_of_ble_eq_true rfl) rfl ?_
        refine me_aload_n (pc' := 32) (i := 0) dX7_writeOffExpiredBatches_31 rfl rfl rfl ?_
        refine me_iload_n (pc' := 33) (i := 2) dX7_writeOffExpiredBatches_32 rfl rfl rfl ?_
        refine me_callV (As := [.int w2]) (st := []) (F' := (mm_Sq q)) (G' := (mm_Sq q)) (F'' := (mm_Sq q)) (pc' := 36) dX7_writeOffExpiredBatches_33 rfl mfX7_writeOff rfl lkX7_155 (mm_ks ho) rfl (mm_ltq ho) ⟨Nat.le_of_ble_eq_true rfl, Nat.le_of_ble_eq_true rfl⟩ (Nat.le_of_ble_eq_true rfl) (fun z => z) (rX7_writeOff (q := q) o w2 h3 ho) (fun h15 e16 => Or.inl ⟨_, _, rfl, fun z => z, ?_⟩)
        show mm_E2 _ _ _ _ _ [] h15 _ _
        exact j9p x14 h15
theorem rX7_writeOffExpiredBatches {q : mm_q} (o : Nat) (h : mm_H) (ho : mm_kd o = (0, 7)) : mm_R2 (mm_Sq q) (mm_Sq q) mX7_writeOffExpiredBatches [.ref o] h (gX7_writeOffExpiredBatches o h) lf_ie := by
  refine mm_body (L := [some (.ref o), none, none]) rfl (by decide +kernel) (Nat.le_of_ble_eq_true rfl) rfl ?_
  unfold gX7_writeOffExpiredBatches
  refine me_iconst (pc' := 1) (v := 0) dX7_writeOffExpiredBatches_0 rfl kc_i0 ?_
  refine me_istore_n (pc' := 2) (i := 1) (L' := [some (.ref o), some (.int 0), none]) dX7_writeOffExpiredBatches_1 rfl rfl (Nat.le_of_ble_eq_true rfl) (Nat.le_of_ble_eq_true rfl) rfl ?_
  refine me_iconst (pc' := 3) (v := 0) dX7_writeOffExpiredBatches_2 rfl kc_i0 ?_
  refine me_istore_n (pc' := 4) (i := 2) (L' := [some (.ref o), some (.int 0), some (.int 0)]) dX7_writeOffExpiredBatches_3 rfl rfl (Nat.le_of_ble_eq_true rfl) (Nat.le_of_ble_eq_true rfl) rfl ?_
  exact rX7_writeOffExpiredBatches_L4 (q := q) o ho mm_F 0 0 h
def gX7_advance_L20 (o : Nat) (u3 : Int32) (h : mm_H) : Nat → Int32 → Int32 → Option (Int32 × mm_H)
  | 0, _, _ => none
  | n + 1, w4, w5 =>
    if w5 < (mh_I h o 1) then
    (gX4_get ((o + 3)) w5 h).bind (fun (x7 : Int32) =>
    mm_jn (fun (y9 : Int32) =>
    (some (w5 + 1)).bind (fun (x11 : Int32) =>
    gX7_advance_L20 o u3 h n y9 x11)) (fun (j10 : Int32 → Option (Int32 × mm_H)) =>
    if 0 < x7 then
    (gX4_get ((o + 7)) w5 h).bind (fun (x13 : Int32) =>
    if x13 < u3 then
    j10 w4
    else
    (gX7_hasExpired o w5 h).bind (fun (x16 : Bool) =>
    if x16 = true then
    (some (w4 + 1)).bind (fun (x19 : Int32) =>
    j10 x19)
    else
    j10 w4))
    else
    j10 w4))
    else
    some (w4, h)
def gX7_advance (o : Nat) (p0 : Int32) (h : mm_H) : Option (Int32 × mm_H) :=
(some ((mh_I h o 0))).bind (fun (x1 : Int32) =>
(some (ms_I h o 0 (((mh_I h o 0) + p0)))).bind (fun (h2 : mm_H) =>
gX7_advance_L20 o x1 h2 mm_F 0 0))
theorem rX7_advance_L20 {q : mm_q} (o : Nat) (u3 : Int32)  (h : mm_H) (ho : mm_kd o = (0, 7)) : ∀ (n : Nat) (w4 : Int32) (w5 : Int32), mm_E2 (mm_Sq q) (mm_Sq q) mX7_advance 20 [some (.ref o), none, some (.int u3), some (.int w4), some (.int w5)] [] h (gX7_advance_L20 o u3 h n w4 w5) lf_ie := by
  intro n
  induction n with
  | zero =>
    intro w4 w5
    exact mm_none
  | succ n ih =>
    intro w4 w5
    rw [gX7_advance_L20]
    refine me_iload (pc' := 22) (i := 4) dX7_advance_20 rfl rfl ?_
    refine me_aload_n (pc' := 23) (i := 0) dX7_advance_22 rfl rfl rfl ?_
    refine me_getI (pc' := 26) dX7_advance_23 rfl fkX7_66 (mm_ks ho) (mm_ltq ho) rfl ?_
    refine me_icmp_ge (pc' := 29) (tgt := 72) dX7_advance_26 (by decide) rfl (fun c6 => ?_) (fun c6 => ?_)
    · refine me_iload_n (pc' := 73) (i := 3) dX7_advance_72 rfl rfl rfl ?_
      exact me_iret dX7_advance_73 rfl (fun z => z) rfl
    · refine me_aload_n (pc' := 30) (i := 0) dX7_advance_29 rfl rfl rfl ?_
      refine me_getR (pc' := 33) (q' := (o + 3)) dX7_advance_30 rfl fkX7_20 (mm_ks ho) (mm_ltq ho) rfl (mrX7_3 ho) ?_
      refine me_iload (pc' := 35) (i := 4) dX7_advance_33 rfl rfl ?_
      refine me_callV (As := [.int w5]) (st := []) (F' := (mm_Sq q)) (G' := (mm_Sq q)) (F'' := (mm_Sq q)) (pc' := 38) dX7_advance_35 rfl mfX4_get rfl lkX7_79 (mm_ks (kdX7_3 ho)) rfl (mm_ltq (kdX7_3 ho)) ⟨Nat.le_of_ble_eq_true rfl, Nat.le_of_ble_eq_true rfl⟩ (Nat.le_of_ble_eq_true rfl) (fun z => z) (rX4_get (q := q) ((o + 3)) w5 h (kdX7_3 ho)) (fun x7 e8 => Or.inl ⟨_, _, rfl, fun z => z, ?_⟩)
      show mm_E2 _ _ _ _ _ [.int x7] h _ _
      refine mm_jnI (fun (j109 : Int32 → Option (Int32 × mm_H)) => ∀ (y9 : Int32), mm_E2 (mm_Sq q) (mm_Sq q) mX7_advance 66 [some (.ref o), none, some (.int u3), some (.int y9), some (.int w5)] [] h (j109 y9) lf_ie) ?_ (fun j10 j10p => ?_)
      · intro y9
        refine me_iinc (pc' := 69) (i := 4) (x := w5) (y := w5 + 1) (L' := [some (.ref o), none, some (.int u3), some (.int y9), some (.int (w5 + 1))]) dX7_advance_66 rfl (Nat.le_of_ble_eq_true rfl) (Nat.le_of_ble_eq_true rfl) rfl (kc_plus kc_i1) rfl ?_
        refine mm_bnd (w5 + 1) (fun x11 => [some (.ref o), none, some (.int u3), some (.int y9), some (.int x11)]) (fun _ => []) (fun _ => h) (fun x11 => ?_)
        refine me_goto (tgt := 20) dX7_advance_69 (by decide) ?_
        exact ih y9 x11
      refine me_if_le (pc' := 41) (tgt := 66) dX7_advance_38 (by decide) rfl (fun c12 => ?_) (fun c12 => ?_)
      · exact j10p w4
      · refine me_aload_n (pc' := 42) (i := 0) dX7_advance_41 rfl rfl rfl ?_
        refine me_getR (pc' := 45) (q' := (o + 7)) dX7_advance_42 rfl fkX7_26 (mm_ks ho) (mm_ltq ho) rfl (mrX7_5 ho) ?_
        refine me_iload (pc' := 47) (i := 4) dX7_advance_45 rfl rfl ?_
        refine me_callV (As := [.int w5]) (st := []) (F' := (mm_Sq q)) (G' := (mm_Sq q)) (F'' := (mm_Sq q)) (pc' := 50) dX7_advance_47 rfl mfX4_get rfl lkX7_79 (mm_ks (kdX7_5 ho)) rfl (mm_ltq (kdX7_5 ho)) ⟨Nat.le_of_ble_eq_true rfl, Nat.le_of_ble_eq_true rfl⟩ (Nat.le_of_ble_eq_true rfl) (fun z => z) (rX4_get (q := q) ((o + 7)) w5 h (kdX7_5 ho)) (fun x13 e14 => Or.inl ⟨_, _, rfl, fun z => z, ?_⟩)
        show mm_E2 _ _ _ _ _ [.int x13] h _ _
        refine me_iload_n (pc' := 51) (i := 2) dX7_advance_50 rfl rfl rfl ?_
        refine me_icmp_lt (pc' := 54) (tgt := 66) dX7_advance_51 (by decide) rfl (fun c15 => ?_) (fun c15 => ?_)
        · exact j10p w4
        · refine me_aload_n (pc' := 55) (i := 0) dX7_advance_54 rfl rfl rfl ?_
          refine me_iload (pc' := 57) (i := 4) dX7_advance_55 rfl rfl ?_
          refine me_callV (As := [.int w5]) (st := []) (F' := (mm_Sq q)) (G' := (mm_Sq q)) (F'' := (mm_Sq q)) (pc' := 60) dX7_advance_57 rfl mfX7_hasExpired rfl lkX7_152 (mm_ks ho) rfl (mm_ltq ho) ⟨Nat.le_of_ble_eq_true rfl, Nat.le_of_ble_eq_true rfl⟩ (Nat.le_of_ble_eq_true rfl) (fun z => z) (rX7_hasExpired (q := q) o w5 h ho) (fun x16 e17 => Or.inl ⟨_, _, rfl, fun z => z, ?_⟩)
          show mm_E2 _ _ _ _ _ [.int (mx_bi x16)] h _ _
          refine me_ifB_eq (pc' := 63) (tgt := 66) dX7_advance_60 (by decide) rfl (fun c18 => ?_) (fun c18 => ?_)
          · exact j10p w4
          · refine me_iinc (pc' := 66) (i := 3) (x := w4) (y := w4 + 1) (L' := [some (.ref o), none, some (.int u3), some (.int (w4 + 1)), some (.int w5)]) dX7_advance_63 rfl (Nat.le_of_ble_eq_true rfl) (Nat.le_of_ble_eq_true rfl) rfl (kc_plus kc_i1) rfl ?_
            refine mm_bnd (w4 + 1) (fun x19 => [some (.ref o), none, some (.int u3), some (.int x19), some (.int w5)]) (fun _ => []) (fun _ => h) (fun x19 => ?_)
            exact j10p x19
theorem rX7_advance {q : mm_q} (o : Nat) (p0 : Int32) (h : mm_H) (ho : mm_kd o = (0, 7)) : mm_R2 (mm_Sq q) (mm_Sq q) mX7_advance [.ref o, .int p0] h (gX7_advance o p0 h) lf_ie := by
  refine mm_body (L := [some (.ref o), some (.int p0), none, none, none]) rfl (by decide +kernel) (Nat.le_of_ble_eq_true rfl) rfl ?_
  unfold gX7_advance
  refine me_aload_n (pc' := 1) (i := 0) dX7_advance_0 rfl rfl rfl ?_
  refine me_getI (pc' := 4) dX7_advance_1 rfl fkX7_62 (mm_ks ho) (mm_ltq ho) rfl ?_
  refine mm_bnd ((mh_I h o 0)) (fun x1 => [some (.ref o), some (.int p0), none, none, none]) (fun x1 => [.int x1]) (fun _ => h) (fun x1 => ?_)
  refine me_istore_n (pc' := 5) (i := 2) (L' := [some (.ref o), some (.int p0), some (.int x1), none, none]) dX7_advance_4 rfl rfl (Nat.le_of_ble_eq_true rfl) (Nat.le_of_ble_eq_true rfl) rfl ?_
  refine me_aload_n (pc' := 6) (i := 0) dX7_advance_5 rfl rfl rfl ?_
  refine me_dup (pc' := 7) dX7_advance_6 rfl rfl ?_
  refine me_getI (pc' := 10) dX7_advance_7 rfl fkX7_62 (mm_ks ho) (mm_ltq ho) rfl ?_
  refine me_iload_n (pc' := 11) (i := 1) dX7_advance_10 rfl rfl rfl ?_
  refine me_iadd (pc' := 12) dX7_advance_11 rfl ?_
  refine me_putI (F' := (mm_Sq q)) (pc' := 15) dX7_advance_12 rfl fkX7_62 (mm_ks ho) (mm_ltq ho) rfl pgX7_0 (fun z => z) ?_
  refine mm_bnd (ms_I h o 0 (((mh_I h o 0) + p0))) (fun _ => [some (.ref o), some (.int p0), some (.int x1), none, none]) (fun _ => []) (fun h2 => h2) (fun h2 => ?_)
  refine me_iconst (pc' := 16) (v := 0) dX7_advance_15 rfl kc_i0 ?_
  refine me_istore_n (pc' := 17) (i := 3) (L' := [some (.ref o), some (.int p0), some (.int x1), some (.int 0), none]) dX7_advance_16 rfl rfl (Nat.le_of_ble_eq_true rfl) (Nat.le_of_ble_eq_true rfl) rfl ?_
  refine me_iconst (pc' := 18) (v := 0) dX7_advance_17 rfl kc_i0 ?_
  refine me_istore (pc' := 20) (i := 4) (L' := [some (.ref o), some (.int p0), some (.int x1), some (.int 0), some (.int 0)]) dX7_advance_18 rfl (Nat.le_of_ble_eq_true rfl) (Nat.le_of_ble_eq_true rfl) rfl ?_
  exact mm_maskB [true, false, true, true, true] (rX7_advance_L20 (q := q) o x1 h2 ho mm_F 0 0)
end MMWA

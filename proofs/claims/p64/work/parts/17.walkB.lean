section MMWB
/-! printed walks (gen16.py, dec.py) -/
def gX10_append (p0 : Int32) (p1 : Int32) (p2 : Int32) (p3 : Int32) (p4 : Int32) (h : mm_H) : Option ((Int32 ⊕ String) × mm_H) :=
if 600 < ((mh_I h 1 1) + 20) then
some (.inr "java/lang/IllegalStateException", ms_X h)
else
(gX8_addBytesOf 1 p0 h).bind (fun (h2 : mm_H) =>
(gX8_addBytesOf 1 p1 h2).bind (fun (h4 : mm_H) =>
(gX8_addBytesOf 1 p2 h4).bind (fun (h6 : mm_H) =>
(gX8_addBytesOf 1 p3 h6).bind (fun (h8 : mm_H) =>
(gX8_addBytesOf 1 p4 h8).bind (fun (h10 : mm_H) =>
some (.inl ((mh_I h10 1 1)), h10))))))
theorem rX10_append {q : mm_q} (p0 : Int32) (p1 : Int32) (p2 : Int32) (p3 : Int32) (p4 : Int32) (h : mm_H) : mm_R2 (mm_Sq q) (mm_Sq q) mX10_append [.ref 0, .int p0, .int p1, .int p2, .int p3, .int p4] h (gX10_append p0 p1 p2 p3 p4 h) lf_it := by
  refine mm_body (L := [some (.ref 0), some (.int p0), some (.int p1), some (.int p2), some (.int p3), some (.int p4)]) rfl (by decide +kernel) (Nat.le_of_ble_eq_true rfl) rfl ?_
  unfold gX10_append
  refine me_aload_n (pc' := 1) (i := 0) dX10_append_0 rfl rfl rfl ?_
  refine me_getR (pc' := 4) (q' := 1) dX10_append_1 rfl fkX10_14 (mm_ks kd_0) (mm_ltq kd_0) rfl (mrX10_0 kd_0) ?_
  refine me_getI (pc' := 7) dX10_append_4 rfl fkX10_90 (mm_ks kd_1) (mm_ltq kd_1) rfl ?_
  refine me_bipush (pc' := 9) (v := 20) dX10_append_7 rfl kc_b20 ?_
  refine me_iadd (pc' := 10) dX10_append_9 rfl ?_
  refine me_sipush (pc' := 13) (v := 600) dX10_append_10 rfl kc_s600 ?_
  refine me_icmp_le (pc' := 16) (tgt := 26) dX10_append_13 (by decide) rfl (fun c1 => ?_) (fun c1 => ?_)
  · refine me_aload_n (pc' := 27) (i := 0) dX10_append_26 rfl rfl rfl ?_
    refine me_getR (pc' := 30) (q' := 1) dX10_append_27 rfl fkX10_14 (mm_ks kd_0) (mm_ltq kd_0) rfl (mrX10_0 kd_0) ?_
    refine me_iload_n (pc' := 31) (i := 1) dX10_append_30 rfl rfl rfl ?_
    refine me_callV (As := [.int p0]) (st := []) (F' := (mm_Sq q)) (G' := (mm_Sq q)) (F'' := (mm_Sq q)) (pc' := 34) dX10_append_31 rfl mfX8_addBytesOf rfl lkX10_101 (mm_ks kd_1) rfl (mm_ltq kd_1) ⟨Nat.le_of_ble_eq_true rfl, Nat.le_of_ble_eq_true rfl⟩ (Nat.le_of_ble_eq_true rfl) (fun z => z) (rX8_addBytesOf (q := q) 1 p0 h kd_1) (fun h2 e3 => Or.inl ⟨_, _, rfl, fun z => z, ?_⟩)
    show mm_E2 _ _ _ _ _ [] h2 _ _
    refine me_aload_n (pc' := 35) (i := 0) dX10_append_34 rfl rfl rfl ?_
    refine me_getR (pc' := 38) (q' := 1) dX10_append_35 rfl fkX10_14 (mm_ks kd_0) (mm_ltq kd_0) rfl (mrX10_0 kd_0) ?_
    refine me_iload_n (pc' := 39) (i := 2) dX10_append_38 rfl rfl rfl ?_
    refine me_callV (As := [.int p1]) (st := []) (F' := (mm_Sq q)) (G' := (mm_Sq q)) (F'' := (mm_Sq q)) (pc' := 42) dX10_append_39 rfl mfX8_addBytesOf rfl lkX10_101 (mm_ks kd_1) rfl (mm_ltq kd_1) ⟨Nat.le_of_ble_eq_true rfl, Nat.le_of_ble_eq_true rfl⟩ (Nat.le_of_ble_eq_true rfl) (fun z => z) (rX8_addBytesOf (q := q) 1 p1 h2 kd_1) (fun h4 e5 => Or.inl ⟨_, _, rfl, fun z => z, ?_⟩)
    show mm_E2 _ _ _ _ _ [] h4 _ _
    refine me_aload_n (pc' := 43) (i := 0) dX10_append_42 rfl rfl rfl ?_
    refine me_getR (pc' := 46) (q' := 1) dX10_append_43 rfl fkX10_14 (mm_ks kd_0) (mm_ltq kd_0) rfl (mrX10_0 kd_0) ?_
    refine me_iload_n (pc' := 47) (i := 3) dX10_append_46 rfl rfl rfl ?_
    refine me_callV (As := [.int p2]) (st := []) (F' := (mm_Sq q)) (G' := (mm_Sq q)) (F'' := (mm_Sq q)) (pc' := 50) dX10_append_47 rfl mfX8_addBytesOf rfl lkX10_101 (mm_ks kd_1) rfl (mm_ltq kd_1) ⟨Nat.le_of_ble_eq_true rfl, Nat.le_of_ble_eq_true rfl⟩ (Nat.le_of_ble_eq_true rfl) (fun z => z) (rX8_addBytesOf (q := q) 1 p2 h4 kd_1) (fun h6 e7 => Or.inl ⟨_, _, rfl, fun z => z, ?_⟩)
    show mm_E2 _ _ _ _ _ [] h6 _ _
    refine me_aload_n (pc' := 51) (i := 0) dX10_append_50 rfl rfl rfl ?_
    refine me_getR (pc' := 54) (q' := 1) dX10_append_51 rfl fkX10_14 (mm_ks kd_0) (mm_ltq kd_0) rfl (mrX10_0 kd_0) ?_
    refine me_iload (pc' := 56) (i := 4) dX10_append_54 rfl rfl ?_
    refine me_callV (As := [.int p3]) (st := []) (F' := (mm_Sq q)) (G' := (mm_Sq q)) (F'' := (mm_Sq q)) (pc' := 59) dX10_append_56 rfl mfX8_addBytesOf rfl lkX10_101 (mm_ks kd_1) rfl (mm_ltq kd_1) ⟨Nat.le_of_ble_eq_true rfl, Nat.le_of_ble_eq_true rfl⟩ (Nat.le_of_ble_eq_true rfl) (fun z => z) (rX8_addBytesOf (q := q) 1 p3 h6 kd_1) (fun h8 e9 => Or.inl ⟨_, _, rfl, fun z => z, ?_⟩)
    show mm_E2 _ _ _ _ _ [] h8 _ _
    refine me_aload_n (pc' := 60) (i := 0) dX10_append_59 rfl rfl rfl ?_
    refine me_getR (pc' := 63) (q' := 1) dX10_append_60 rfl fkX10_14 (mm_ks kd_0) (mm_ltq kd_0) rfl (mrX10_0 kd_0) ?_
    refine me_iload (pc' := 65) (i := 5) dX10_append_63 rfl rfl ?_
    refine me_callV (As := [.int p4]) (st := []) (F' := (mm_Sq q)) (G' := (mm_Sq q)) (F'' := (mm_Sq q)) (pc' := 68) dX10_append_65 rfl mfX8_addBytesOf rfl lkX10_101 (mm_ks kd_1) rfl (mm_ltq kd_1) ⟨Nat.le_of_ble_eq_true rfl, Nat.le_of_ble_eq_true rfl⟩ (Nat.le_of_ble_eq_true rfl) (fun z => z) (rX8_addBytesOf (q := q) 1 p4 h8 kd_1) (fun h10 e11 => Or.inl ⟨_, _, rfl, fun z => z, ?_⟩)
    show mm_E2 _ _ _ _ _ [] h10 _ _
    refine me_aload_n (pc' := 69) (i := 0) dX10_append_68 rfl rfl rfl ?_
    refine me_getR (pc' := 72) (q' := 1) dX10_append_69 rfl fkX10_14 (mm_ks kd_0) (mm_ltq kd_0) rfl (mrX10_0 kd_0) ?_
    refine me_getI (pc' := 75) dX10_append_72 rfl fkX10_90 (mm_ks kd_1) (mm_ltq kd_1) rfl ?_
    exact me_iret dX10_append_75 rfl (fun z => z) rfl
  · exact me_throw dX10_append_16 dX10_append_19 dX10_append_20 dX10_append_22 dX10_append_25 rfl rfl (fun z => z) twX10_98 sr_13 (Nat.le_of_ble_eq_true rfl) (Nat.le_of_ble_eq_true rfl)
def gX10_isOutside (p0 : Int32) (p1 : Int32) (p2 : Int32) (h : mm_H) : Option Bool :=
if p0 < p1 then
some true
else
if p2 < p0 then
some true
else
some false
theorem rX10_isOutside {q : mm_q} (p0 : Int32) (p1 : Int32) (p2 : Int32) (h : mm_H) : mm_R2 (mm_Sq q) (mm_Sq q) mX10_isOutside [.int p0, .int p1, .int p2] h (gX10_isOutside p0 p1 p2 h) (lf_z h) := by
  refine mm_body (L := [some (.int p0), some (.int p1), some (.int p2)]) rfl (by decide +kernel) (Nat.le_of_ble_eq_true rfl) rfl ?_
  unfold gX10_isOutside
  refine me_iload_n (pc' := 1) (i := 0) dX10_isOutside_0 rfl rfl rfl ?_
  refine me_iload_n (pc' := 2) (i := 1) dX10_isOutside_1 rfl rfl rfl ?_
  refine me_icmp_lt (pc' := 5) (tgt := 10) dX10_isOutside_2 (by decide) rfl (fun c1 => ?_) (fun c1 => ?_)
  · refine me_iconst (pc' := 11) (v := 1) dX10_isOutside_10 rfl kc_i1 ?_
    refine me_goto (tgt := 15) dX10_isOutside_11 (by decide) ?_
    exact me_zret (b := true) dX10_isOutside_15 rfl (fun z => z) rfl
  · refine me_iload_n (pc' := 6) (i := 0) dX10_isOutside_5 rfl rfl rfl ?_
    refine me_iload_n (pc' := 7) (i := 2) dX10_isOutside_6 rfl rfl rfl ?_
    refine me_icmp_le (pc' := 10) (tgt := 14) dX10_isOutside_7 (by decide) rfl (fun c2 => ?_) (fun c2 => ?_)
    · refine me_iconst (pc' := 15) (v := 0) dX10_isOutside_14 rfl kc_i0 ?_
      exact me_zret (b := false) dX10_isOutside_15 rfl (fun z => z) rfl
    · refine me_iconst (pc' := 11) (v := 1) dX10_isOutside_10 rfl kc_i1 ?_
      refine me_goto (tgt := 15) dX10_isOutside_11 (by decide) ?_
      exact me_zret (b := true) dX10_isOutside_15 rfl (fun z => z) rfl
def gX10_checkRange (p0 : Int32) (p1 : Int32) (p2 : Int32) (h : mm_H) : Option ((Unit ⊕ String) × mm_H) :=
(gX10_isOutside p0 p1 p2 h).bind (fun (x1 : Bool) =>
if x1 = true then
some (.inr "java/lang/IllegalArgumentException", ms_X h)
else
some (.inl (), h))
theorem rX10_checkRange {q : mm_q} (p0 : Int32) (p1 : Int32) (p2 : Int32) (h : mm_H) : mm_R2 (mm_Sq q) (mm_Sq q) mX10_checkRange [.int p0, .int p1, .int p2] h (gX10_checkRange p0 p1 p2 h) lf_vt := by
  refine mm_body (L := [some (.int p0), some (.int p1), some (.int p2)]) rfl (by decide +kernel) (Nat.le_of_ble_eq_true rfl) rfl ?_
  unfold gX10_checkRange
  refine me_iload_n (pc' := 1) (i := 0) dX10_checkRange_0 rfl rfl rfl ?_
  refine me_iload_n (pc' := 2) (i := 1) dX10_checkRange_1 rfl rfl rfl ?_
  refine me_iload_n (pc' := 3) (i := 2) dX10_checkRange_2 rfl rfl rfl ?_
  refine me_callS (As := [.int p0, .int p1, .int p2]) (st := []) (F' := (mm_Sq q)) (G' := (mm_Sq q)) (F'' := (mm_Sq q)) (pc' := 6) dX10_checkRange_3 rfl mfX10_isOutside rfl lkX10_158 ⟨Nat.le_of_ble_eq_true rfl, Nat.le_of_ble_eq_true rfl⟩ (Nat.le_of_ble_eq_true rfl) (fun z => z) (rX10_isOutside (q := q) p0 p1 p2 h ) (fun x1 e2 => Or.inl ⟨_, _, rfl, fun z => z, ?_⟩)
  show mm_E2 _ _ _ _ _ [.int (mx_bi x1)] h _ _
  refine me_ifB_eq (pc' := 9) (tgt := 20) dX10_checkRange_6 (by decide) rfl (fun c3 => ?_) (fun c3 => ?_)
  · exact me_vret dX10_checkRange_20 rfl (fun z => z) rfl
  · exact me_throwW dX10_checkRange_9 dX10_checkRange_12 dX10_checkRange_13 dX10_checkRange_16 dX10_checkRange_19 rfl rfl (fun z => z) twX10_119 sr_9 (Nat.le_of_ble_eq_true rfl) (Nat.le_of_ble_eq_true rfl)
def gX10_truncate (p0 : Int32) (h : mm_H) : Option ((Int32 ⊕ String) × mm_H) :=
(gX10_checkRange p0 0 ((mh_I h 1 1)) h).bind (fun (x1 : ((Unit ⊕ String) × mm_H)) => match x1 with
| (.inl _, h4) =>
(gX8_cutTo 1 p0 h4).bind (fun (h6 : mm_H) =>
some (.inl ((mh_I h6 1 1)), h6))
| (.inr E5, h4) => some (.inr E5, h4))
theorem rX10_truncate {q : mm_q} (p0 : Int32) (h : mm_H) : mm_R2 (mm_Sq q) (mm_Sq q) mX10_truncate [.ref 0, .int p0] h (gX10_truncate p0 h) lf_it := by
  refine mm_body (L := [some (.ref 0), some (.int p0)]) rfl (by decide +kernel) (Nat.le_of_ble_eq_true rfl) rfl ?_
  unfold gX10_truncate
  refine me_iload_n (pc' := 1) (i := 1) dX10_truncate_0 rfl rfl rfl ?_
  refine me_iconst (pc' := 2) (v := 0) dX10_truncate_1 rfl kc_i0 ?_
  refine me_aload_n (pc' := 3) (i := 0) dX10_truncate_2 rfl rfl rfl ?_
  refine me_getR (pc' := 6) (q' := 1) dX10_truncate_3 rfl fkX10_14 (mm_ks kd_0) (mm_ltq kd_0) rfl (mrX10_0 kd_0) ?_
  refine me_getI (pc' := 9) dX10_truncate_6 rfl fkX10_90 (mm_ks kd_1) (mm_ltq kd_1) rfl ?_
  refine me_callS (As := [.int p0, .int 0, .int (mh_I h 1 1)]) (st := []) (F' := (mm_Sq q)) (G' := (mm_Sq q)) (F'' := (mm_Sq q)) (pc' := 12) dX10_truncate_9 rfl mfX10_checkRange rfl lkX10_104 ⟨Nat.le_of_ble_eq_true rfl, Nat.le_of_ble_eq_true rfl⟩ (Nat.le_of_ble_eq_true rfl) (fun z => z) (rX10_checkRange (q := q) p0 0 ((mh_I h 1 1)) h ) (fun x1 e2 => ?_)
  rcases x1 with ⟨v3 | E5, h4⟩
  · refine Or.inl ⟨_, _, rfl, fun z => z, ?_⟩
    show mm_E2 _ _ _ _ _ [] h4 _ _
    try dsimp only
    refine me_aload_n (pc' := 13) (i := 0) dX10_truncate_12 rfl rfl rfl ?_
    refine me_getR (pc' := 16) (q' := 1) dX10_truncate_13 rfl fkX10_14 (mm_ks kd_0) (mm_ltq kd_0) rfl (mrX10_0 kd_0) ?_
    refine me_iload_n (pc' := 17) (i := 1) dX10_truncate_16 rfl rfl rfl ?_
    refine me_callV (As := [.int p0]) (st := []) (F' := (mm_Sq q)) (G' := (mm_Sq q)) (F'' := (mm_Sq q)) (pc' := 20) dX10_truncate_17 rfl mfX8_cutTo rfl lkX10_108 (mm_ks kd_1) rfl (mm_ltq kd_1) ⟨Nat.le_of_ble_eq_true rfl, Nat.le_of_ble_eq_true rfl⟩ (Nat.le_of_ble_eq_true rfl) (fun z => z) (rX8_cutTo (q := q) 1 p0 h4 kd_1) (fun h6 e7 => Or.inl ⟨_, _, rfl, fun z => z, ?_⟩)
    show mm_E2 _ _ _ _ _ [] h6 _ _
    refine me_aload_n (pc' := 21) (i := 0) dX10_truncate_20 rfl rfl rfl ?_
    refine me_getR (pc' := 24) (q' := 1) dX10_truncate_21 rfl fkX10_14 (mm_ks kd_0) (mm_ltq kd_0) rfl (mrX10_0 kd_0) ?_
    refine me_getI (pc' := 27) dX10_truncate_24 rfl fkX10_90 (mm_ks kd_1) (mm_ltq kd_1) rfl ?_
    exact me_iret dX10_truncate_27 rfl (fun z => z) rfl
  · exact Or.inr ⟨_, _, rfl, rfl, fun z => z, fun y9 hy9 => by rw [← Option.some.inj hy9]; rfl⟩
def gX9_isDigit (p0 : Int32) (h : mm_H) : Option Bool :=
if p0 < 48 then
some false
else
if 57 < p0 then
some false
else
some true
theorem rX9_isDigit {q : mm_q} (p0 : Int32) (h : mm_H) : mm_R2 (mm_Sq (q.1, 1, q.2.2)) (mm_Sq (q.1, 1, q.2.2)) mX9_isDigit [.int p0] h (gX9_isDigit p0 h) (lf_z h) := by
  refine mm_body (L := [some (.int p0)]) rfl (by decide +kernel) (Nat.le_of_ble_eq_true rfl) rfl ?_
  unfold gX9_isDigit
  refine me_iload_n (pc' := 1) (i := 0) dX9_isDigit_0 rfl rfl rfl ?_
  refine me_bipush (pc' := 3) (v := 48) dX9_isDigit_1 rfl kc_b48 ?_
  refine me_icmp_lt (pc' := 6) (tgt := 16) dX9_isDigit_3 (by decide) rfl (fun c1 => ?_) (fun c1 => ?_)
  · refine me_iconst (pc' := 17) (v := 0) dX9_isDigit_16 rfl kc_i0 ?_
    exact me_zret (b := false) dX9_isDigit_17 rfl (fun z => z) rfl
  · refine me_iload_n (pc' := 7) (i := 0) dX9_isDigit_6 rfl rfl rfl ?_
    refine me_bipush (pc' := 9) (v := 57) dX9_isDigit_7 rfl kc_b57 ?_
    refine me_icmp_gt (pc' := 12) (tgt := 16) dX9_isDigit_9 (by decide) rfl (fun c2 => ?_) (fun c2 => ?_)
    · refine me_iconst (pc' := 17) (v := 0) dX9_isDigit_16 rfl kc_i0 ?_
      exact me_zret (b := false) dX9_isDigit_17 rfl (fun z => z) rfl
    · refine me_iconst (pc' := 13) (v := 1) dX9_isDigit_12 rfl kc_i1 ?_
      refine me_goto (tgt := 17) dX9_isDigit_13 (by decide) ?_
      exact me_zret (b := true) dX9_isDigit_17 rfl (fun z => z) rfl
def gX9_isLetter (p0 : Int32) (h : mm_H) : Option Bool :=
if p0 < 97 then
some false
else
if 122 < p0 then
some false
else
some true
theorem rX9_isLetter {q : mm_q} (p0 : Int32) (h : mm_H) : mm_R2 (mm_Sq (q.1, 1, q.2.2)) (mm_Sq (q.1, 1, q.2.2)) mX9_isLetter [.int p0] h (gX9_isLetter p0 h) (lf_z h) := by
  refine mm_body (L := [some (.int p0)]) rfl (by decide +kernel) (Nat.le_of_ble_eq_true rfl) rfl ?_
  unfold gX9_isLetter
  refine me_iload_n (pc' := 1) (i := 0) dX9_isLetter_0 rfl rfl rfl ?_
  refine me_bipush (pc' := 3) (v := 97) dX9_isLetter_1 rfl kc_b97 ?_
  refine me_icmp_lt (pc' := 6) (tgt := 16) dX9_isLetter_3 (by decide) rfl (fun c1 => ?_) (fun c1 => ?_)
  · refine me_iconst (pc' := 17) (v := 0) dX9_isLetter_16 rfl kc_i0 ?_
    exact me_zret (b := false) dX9_isLetter_17 rfl (fun z => z) rfl
  · refine me_iload_n (pc' := 7) (i := 0) dX9_isLetter_6 rfl rfl rfl ?_
    refine me_bipush (pc' := 9) (v := 122) dX9_isLetter_7 rfl kc_b122 ?_
    refine me_icmp_gt (pc' := 12) (tgt := 16) dX9_isLetter_9 (by decide) rfl (fun c2 => ?_) (fun c2 => ?_)
    · refine me_iconst (pc' := 17) (v := 0) dX9_isLetter_16 rfl kc_i0 ?_
      exact me_zret (b := false) dX9_isLetter_17 rfl (fun z => z) rfl
    · refine me_iconst (pc' := 13) (v := 1) dX9_isLetter_12 rfl kc_i1 ?_
      refine me_goto (tgt := 17) dX9_isLetter_13 (by decide) ?_
      exact me_zret (b := true) dX9_isLetter_17 rfl (fun z => z) rfl
def gX9_isSpace (p0 : Int32) (h : mm_H) : Option Bool :=
if p0 = 32 then
some true
else
if p0 = 10 then
some true
else
some false
theorem rX9_isSpace {q : mm_q} (p0 : Int32) (h : mm_H) : mm_R2 (mm_Sq (q.1, 1, q.2.2)) (mm_Sq (q.1, 1, q.2.2)) mX9_isSpace [.int p0] h (gX9_isSpace p0 h) (lf_z h) := by
  refine mm_body (L := [some (.int p0)]) rfl (by decide +kernel) (Nat.le_of_ble_eq_true rfl) rfl ?_
  unfold gX9_isSpace
  refine me_iload_n (pc' := 1) (i := 0) dX9_isSpace_0 rfl rfl rfl ?_
  refine me_bipush (pc' := 3) (v := 32) dX9_isSpace_1 rfl kc_b32 ?_
  refine me_icmp_eq (pc' := 6) (tgt := 12) dX9_isSpace_3 (by decide) rfl (fun c1 => ?_) (fun c1 => ?_)
  · refine me_iconst (pc' := 13) (v := 1) dX9_isSpace_12 rfl kc_i1 ?_
    refine me_goto (tgt := 17) dX9_isSpace_13 (by decide) ?_
    exact me_zret (b := true) dX9_isSpace_17 rfl (fun z => z) rfl
  · refine me_iload_n (pc' := 7) (i := 0) dX9_isSpace_6 rfl rfl rfl ?_
    refine me_bipush (pc' := 9) (v := 10) dX9_isSpace_7 rfl kc_b10 ?_
    refine me_icmp_ne (pc' := 12) (tgt := 16) dX9_isSpace_9 (by decide) rfl (fun c2 => ?_) (fun c2 => ?_)
    · refine me_iconst (pc' := 17) (v := 0) dX9_isSpace_16 rfl kc_i0 ?_
      exact me_zret (b := false) dX9_isSpace_17 rfl (fun z => z) rfl
    · refine me_iconst (pc' := 13) (v := 1) dX9_isSpace_12 rfl kc_i1 ?_
      refine me_goto (tgt := 17) dX9_isSpace_13 (by decide) ?_
      exact me_zret (b := true) dX9_isSpace_17 rfl (fun z => z) rfl
def gX9_size (h : mm_H) : Option Int32 :=
some (((mh_I h 6 3) - (mh_I h 6 2)))
theorem rX9_size {q : mm_q} (h : mm_H) : mm_R2 (mm_Sq (q.1, 1, q.2.2)) (mm_Sq (q.1, 1, q.2.2)) mX9_size [.ref 6] h (gX9_size h) (lf_i h) := by
  refine mm_body (L := [some (.ref 6)]) rfl (by decide +kernel) (Nat.le_of_ble_eq_true rfl) rfl ?_
  unfold gX9_size
  refine me_aload_n (pc' := 1) (i := 0) dX9_size_0 rfl rfl rfl ?_
  refine me_getI (pc' := 4) dX9_size_1 rfl fkX9_20 (mm_ks kd_6) (mm_ltq kd_6) rfl ?_
  refine me_aload_n (pc' := 5) (i := 0) dX9_size_4 rfl rfl rfl ?_
  refine me_getI (pc' := 8) dX9_size_5 rfl fkX9_38 (mm_ks kd_6) (mm_ltq kd_6) rfl ?_
  refine me_isub (pc' := 9) dX9_size_8 rfl ?_
  exact me_iret dX9_size_9 rfl (fun z => z) rfl
def gX9_readNumber_L5 : Nat → mm_H → Option mm_H
  | 0, _ => none
  | n + 1, h2 =>
    mm_jn (fun (_ : Unit) =>
    (gX9_size h2).bind (fun (x4 : Int32) =>
    if 4 < x4 then
    (some (ms_I h2 6 1 4)).bind (fun (h7 : mm_H) =>
    some h7)
    else
    (some (ms_I h2 6 1 2)).bind (fun (h8 : mm_H) =>
    some h8))) (fun (j3 : Unit → Option mm_H) =>
    if (mh_I h2 6 3) < (mh_I h2 1 1) then
    (gX8_byteAt 1 ((mh_I h2 6 3)) h2).bind (fun (x10 : Int32) =>
    (gX9_isDigit x10 h2).bind (fun (x12 : Bool) =>
    if x12 = true then
    (gX8_byteAt 1 ((mh_I h2 6 3)) h2).bind (fun (x15 : Int32) =>
    (some (ms_I h2 6 4 (((((mh_I h2 6 4) * 10) + x15) - 48)))).bind (fun (h17 : mm_H) =>
    (some (ms_I h17 6 3 (((mh_I h17 6 3) + 1)))).bind (fun (h18 : mm_H) =>
    gX9_readNumber_L5 n h18)))
    else
    j3 ()))
    else
    j3 ())
def gX9_readNumber (h : mm_H) : Option mm_H :=
(some (ms_I h 6 4 0)).bind (fun (h1 : mm_H) =>
gX9_readNumber_L5 mm_F h1)
theorem rX9_readNumber_L5 {q : mm_q} : ∀ (n : Nat) (h2 : mm_H), mm_E2 (mm_Sq (q.1, 1, q.2.2)) (mm_Sq (q.1, 1, q.2.2)) mX9_readNumber 5 [some (.ref 6)] [] h2 (gX9_readNumber_L5  n h2) lf_v := by
  intro n
  induction n with
  | zero =>
    intro h2
    exact mm_none
  | succ n ih =>
    intro h2
    rw [gX9_readNumber_L5]
    refine me_aload_n (pc' := 6) (i := 0) dX9_readNumber_5 rfl rfl rfl ?_
    refine me_getI (pc' := 9) dX9_readNumber_6 rfl fkX9_20 (mm_ks kd_6) (mm_ltq kd_6) rfl ?_
    refine me_aload_n (pc' := 10) (i := 0) dX9_readNumber_9 rfl rfl rfl ?_
    refine me_getR (pc' := 13) (q' := 1) dX9_readNumber_10 rfl fkX9_14 (mm_ks kd_6) (mm_ltq kd_6) rfl mrX9_0 ?_
    refine me_getI (pc' := 16) dX9_readNumber_13 rfl fkX9_27 (mm_ks kd_1) (mm_ltq kd_1) rfl ?_
    refine mm_jnI (fun (j39 : Unit → Option mm_H) => ∀ (_ : Unit), mm_E2 (mm_Sq (q.1, 1, q.2.2)) (mm_Sq (q.1, 1, q.2.2)) mX9_readNumber 75 [some (.ref 6)] [] h2 (j39 ()) lf_v) ?_ (fun j3 j3p => ?_)
    · intro _
      refine me_aload_n (pc' := 76) (i := 0) dX9_readNumber_75 rfl rfl rfl ?_
      refine me_aload_n (pc' := 77) (i := 0) dX9_readNumber_76 rfl rfl rfl ?_
      refine me_callV (As := []) (st := [.ref 6]) (F' := (mm_Sq (q.1, 1, q.2.2))) (G' := (mm_Sq (q.1, 1, q.2.2))) (F'' := (mm_Sq (q.1, 1, q.2.2))) (pc' := 80) dX9_readNumber_77 rfl mfX9_size rfl lkX9_56 (mm_ks kd_6) rfl (mm_ltq kd_6) ⟨Nat.le_of_ble_eq_true rfl, Nat.le_of_ble_eq_true rfl⟩ (Nat.le_of_ble_eq_true rfl) (fun z => z) (rX9_size (q := q) h2 ) (fun x4 e5 => Or.inl ⟨_, _, rfl, fun z => z, ?_⟩)
      show mm_E2 _ _ _ _ _ [.int x4, .ref 6] h2 _ _
      refine me_iconst (pc' := 81) (v := 4) dX9_readNumber_80 rfl kc_i4 ?_
      refine me_icmp_gt (pc' := 84) (tgt := 88) dX9_readNumber_81 (by decide) rfl (fun c6 => ?_) (fun c6 => ?_)
      · refine me_iconst (pc' := 89) (v := 4) dX9_readNumber_88 rfl kc_i4 ?_
        refine me_putI (F' := (mm_Sq (q.1, 1, q.2.2))) (pc' := 92) dX9_readNumber_89 rfl fkX9_41 (mm_ks kd_6) (mm_ltq kd_6) rfl pgX9_1 (fun z => z) ?_
        refine mm_bnd (ms_I h2 6 1 4) (fun _ => [some (.ref 6)]) (fun _ => []) (fun h7 => h7) (fun h7 => ?_)
        exact me_vret dX9_readNumber_92 rfl (fun z => z) rfl
      · refine me_iconst (pc' := 85) (v := 2) dX9_readNumber_84 rfl kc_i2 ?_
        refine me_goto (tgt := 89) dX9_readNumber_85 (by decide) ?_
        refine me_putI (F' := (mm_Sq (q.1, 1, q.2.2))) (pc' := 92) dX9_readNumber_89 rfl fkX9_41 (mm_ks kd_6) (mm_ltq kd_6) rfl pgX9_1 (fun z => z) ?_
        refine mm_bnd (ms_I h2 6 1 2) (fun _ => [some (.ref 6)]) (fun _ => []) (fun h8 => h8) (fun h8 => ?_)
        exact me_vret dX9_readNumber_92 rfl (fun z => z) rfl
    refine me_icmp_ge (pc' := 19) (tgt := 75) dX9_readNumber_16 (by decide) rfl (fun c9 => ?_) (fun c9 => ?_)
    · exact j3p ()
    · refine me_aload_n (pc' := 20) (i := 0) dX9_readNumber_19 rfl rfl rfl ?_
      refine me_getR (pc' := 23) (q' := 1) dX9_readNumber_20 rfl fkX9_14 (mm_ks kd_6) (mm_ltq kd_6) rfl mrX9_0 ?_
      refine me_aload_n (pc' := 24) (i := 0) dX9_readNumber_23 rfl rfl rfl ?_
      refine me_getI (pc' := 27) dX9_readNumber_24 rfl fkX9_20 (mm_ks kd_6) (mm_ltq kd_6) rfl ?_
      refine me_callV (As := [.int (mh_I h2 6 3)]) (st := []) (F' := (mm_Sq (q.1, 1, q.2.2))) (G' := (mm_Sq (q.1, 1, q.2.2))) (F'' := (mm_Sq (q.1, 1, q.2.2))) (pc' := 30) dX9_readNumber_27 rfl mfX8_byteAt rfl lkX9_30 (mm_ks kd_1) rfl (mm_ltq kd_1) ⟨Nat.le_of_ble_eq_true rfl, Nat.le_of_ble_eq_true rfl⟩ (Nat.le_of_ble_eq_true rfl) (fun z => z) (rX8_byteAt (q := (q.1, 1, q.2.2)) 1 ((mh_I h2 6 3)) h2 kd_1) (fun x10 e11 => Or.inl ⟨_, _, rfl, fun z => z, ?_⟩)
      show mm_E2 _ _ _ _ _ [.int x10] h2 _ _
      refine me_callS (As := [.int x10]) (st := []) (F' := (mm_Sq (q.1, 1, q.2.2))) (G' := (mm_Sq (q.1, 1, q.2.2))) (F'' := (mm_Sq (q.1, 1, q.2.2))) (pc' := 33) dX9_readNumber_30 rfl mfX9_isDigit rfl lkX9_50 ⟨Nat.le_of_ble_eq_true rfl, Nat.le_of_ble_eq_true rfl⟩ (Nat.le_of_ble_eq_true rfl) (fun z => z) (rX9_isDigit (q := q) x10 h2 ) (fun x12 e13 => Or.inl ⟨_, _, rfl, fun z => z, ?_⟩)
      show mm_E2 _ _ _ _ _ [.int (mx_bi x12)] h2 _ _
      refine me_ifB_eq (pc' := 36) (tgt := 75) dX9_readNumber_33 (by decide) rfl (fun c14 => ?_) (fun c14 => ?_)
      · exact j3p ()
      · refine me_aload_n (pc' := 37) (i := 0) dX9_readNumber_36 rfl rfl rfl ?_
        refine me_aload_n (pc' := 38) (i := 0) dX9_readNumber_37 rfl rfl rfl ?_
        refine me_getI (pc' := 41) dX9_readNumber_38 rfl fkX9_60 (mm_ks kd_6) (mm_ltq kd_6) rfl ?_
        refine me_bipush (pc' := 43) (v := 10) dX9_readNumber_41 rfl kc_b10 ?_
        refine me_imul (pc' := 44) dX9_readNumber_43 rfl ?_
        refine me_aload_n (pc' := 45) (i := 0) dX9_readNumber_44 rfl rfl rfl ?_
        refine me_getR (pc' := 48) (q' := 1) dX9_readNumber_45 rfl fkX9_14 (mm_ks kd_6) (mm_ltq kd_6) rfl mrX9_0 ?_
        refine me_aload_n (pc' := 49) (i := 0) dX9_readNumber_48 rfl rfl rfl ?_
        refine me_getI (pc' := 52) dX9_readNumber_49 rfl fkX9_20 (mm_ks kd_6) (mm_ltq kd_6) rfl ?_
        refine me_callV (As := [.int (mh_I h2 6 3)]) (st := [.int ((mh_I h2 6 4) * 10), .ref 6]) (F' := (mm_Sq (q.1, 1, q.2.2))) (G' := (mm_Sq (q.1, 1, q.2.2))) (F'' := (mm_Sq (q.1, 1, q.2.2))) (pc' := 55) dX9_readNumber_52 rfl mfX8_byteAt rfl lkX9_30 (mm_ks kd_1) rfl (mm_ltq kd_1) ⟨Nat.le_of_ble_eq_true rfl, Nat.le_of_ble_eq_true rfl⟩ (Nat.le_of_ble_eq_true rfl) (fun z => z) (rX8_byteAt (q := (q.1, 1, q.2.2)) 1 ((mh_I h2 6 3)) h2 kd_1) (fun x15 e16 => Or.inl ⟨_, _, rfl, fun z => z, ?_⟩)
        show mm_E2 _ _ _ _ _ [.int x15, .int ((mh_I h2 6 4) * 10), .ref 6] h2 _ _
        refine me_iadd (pc' := 56) dX9_readNumber_55 rfl ?_
        refine me_bipush (pc' := 58) (v := 48) dX9_readNumber_56 rfl kc_b48 ?_
        refine me_isub (pc' := 59) dX9_readNumber_58 rfl ?_
        refine me_putI (F' := (mm_Sq (q.1, 1, q.2.2))) (pc' := 62) dX9_readNumber_59 rfl fkX9_60 (mm_ks kd_6) (mm_ltq kd_6) rfl pgX9_4 (fun z => z) ?_
        refine mm_bnd (ms_I h2 6 4 (((((mh_I h2 6 4) * 10) + x15) - 48))) (fun _ => [some (.ref 6)]) (fun _ => []) (fun h17 => h17) (fun h17 => ?_)
        refine me_aload_n (pc' := 63) (i := 0) dX9_readNumber_62 rfl rfl rfl ?_
        refine me_dup (pc' := 64) dX9_readNumber_63 rfl rfl ?_
        refine me_getI (pc' := 67) dX9_readNumber_64 rfl fkX9_20 (mm_ks kd_6) (mm_ltq kd_6) rfl ?_
        refine me_iconst (pc' := 68) (v := 1) dX9_readNumber_67 rfl kc_i1 ?_
        refine me_iadd (pc' := 69) dX9_readNumber_68 rfl ?_
        refine me_putI (F' := (mm_Sq (q.1, 1, q.2.2))) (pc' := 72) dX9_readNumber_69 rfl fkX9_20 (mm_ks kd_6) (mm_ltq kd_6) rfl pgX9_3 (fun z => z) ?_
        refine mm_bnd (ms_I h17 6 3 (((mh_I h17 6 3) + 1))) (fun _ => [some (.ref 6)]) (fun _ => []) (fun h18 => h18) (fun h18 => ?_)
        refine me_goto (tgt := 5) dX9_readNumber_72 (by decide) ?_
        exact ih h18
theorem rX9_readNumber {q : mm_q} (h : mm_H) : mm_R2 (mm_Sq (q.1, 1, q.2.2)) (mm_Sq (q.1, 1, q.2.2)) mX9_readNumber [.ref 6] h (gX9_readNumber h) lf_v := by
  refine mm_body (L := [some (.ref 6)]) rfl (by decide +kernel) (Nat.le_of_ble_eq_true rfl) rfl ?_
  unfold gX9_readNumber
  refine me_aload_n (pc' := 1) (i := 0) dX9_readNumber_0 rfl rfl rfl ?_
  refine me_iconst (pc' := 2) (v := 0) dX9_readNumber_1 rfl kc_i0 ?_
  refine me_putI (F' := (mm_Sq (q.1, 1, q.2.2))) (pc' := 5) dX9_readNumber_2 rfl fkX9_60 (mm_ks kd_6) (mm_ltq kd_6) rfl pgX9_4 (fun z => z) ?_
  refine mm_bnd (ms_I h 6 4 0) (fun _ => [some (.ref 6)]) (fun _ => []) (fun h1 => h1) (fun h1 => ?_)
  exact rX9_readNumber_L5 (q := q) mm_F h1
def gX9_readWord_L0 : Nat → mm_H → Option mm_H
  | 0, _ => none
  | n + 1, h14 =>
    mm_jn (fun (_ : Unit) =>
    (gX9_size h14).bind (fun (x16 : Int32) =>
    if 9 < x16 then
    (some (ms_I h14 6 1 4)).bind (fun (h19 : mm_H) =>
    some h19)
    else
    (some (ms_I h14 6 1 1)).bind (fun (h20 : mm_H) =>
    some h20))) (fun (j15 : Unit → Option mm_H) =>
    if (mh_I h14 6 3) < (mh_I h14 1 1) then
    (gX8_byteAt 1 ((mh_I h14 6 3)) h14).bind (fun (x22 : Int32) =>
    (gX9_isLetter x22 h14).bind (fun (x24 : Bool) =>
    if x24 = true then
    (some (ms_I h14 6 3 (((mh_I h14 6 3) + 1)))).bind (fun (h27 : mm_H) =>
    gX9_readWord_L0 n h27)
    else
    j15 ()))
    else
    j15 ())
def gX9_readWord (h : mm_H) : Option mm_H :=
mm_jn (fun (_ : Unit) =>
(gX9_size h).bind (fun (x2 : Int32) =>
if 9 < x2 then
(some (ms_I h 6 1 4)).bind (fun (h5 : mm_H) =>
some h5)
else
(some (ms_I h 6 1 1)).bind (fun (h6 : mm_H) =>
some h6))) (fun (j1 : Unit → Option mm_H) =>
if (mh_I h 6 3) < (mh_I h 1 1) then
(gX8_byteAt 1 ((mh_I h 6 3)) h).bind (fun (x8 : Int32) =>
(gX9_isLetter x8 h).bind (fun (x10 : Bool) =>
if x10 = true then
(some (ms_I h 6 3 (((mh_I h 6 3) + 1)))).bind (fun (h13 : mm_H) =>
gX9_readWord_L0 mm_F h13)
else
j1 ()))
else
j1 ())
theorem rX9_readWord_L0 {q : mm_q} : ∀ (n : Nat) (h14 : mm_H), mm_E2 (mm_Sq (q.1, 1, q.2.2)) (mm_Sq (q.1, 1, q.2.2)) mX9_readWord 0 [some (.ref 6)] [] h14 (gX9_readWord_L0  n h14) lf_v := by
  intro n
  induction n with
  | zero =>
    intro h14
    exact mm_none
  | succ n ih =>
    intro h14
    rw [gX9_readWord_L0]
    refine me_aload_n (pc' := 1) (i := 0) dX9_readWord_0 rfl rfl rfl ?_
    refine me_getI (pc' := 4) dX9_readWord_1 rfl fkX9_20 (mm_ks kd_6) (mm_ltq kd_6) rfl ?_
    refine me_aload_n (pc' := 5) (i := 0) dX9_readWord_4 rfl rfl rfl ?_
    refine me_getR (pc' := 8) (q' := 1) dX9_readWord_5 rfl fkX9_14 (mm_ks kd_6) (mm_ltq kd_6) rfl mrX9_0 ?_
    refine me_getI (pc' := 11) dX9_readWord_8 rfl fkX9_27 (mm_ks kd_1) (mm_ltq kd_1) rfl ?_
    refine mm_jnI (fun (j159 : Unit → Option mm_H) => ∀ (_ : Unit), mm_E2 (mm_Sq (q.1, 1, q.2.2)) (mm_Sq (q.1, 1, q.2.2)) mX9_readWord 44 [some (.ref 6)] [] h14 (j159 ()) lf_v) ?_ (fun j15 j15p => ?_)
    · intro _
      refine me_aload_n (pc' := 45) (i := 0) dX9_readWord_44 rfl rfl rfl ?_
      refine me_aload_n (pc' := 46) (i := 0) dX9_readWord_45 rfl rfl rfl ?_
      refine me_callV (As := []) (st := [.ref 6]) (F' := (mm_Sq (q.1, 1, q.2.2))) (G' := (mm_Sq (q.1, 1, q.2.2))) (F'' := (mm_Sq (q.1, 1, q.2.2))) (pc' := 49) dX9_readWord_46 rfl mfX9_size rfl lkX9_56 (mm_ks kd_6) rfl (mm_ltq kd_6) ⟨Nat.le_of_ble_eq_true rfl, Nat.le_of_ble_eq_true rfl⟩ (Nat.le_of_ble_eq_true rfl) (fun z => z) (rX9_size (q := q) h14 ) (fun x16 e17 => Or.inl ⟨_, _, rfl, fun z => z, ?_⟩)
      show mm_E2 _ _ _ _ _ [.int x16, .ref 6] h14 _ _
      refine me_bipush (pc' := 51) (v := 9) dX9_readWord_49 rfl kc_b9 ?_
      refine me_icmp_gt (pc' := 54) (tgt := 58) dX9_readWord_51 (by decide) rfl (fun c18 => ?_) (fun c18 => ?_)
      · refine me_iconst (pc' := 59) (v := 4) dX9_readWord_58 rfl kc_i4 ?_
        refine me_putI (F' := (mm_Sq (q.1, 1, q.2.2))) (pc' := 62) dX9_readWord_59 rfl fkX9_41 (mm_ks kd_6) (mm_ltq kd_6) rfl pgX9_1 (fun z => z) ?_
        refine mm_bnd (ms_I h14 6 1 4) (fun _ => [some (.ref 6)]) (fun _ => []) (fun h19 => h19) (fun h19 => ?_)
        exact me_vret dX9_readWord_62 rfl (fun z => z) rfl
      · refine me_iconst (pc' := 55) (v := 1) dX9_readWord_54 rfl kc_i1 ?_
        refine me_goto (tgt := 59) dX9_readWord_55 (by decide) ?_
        refine me_putI (F' := (mm_Sq (q.1, 1, q.2.2))) (pc' := 62) dX9_readWord_59 rfl fkX9_41 (mm_ks kd_6) (mm_ltq kd_6) rfl pgX9_1 (fun z => z) ?_
        refine mm_bnd (ms_I h14 6 1 1) (fun _ => [some (.ref 6)]) (fun _ => []) (fun h20 => h20) (fun h20 => ?_)
        exact me_vret dX9_readWord_62 rfl (fun z => z) rfl
    refine me_icmp_ge (pc' := 14) (tgt := 44) dX9_readWord_11 (by decide) rfl (fun c21 => ?_) (fun c21 => ?_)
    · exact j15p ()
    · refine me_aload_n (pc' := 15) (i := 0) dX9_readWord_14 rfl rfl rfl ?_
      refine me_getR (pc' := 18) (q' := 1) dX9_readWord_15 rfl fkX9_14 (mm_ks kd_6) (mm_ltq kd_6) rfl mrX9_0 ?_
      refine me_aload_n (pc' := 19) (i := 0) dX9_readWord_18 rfl rfl rfl ?_
      refine me_getI (pc' := 22) dX9_readWord_19 rfl fkX9_20 (mm_ks kd_6) (mm_ltq kd_6) rfl ?_
      refine me_callV (As := [.int (mh_I h14 6 3)]) (st := []) (F' := (mm_Sq (q.1, 1, q.2.2))) (G' := (mm_Sq (q.1, 1, q.2.2))) (F'' := (mm_Sq (q.1, 1, q.2.2))) (pc' := 25) dX9_readWord_22 rfl mfX8_byteAt rfl lkX9_30 (mm_ks kd_1) rfl (mm_ltq kd_1) ⟨Nat.le_of_ble_eq_true rfl, Nat.le_of_ble_eq_true rfl⟩ (Nat.le_of_ble_eq_true rfl) (fun z => z) (rX8_byteAt (q := (q.1, 1, q.2.2)) 1 ((mh_I h14 6 3)) h14 kd_1) (fun x22 e23 => Or.inl ⟨_, _, rfl, fun z => z, ?_⟩)
      show mm_E2 _ _ _ _ _ [.int x22] h14 _ _
      refine me_callS (As := [.int x22]) (st := []) (F' := (mm_Sq (q.1, 1, q.2.2))) (G' := (mm_Sq (q.1, 1, q.2.2))) (F'' := (mm_Sq (q.1, 1, q.2.2))) (pc' := 28) dX9_readWord_25 rfl mfX9_isLetter rfl lkX9_44 ⟨Nat.le_of_ble_eq_true rfl, Nat.le_of_ble_eq_true rfl⟩ (Nat.le_of_ble_eq_true rfl) (fun z => z) (rX9_isLetter (q := q) x22 h14 ) (fun x24 e25 => Or.inl ⟨_, _, rfl, fun z => z, ?_⟩)
      show mm_E2 _ _ _ _ _ [.int (mx_bi x24)] h14 _ _
      refine me_ifB_eq (pc' := 31) (tgt := 44) dX9_readWord_28 (by decide) rfl (fun c26 => ?_) (fun c26 => ?_)
      · exact j15p ()
      · refine me_aload_n (pc' := 32) (i := 0) dX9_readWord_31 rfl rfl rfl ?_
        refine me_dup (pc' := 33) dX9_readWord_32 rfl rfl ?_
        refine me_getI (pc' := 36) dX9_readWord_33 rfl fkX9_20 (mm_ks kd_6) (mm_ltq kd_6) rfl ?_
        refine me_iconst (pc' := 37) (v := 1) dX9_readWord_36 rfl kc_i1 ?_
        refine me_iadd (pc' := 38) dX9_readWord_37 rfl ?_
        refine me_putI (F' := (mm_Sq (q.1, 1, q.2.2))) (pc' := 41) dX9_readWord_38 rfl fkX9_20 (mm_ks kd_6) (mm_ltq kd_6) rfl pgX9_3 (fun z => z) ?_
        refine mm_bnd (ms_I h14 6 3 (((mh_I h14 6 3) + 1))) (fun _ => [some (.ref 6)]) (fun _ => []) (fun h27 => h27) (fun h27 => ?_)
        refine me_goto (tgt := 0) dX9_readWord_41 (by decide) ?_
        exact ih h27
theorem rX9_readWord {q : mm_q} (h : mm_H) : mm_R2 (mm_Sq (q.1, 1, q.2.2)) (mm_Sq (q.1, 1, q.2.2)) mX9_readWord [.ref 6] h (gX9_readWord h) lf_v := by
  refine mm_body (L := [some (.ref 6)]) rfl (by decide +kernel) (Nat.le_of_ble_eq_true rfl) rfl ?_
  unfold gX9_readWord
  refine me_aload_n (pc' := 1) (i := 0) dX9_readWord_0 rfl rfl rfl ?_
  refine me_getI (pc' := 4) dX9_readWord_1 rfl fkX9_20 (mm_ks kd_6) (mm_ltq kd_6) rfl ?_
  refine me_aload_n (pc' := 5) (i := 0) dX9_readWord_4 rfl rfl rfl ?_
  refine me_getR (pc' := 8) (q' := 1) dX9_readWord_5 rfl fkX9_14 (mm_ks kd_6) (mm_ltq kd_6) rfl mrX9_0 ?_
  refine me_getI (pc' := 11) dX9_readWord_8 rfl fkX9_27 (mm_ks kd_1) (mm_ltq kd_1) rfl ?_
  refine mm_jnI (fun (j19 : Unit → Option mm_H) => ∀ (_ : Unit), mm_E2 (mm_Sq (q.1, 1, q.2.2)) (mm_Sq (q.1, 1, q.2.2)) mX9_readWord 44 [some (.ref 6)] [] h (j19 ()) lf_v) ?_ (fun j1 j1p => ?_)
  · intro _
    refine me_aload_n (pc' := 45) (i := 0) dX9_readWord_44 rfl rfl rfl ?_
    refine me_aload_n (pc' := 46) (i := 0) dX9_readWord_45 rfl rfl rfl ?_
    refine me_callV (As := []) (st := [.ref 6]) (F' := (mm_Sq (q.1, 1, q.2.2))) (G' := (mm_Sq (q.1, 1, q.2.2))) (F'' := (mm_Sq (q.1, 1, q.2.2))) (pc' := 49) dX9_readWord_46 rfl mfX9_size rfl lkX9_56 (mm_ks kd_6) rfl (mm_ltq kd_6) ⟨Nat.le_of_ble_eq_true rfl, Nat.le_of_ble_eq_true rfl⟩ (Nat.le_of_ble_eq_true rfl) (fun z => z) (rX9_size (q := q) h ) (fun x2 e3 => Or.inl ⟨_, _, rfl, fun z => z, ?_⟩)
    show mm_E2 _ _ _ _ _ [.int x2, .ref 6] h _ _
    refine me_bipush (pc' := 51) (v := 9) dX9_readWord_49 rfl kc_b9 ?_
    refine me_icmp_gt (pc' := 54) (tgt := 58) dX9_readWord_51 (by decide) rfl (fun c4 => ?_) (fun c4 => ?_)
    · refine me_iconst (pc' := 59) (v := 4) dX9_readWord_58 rfl kc_i4 ?_
      refine me_putI (F' := (mm_Sq (q.1, 1, q.2.2))) (pc' := 62) dX9_readWord_59 rfl fkX9_41 (mm_ks kd_6) (mm_ltq kd_6) rfl pgX9_1 (fun z => z) ?_
      refine mm_bnd (ms_I h 6 1 4) (fun _ => [some (.ref 6)]) (fun _ => []) (fun h5 => h5) (fun h5 => ?_)
      exact me_vret dX9_readWord_62 rfl (fun z => z) rfl
    · refine me_iconst (pc' := 55) (v := 1) dX9_readWord_54 rfl kc_i1 ?_
      refine me_goto (tgt := 59) dX9_readWord_55 (by decide) ?_
      refine me_putI (F' := (mm_Sq (q.1, 1, q.2.2))) (pc' := 62) dX9_readWord_59 rfl fkX9_41 (mm_ks kd_6) (mm_ltq kd_6) rfl pgX9_1 (fun z => z) ?_
      refine mm_bnd (ms_I h 6 1 1) (fun _ => [some (.ref 6)]) (fun _ => []) (fun h6 => h6) (fun h6 => ?_)
      exact me_vret dX9_readWord_62 rfl (fun z => z) rfl
  refine me_icmp_ge (pc' := 14) (tgt := 44) dX9_readWord_11 (by decide) rfl (fun c7 => ?_) (fun c7 => ?_)
  · exact j1p ()
  · refine me_aload_n (pc' := 15) (i := 0) dX9_readWord_14 rfl rfl rfl ?_
    refine me_getR (pc' := 18) (q' := 1) dX9_readWord_15 rfl fkX9_14 (mm_ks kd_6) (mm_ltq kd_6) rfl mrX9_0 ?_
    refine me_aload_n (pc' := 19) (i := 0) dX9_readWord_18 rfl rfl rfl ?_
    refine me_getI (pc' := 22) dX9_readWord_19 rfl fkX9_20 (mm_ks kd_6) (mm_ltq kd_6) rfl ?_
    refine me_callV (As := [.int (mh_I h 6 3)]) (st := []) (F' := (mm_Sq (q.1, 1, q.2.2))) (G' := (mm_Sq (q.1, 1, q.2.2))) (F'' := (mm_Sq (q.1, 1, q.2.2))) (pc' := 25) dX9_readWord_22 rfl mfX8_byteAt rfl lkX9_30 (mm_ks kd_1) rfl (mm_ltq kd_1) ⟨Nat.le_of_ble_eq_true rfl, Nat.le_of_ble_eq_true rfl⟩ (Nat.le_of_ble_eq_true rfl) (fun z => z) (rX8_byteAt (q := (q.1, 1, q.2.2)) 1 ((mh_I h 6 3)) h kd_1) (fun x8 e9 => Or.inl ⟨_, _, rfl, fun z => z, ?_⟩)
    show mm_E2 _ _ _ _ _ [.int x8] h _ _
    refine me_callS (As := [.int x8]) (st := []) (F' := (mm_Sq (q.1, 1, q.2.2))) (G' := (mm_Sq (q.1, 1, q.2.2))) (F'' := (mm_Sq (q.1, 1, q.2.2))) (pc' := 28) dX9_readWord_25 rfl mfX9_isLetter rfl lkX9_44 ⟨Nat.le_of_ble_eq_true rfl, Nat.le_of_ble_eq_true rfl⟩ (Nat.le_of_ble_eq_true rfl) (fun z => z) (rX9_isLetter (q := q) x8 h ) (fun x10 e11 => Or.inl ⟨_, _, rfl, fun z => z, ?_⟩)
    show mm_E2 _ _ _ _ _ [.int (mx_bi x10)] h _ _
    refine me_ifB_eq (pc' := 31) (tgt := 44) dX9_readWord_28 (by decide) rfl (fun c12 => ?_) (fun c12 => ?_)
    · exact j1p ()
    · refine me_aload_n (pc' := 32) (i := 0) dX9_readWord_31 rfl rfl rfl ?_
      refine me_dup (pc' := 33) dX9_readWord_32 rfl rfl ?_
      refine me_getI (pc' := 36) dX9_readWord_33 rfl fkX9_20 (mm_ks kd_6) (mm_ltq kd_6) rfl ?_
      refine me_iconst (pc' := 37) (v := 1) dX9_readWord_36 rfl kc_i1 ?_
      refine me_iadd (pc' := 38) dX9_readWord_37 rfl ?_
      refine me_putI (F' := (mm_Sq (q.1, 1, q.2.2))) (pc' := 41) dX9_readWord_38 rfl fkX9_20 (mm_ks kd_6) (mm_ltq kd_6) rfl pgX9_3 (fun z => z) ?_
      refine mm_bnd (ms_I h 6 3 (((mh_I h 6 3) + 1))) (fun _ => [some (.ref 6)]) (fun _ => []) (fun h13 => h13) (fun h13 => ?_)
      refine me_goto (tgt := 0) dX9_readWord_41 (by decide) ?_
      exact rX9_readWord_L0 (q := q) mm_F h13
def gX9_readToken_L0 : Nat → mm_H → Option mm_H
  | 0, _ => none
  | n + 1, h28 =>
    mm_jn (fun (_ : Unit) =>
    (some (ms_I h28 6 2 ((mh_I h28 6 3)))).bind (fun (h30 : mm_H) =>
    (gX8_byteAt 1 ((mh_I h30 6 2)) h30).bind (fun (x31 : Int32) =>
    if x31 = (-1) then
    (some (ms_I h30 6 1 0)).bind (fun (h48 : mm_H) =>
    some h48)
    else
    (gX9_isLetter x31 h30).bind (fun (x34 : Bool) =>
    if x34 = true then
    (gX9_readWord h30).bind (fun (h46 : mm_H) =>
    some h46)
    else
    (gX9_isDigit x31 h30).bind (fun (x37 : Bool) =>
    if x37 = true then
    (gX9_readNumber h30).bind (fun (h44 : mm_H) =>
    some h44)
    else
    (some (ms_I h30 6 3 (((mh_I h30 6 3) + 1)))).bind (fun (h40 : mm_H) =>
    if x31 = 59 then
    (some (ms_I h40 6 1 3)).bind (fun (h43 : mm_H) =>
    some h43)
    else
    (some (ms_I h40 6 1 4)).bind (fun (h42 : mm_H) =>
    some h42))))))) (fun (j29 : Unit → Option mm_H) =>
    if (mh_I h28 6 3) < (mh_I h28 1 1) then
    (gX8_byteAt 1 ((mh_I h28 6 3)) h28).bind (fun (x50 : Int32) =>
    (gX9_isSpace x50 h28).bind (fun (x52 : Bool) =>
    if x52 = true then
    (some (ms_I h28 6 3 (((mh_I h28 6 3) + 1)))).bind (fun (h55 : mm_H) =>
    gX9_readToken_L0 n h55)
    else
    j29 ()))
    else
    j29 ())
def gX9_readToken (h : mm_H) : Option mm_H :=
mm_jn (fun (_ : Unit) =>
(some (ms_I h 6 2 ((mh_I h 6 3)))).bind (fun (h2 : mm_H) =>
(gX8_byteAt 1 ((mh_I h2 6 2)) h2).bind (fun (x3 : Int32) =>
if x3 = (-1) then
(some (ms_I h2 6 1 0)).bind (fun (h20 : mm_H) =>
some h20)
else
(gX9_isLetter x3 h2).bind (fun (x6 : Bool) =>
if x6 = true then
(gX9_readWord h2).bind (fun (h18 : mm_H) =>
some h18)
else
(gX9_isDigit x3 h2).bind (fun (x9 : Bool) =>
if x9 = true then
(gX9_readNumber h2).bind (fun (h16 : mm_H) =>
some h16)
else
(some (ms_I h2 6 3 (((mh_I h2 6 3) + 1)))).bind (fun (h12 : mm_H) =>
if x3 = 59 then
(some (ms_I h12 6 1 3)).bind (fun (h15 : mm_H) =>
some h15)
else
(some (ms_I h12 6 1 4)).bind (fun (h14 : mm_H) =>
some h14))))))) (fun (j1 : Unit → Option mm_H) =>
if (mh_I h 6 3) < (mh_I h 1 1) then
(gX8_byteAt 1 ((mh_I h 6 3)) h).bind (fun (x22 : Int32) =>
(gX9_isSpace x22 h).bind (fun (x24 : Bool) =>
if x24 = true then
(some (ms_I h 6 3 (((mh_I h 6 3) + 1)))).bind (fun (h27 : mm_H) =>
gX9_readToken_L0 mm_F h27)
else
j1 ()))
else
j1 ())
theorem rX9_readToken_L0 {q : mm_q} : ∀ (n : Nat) (h28 : mm_H), mm_E2 (mm_Sq (q.1, 1, q.2.2)) (mm_Sq (q.1, 1, q.2.2)) mX9_readToken 0 [some (.ref 6), none] [] h28 (gX9_readToken_L0  n h28) lf_v := by
  intro n
  induction n with
  | zero =>
    intro h28
    exact mm_none
  | succ n ih =>
    intro h28
    rw [gX9_readToken_L0]
    refine me_aload_n (pc' := 1) (i := 0) dX9_readToken_0 rfl rfl rfl ?_
    refine me_getI (pc' := 4) dX9_readToken_1 rfl fkX9_20 (mm_ks kd_6) (mm_ltq kd_6) rfl ?_
    refine me_aload_n (pc' := 5) (i := 0) dX9_readToken_4 rfl rfl rfl ?_
    refine me_getR (pc' := 8) (q' := 1) dX9_readToken_5 rfl fkX9_14 (mm_ks kd_6) (mm_ltq kd_6) rfl mrX9_0 ?_
    refine me_getI (pc' := 11) dX9_readToken_8 rfl fkX9_27 (mm_ks kd_1) (mm_ltq kd_1) rfl ?_
    refine mm_jnI (fun (j299 : Unit → Option mm_H) => ∀ (_ : Unit), mm_E2 (mm_Sq (q.1, 1, q.2.2)) (mm_Sq (q.1, 1, q.2.2)) mX9_readToken 44 [some (.ref 6), none] [] h28 (j299 ()) lf_v) ?_ (fun j29 j29p => ?_)
    · intro _
      refine me_aload_n (pc' := 45) (i := 0) dX9_readToken_44 rfl rfl rfl ?_
      refine me_aload_n (pc' := 46) (i := 0) dX9_readToken_45 rfl rfl rfl ?_
      refine me_getI (pc' := 49) dX9_readToken_46 rfl fkX9_20 (mm_ks kd_6) (mm_ltq kd_6) rfl ?_
      refine me_putI (F' := (mm_Sq (q.1, 1, q.2.2))) (pc' := 52) dX9_readToken_49 rfl fkX9_38 (mm_ks kd_6) (mm_ltq kd_6) rfl pgX9_2 (fun z => z) ?_
      refine mm_bnd (ms_I h28 6 2 ((mh_I h28 6 3))) (fun _ => [some (.ref 6), none]) (fun _ => []) (fun h30 => h30) (fun h30 => ?_)
      refine me_aload_n (pc' := 53) (i := 0) dX9_readToken_52 rfl rfl rfl ?_
      refine me_getR (pc' := 56) (q' := 1) dX9_readToken_53 rfl fkX9_14 (mm_ks kd_6) (mm_ltq kd_6) rfl mrX9_0 ?_
      refine me_aload_n (pc' := 57) (i := 0) dX9_readToken_56 rfl rfl rfl ?_
      refine me_getI (pc' := 60) dX9_readToken_57 rfl fkX9_38 (mm_ks kd_6) (mm_ltq kd_6) rfl ?_
      refine me_callV (As := [.int (mh_I h30 6 2)]) (st := []) (F' := (mm_Sq (q.1, 1, q.2.2))) (G' := (mm_Sq (q.1, 1, q.2.2))) (F'' := (mm_Sq (q.1, 1, q.2.2))) (pc' := 63) dX9_readToken_60 rfl mfX8_byteAt rfl lkX9_30 (mm_ks kd_1) rfl (mm_ltq kd_1) ⟨Nat.le_of_ble_eq_true rfl, Nat.le_of_ble_eq_true rfl⟩ (Nat.le_of_ble_eq_true rfl) (fun z => z) (rX8_byteAt (q := (q.1, 1, q.2.2)) 1 ((mh_I h30 6 2)) h30 kd_1) (fun x31 e32 => Or.inl ⟨_, _, rfl, fun z => z, ?_⟩)
      show mm_E2 _ _ _ _ _ [.int x31] h30 _ _
      refine me_istore_n (pc' := 64) (i := 1) (L' := [some (.ref 6), some (.int x31)]) dX9_readToken_63 rfl rfl (Nat.le_of_ble_eq_true rfl) (Nat.le_of_ble_eq_true rfl) rfl ?_
      refine me_iload_n (pc' := 65) (i := 1) dX9_readToken_64 rfl rfl rfl ?_
      refine me_iconst (pc' := 66) (v := (-1)) dX9_readToken_65 rfl kc_im1 ?_
      refine me_icmp_ne (pc' := 69) (tgt := 77) dX9_readToken_66 (by decide) rfl (fun c33 => ?_) (fun c33 => ?_)
      · refine me_iload_n (pc' := 78) (i := 1) dX9_readToken_77 rfl rfl rfl ?_
        refine me_callS (As := [.int x31]) (st := []) (F' := (mm_Sq (q.1, 1, q.2.2))) (G' := (mm_Sq (q.1, 1, q.2.2))) (F'' := (mm_Sq (q.1, 1, q.2.2))) (pc' := 81) dX9_readToken_78 rfl mfX9_isLetter rfl lkX9_44 ⟨Nat.le_of_ble_eq_true rfl, Nat.le_of_ble_eq_true rfl⟩ (Nat.le_of_ble_eq_true rfl) (fun z => z) (rX9_isLetter (q := q) x31 h30 ) (fun x34 e35 => Or.inl ⟨_, _, rfl, fun z => z, ?_⟩)
        show mm_E2 _ _ _ _ _ [.int (mx_bi x34)] h30 _ _
        refine me_ifB_eq (pc' := 84) (tgt := 91) dX9_readToken_81 (by decide) rfl (fun c36 => ?_) (fun c36 => ?_)
        · refine me_iload_n (pc' := 92) (i := 1) dX9_readToken_91 rfl rfl rfl ?_
          refine me_callS (As := [.int x31]) (st := []) (F' := (mm_Sq (q.1, 1, q.2.2))) (G' := (mm_Sq (q.1, 1, q.2.2))) (F'' := (mm_Sq (q.1, 1, q.2.2))) (pc' := 95) dX9_readToken_92 rfl mfX9_isDigit rfl lkX9_50 ⟨Nat.le_of_ble_eq_true rfl, Nat.le_of_ble_eq_true rfl⟩ (Nat.le_of_ble_eq_true rfl) (fun z => z) (rX9_isDigit (q := q) x31 h30 ) (fun x37 e38 => Or.inl ⟨_, _, rfl, fun z => z, ?_⟩)
          show mm_E2 _ _ _ _ _ [.int (mx_bi x37)] h30 _ _
          refine me_ifB_eq (pc' := 98) (tgt := 105) dX9_readToken_95 (by decide) rfl (fun c39 => ?_) (fun c39 => ?_)
          · refine me_aload_n (pc' := 106) (i := 0) dX9_readToken_105 rfl rfl rfl ?_
            refine me_dup (pc' := 107) dX9_readToken_106 rfl rfl ?_
            refine me_getI (pc' := 110) dX9_readToken_107 rfl fkX9_20 (mm_ks kd_6) (mm_ltq kd_6) rfl ?_
            refine me_iconst (pc' := 111) (v := 1) dX9_readToken_110 rfl kc_i1 ?_
            refine me_iadd (pc' := 112) dX9_readToken_111 rfl ?_
            refine me_putI (F' := (mm_Sq (q.1, 1, q.2.2))) (pc' := 115) dX9_readToken_112 rfl fkX9_20 (mm_ks kd_6) (mm_ltq kd_6) rfl pgX9_3 (fun z => z) ?_
            refine mm_bnd (ms_I h30 6 3 (((mh_I h30 6 3) + 1))) (fun _ => [some (.ref 6), some (.int x31)]) (fun _ => []) (fun h40 => h40) (fun h40 => ?_)
            refine me_aload_n (pc' := 116) (i := 0) dX9_readToken_115 rfl rfl rfl ?_
            refine me_iload_n (pc' := 117) (i := 1) dX9_readToken_116 rfl rfl rfl ?_
            refine me_bipush (pc' := 119) (v := 59) dX9_readToken_117 rfl kc_b59 ?_
            refine me_icmp_ne (pc' := 122) (tgt := 126) dX9_readToken_119 (by decide) rfl (fun c41 => ?_) (fun c41 => ?_)
            · refine me_iconst (pc' := 127) (v := 4) dX9_readToken_126 rfl kc_i4 ?_
              refine me_putI (F' := (mm_Sq (q.1, 1, q.2.2))) (pc' := 130) dX9_readToken_127 rfl fkX9_41 (mm_ks kd_6) (mm_ltq kd_6) rfl pgX9_1 (fun z => z) ?_
              refine mm_bnd (ms_I h40 6 1 4) (fun _ => [some (.ref 6), some (.int x31)]) (fun _ => []) (fun h42 => h42) (fun h42 => ?_)
              exact me_vret dX9_readToken_130 rfl (fun z => z) rfl
            · refine me_iconst (pc' := 123) (v := 3) dX9_readToken_122 rfl kc_i3 ?_
              refine me_goto (tgt := 127) dX9_readToken_123 (by decide) ?_
              refine me_putI (F' := (mm_Sq (q.1, 1, q.2.2))) (pc' := 130) dX9_readToken_127 rfl fkX9_41 (mm_ks kd_6) (mm_ltq kd_6) rfl pgX9_1 (fun z => z) ?_
              refine mm_bnd (ms_I h40 6 1 3) (fun _ => [some (.ref 6), some (.int x31)]) (fun _ => []) (fun h43 => h43) (fun h43 => ?_)
              exact me_vret dX9_readToken_130 rfl (fun z => z) rfl
          · refine me_aload_n (pc' := 99) (i := 0) dX9_readToken_98 rfl rfl rfl ?_
            refine me_callV (As := []) (st := []) (F' := (mm_Sq (q.1, 1, q.2.2))) (G' := (mm_Sq (q.1, 1, q.2.2))) (F'' := (mm_Sq (q.1, 1, q.2.2))) (pc' := 102) dX9_readToken_99 rfl mfX9_readNumber rfl lkX9_53 (mm_ks kd_6) rfl (mm_ltq kd_6) ⟨Nat.le_of_ble_eq_true rfl, Nat.le_of_ble_eq_true rfl⟩ (Nat.le_of_ble_eq_true rfl) (fun z => z) (rX9_readNumber (q := q) h30 ) (fun h44 e45 => Or.inl ⟨_, _, rfl, fun z => z, ?_⟩)
            show mm_E2 _ _ _ _ _ [] h44 _ _
            refine me_goto (tgt := 130) dX9_readToken_102 (by decide) ?_
            exact me_vret dX9_readToken_130 rfl (fun z => z) rfl
        · refine me_aload_n (pc' := 85) (i := 0) dX9_readToken_84 rfl rfl rfl ?_
          refine me_callV (As := []) (st := []) (F' := (mm_Sq (q.1, 1, q.2.2))) (G' := (mm_Sq (q.1, 1, q.2.2))) (F'' := (mm_Sq (q.1, 1, q.2.2))) (pc' := 88) dX9_readToken_85 rfl mfX9_readWord rfl lkX9_47 (mm_ks kd_6) rfl (mm_ltq kd_6) ⟨Nat.le_of_ble_eq_true rfl, Nat.le_of_ble_eq_true rfl⟩ (Nat.le_of_ble_eq_true rfl) (fun z => z) (rX9_readWord (q := q) h30 ) (fun h46 e47 => Or.inl ⟨_, _, rfl, fun z => z, ?_⟩)
          show mm_E2 _ _ _ _ _ [] h46 _ _
          refine me_goto (tgt := 130) dX9_readToken_88 (by decide) ?_
          exact me_vret dX9_readToken_130 rfl (fun z => z) rfl
      · refine me_aload_n (pc' := 70) (i := 0) dX9_readToken_69 rfl rfl rfl ?_
        refine me_iconst (pc' := 71) (v := 0) dX9_readToken_70 rfl kc_i0 ?_
        refine me_putI (F' := (mm_Sq (q.1, 1, q.2.2))) (pc' := 74) dX9_readToken_71 rfl fkX9_41 (mm_ks kd_6) (mm_ltq kd_6) rfl pgX9_1 (fun z => z) ?_
        refine mm_bnd (ms_I h30 6 1 0) (fun _ => [some (.ref 6), some (.int x31)]) (fun _ => []) (fun h48 => h48) (fun h48 => ?_)
        refine me_goto (tgt := 130) dX9_readToken_74 (by decide) ?_
        exact me_vret dX9_readToken_130 rfl (fun z => z) rfl
    refine me_icmp_ge (pc' := 14) (tgt := 44) dX9_readToken_11 (by decide) rfl (fun c49 => ?_) (fun c49 => ?_)
    · exact j29p ()
    · refine me_aload_n (pc' := 15) (i := 0) dX9_readToken_14 rfl rfl rfl ?_
      refine me_getR (pc' := 18) (q' := 1) dX9_readToken_15 rfl fkX9_14 (mm_ks kd_6) (mm_ltq kd_6) rfl mrX9_0 ?_
      refine me_aload_n (pc' := 19) (i := 0) dX9_readToken_18 rfl rfl rfl ?_
      refine me_getI (pc' := 22) dX9_readToken_19 rfl fkX9_20 (mm_ks kd_6) (mm_ltq kd_6) rfl ?_
      refine me_callV (As := [.int (mh_I h28 6 3)]) (st := []) (F' := (mm_Sq (q.1, 1, q.2.2))) (G' := (mm_Sq (q.1, 1, q.2.2))) (F'' := (mm_Sq (q.1, 1, q.2.2))) (pc' := 25) dX9_readToken_22 rfl mfX8_byteAt rfl lkX9_30 (mm_ks kd_1) rfl (mm_ltq kd_1) ⟨Nat.le_of_ble_eq_true rfl, Nat.le_of_ble_eq_true rfl⟩ (Nat.le_of_ble_eq_true rfl) (fun z => z) (rX8_byteAt (q := (q.1, 1, q.2.2)) 1 ((mh_I h28 6 3)) h28 kd_1) (fun x50 e51 => Or.inl ⟨_, _, rfl, fun z => z, ?_⟩)
      show mm_E2 _ _ _ _ _ [.int x50] h28 _ _
      refine me_callS (As := [.int x50]) (st := []) (F' := (mm_Sq (q.1, 1, q.2.2))) (G' := (mm_Sq (q.1, 1, q.2.2))) (F'' := (mm_Sq (q.1, 1, q.2.2))) (pc' := 28) dX9_readToken_25 rfl mfX9_isSpace rfl lkX9_34 ⟨Nat.le_of_ble_eq_true rfl, Nat.le_of_ble_eq_true rfl⟩ (Nat.le_of_ble_eq_true rfl) (fun z => z) (rX9_isSpace (q := q) x50 h28 ) (fun x52 e53 => Or.inl ⟨_, _, rfl, fun z => z, ?_⟩)
      show mm_E2 _ _ _ _ _ [.int (mx_bi x52)] h28 _ _
      refine me_ifB_eq (pc' := 31) (tgt := 44) dX9_readToken_28 (by decide) rfl (fun c54 => ?_) (fun c54 => ?_)
      · exact j29p ()
      · refine me_aload_n (pc' := 32) (i := 0) dX9_readToken_31 rfl rfl rfl ?_
        refine me_dup (pc' := 33) dX9_readToken_32 rfl rfl ?_
        refine me_getI (pc' := 36) dX9_readToken_33 rfl fkX9_20 (mm_ks kd_6) (mm_ltq kd_6) rfl ?_
        refine me_iconst (pc' := 37) (v := 1) dX9_readToken_36 rfl kc_i1 ?_
        refine me_iadd (pc' := 38) dX9_readToken_37 rfl ?_
        refine me_putI (F' := (mm_Sq (q.1, 1, q.2.2))) (pc' := 41) dX9_readToken_38 rfl fkX9_20 (mm_ks kd_6) (mm_ltq kd_6) rfl pgX9_3 (fun z => z) ?_
        refine mm_bnd (ms_I h28 6 3 (((mh_I h28 6 3) + 1))) (fun _ => [some (.ref 6), none]) (fun _ => []) (fun h55 => h55) (fun h55 => ?_)
        refine me_goto (tgt := 0) dX9_readToken_41 (by decide) ?_
        exact ih h55
theorem rX9_readToken {q : mm_q} (h : mm_H) : mm_R2 (mm_Sq (q.1, 1, q.2.2)) (mm_Sq (q.1, 1, q.2.2)) mX9_readToken [.ref 6] h (gX9_readToken h) lf_v := by
  refine mm_body (L := [some (.ref 6), none]) rfl (by decide +kernel) (Nat.le_of_ble_eq_true rfl) rfl ?_
  unfold gX9_readToken
  refine me_aload_n (pc' := 1) (i := 0) dX9_readToken_0 rfl rfl rfl ?_
  refine me_getI (pc' := 4) dX9_readToken_1 rfl fkX9_20 (mm_ks kd_6) (mm_ltq kd_6) rfl ?_
  refine me_aload_n (pc' := 5) (i := 0) dX9_readToken_4 rfl rfl rfl ?_
  refine me_getR (pc' := 8) (q' := 1) dX9_readToken_5 rfl fkX9_14 (mm_ks kd_6) (mm_ltq kd_6) rfl mrX9_0 ?_
  refine me_getI (pc' := 11) dX9_readToken_8 rfl fkX9_27 (mm_ks kd_1) (mm_ltq kd_1) rfl ?_
  refine mm_jnI (fun (j19 : Unit → Option mm_H) => ∀ (_ : Unit), mm_E2 (mm_Sq (q.1, 1, q.2.2)) (mm_Sq (q.1, 1, q.2.2)) mX9_readToken 44 [some (.ref 6), none] [] h (j19 ()) lf_v) ?_ (fun j1 j1p => ?_)
  · intro _
    refine me_aload_n (pc' := 45) (i := 0) dX9_readToken_44 rfl rfl rfl ?_
    refine me_aload_n (pc' := 46) (i := 0) dX9_readToken_45 rfl rfl rfl ?_
    refine me_getI (pc' := 49) dX9_readToken_46 rfl fkX9_20 (mm_ks kd_6) (mm_ltq kd_6) rfl ?_
    refine me_putI (F' := (mm_Sq (q.1, 1, q.2.2))) (pc' := 52) dX9_readToken_49 rfl fkX9_38 (mm_ks kd_6) (mm_ltq kd_6) rfl pgX9_2 (fun z => z) ?_
    refine mm_bnd (ms_I h 6 2 ((mh_I h 6 3))) (fun _ => [some (.ref 6), none]) (fun _ => []) (fun h2 => h2) (fun h2 => ?_)
    refine me_aload_n (pc' := 53) (i := 0) dX9_readToken_52 rfl rfl rfl ?_
    refine me_getR (pc' := 56) (q' := 1) dX9_readToken_53 rfl fkX9_14 (mm_ks kd_6) (mm_ltq kd_6) rfl mrX9_0 ?_
    refine me_aload_n (pc' := 57) (i := 0) dX9_readToken_56 rfl rfl rfl ?_
    refine me_getI (pc' := 60) dX9_readToken_57 rfl fkX9_38 (mm_ks kd_6) (mm_ltq kd_6) rfl ?_
    refine me_callV (As := [.int (mh_I h2 6 2)]) (st := []) (F' := (mm_Sq (q.1, 1, q.2.2))) (G' := (mm_Sq (q.1, 1, q.2.2))) (F'' := (mm_Sq (q.1, 1, q.2.2))) (pc' := 63) dX9_readToken_60 rfl mfX8_byteAt rfl lkX9_30 (mm_ks kd_1) rfl (mm_ltq kd_1) ⟨Nat.le_of_ble_eq_true rfl, Nat.le_of_ble_eq_true rfl⟩ (Nat.le_of_ble_eq_true rfl) (fun z => z) (rX8_byteAt (q := (q.1, 1, q.2.2)) 1 ((mh_I h2 6 2)) h2 kd_1) (fun x3 e4 => Or.inl ⟨_, _, rfl, fun z => z, ?_⟩)
    show mm_E2 _ _ _ _ _ [.int x3] h2 _ _
    refine me_istore_n (pc' := 64) (i := 1) (L' := [some (.ref 6), some (.int x3)]) dX9_readToken_63 rfl rfl (Nat.le_of_ble_eq_true rfl) (Nat.le_of_ble_eq_true rfl) rfl ?_
    refine me_iload_n (pc' := 65) (i := 1) dX9_readToken_64 rfl rfl rfl ?_
    refine me_iconst (pc' := 66) (v := (-1)) dX9_readToken_65 rfl kc_im1 ?_
    refine me_icmp_ne (pc' := 69) (tgt := 77) dX9_readToken_66 (by decide) rfl (fun c5 => ?_) (fun c5 => ?_)
    · refine me_iload_n (pc' := 78) (i := 1) dX9_readToken_77 rfl rfl rfl ?_
      refine me_callS (As := [.int x3]) (st := []) (F' := (mm_Sq (q.1, 1, q.2.2))) (G' := (mm_Sq (q.1, 1, q.2.2))) (F'' := (mm_Sq (q.1, 1, q.2.2))) (pc' := 81) dX9_readToken_78 rfl mfX9_isLetter rfl lkX9_44 ⟨Nat.le_of_ble_eq_true rfl, Nat.le_of_ble_eq_true rfl⟩ (Nat.le_of_ble_eq_true rfl) (fun z => z) (rX9_isLetter (q := q) x3 h2 ) (fun x6 e7 => Or.inl ⟨_, _, rfl, fun z => z, ?_⟩)
      show mm_E2 _ _ _ _ _ [.int (mx_bi x6)] h2 _ _
      refine me_ifB_eq (pc' := 84) (tgt := 91) dX9_readToken_81 (by decide) rfl (fun c8 => ?_) (fun c8 => ?_)
      · refine me_iload_n (pc' := 92) (i := 1) dX9_readToken_91 rfl rfl rfl ?_
        refine me_callS (As := [.int x3]) (st := []) (F' := (mm_Sq (q.1, 1, q.2.2))) (G' := (mm_Sq (q.1, 1, q.2.2))) (F'' := (mm_Sq (q.1, 1, q.2.2))) (pc' := 95) dX9_readToken_92 rfl mfX9_isDigit rfl lkX9_50 ⟨Nat.le_of_ble_eq_true rfl, Nat.le_of_ble_eq_true rfl⟩ (Nat.le_of_ble_eq_true rfl) (fun z => z) (rX9_isDigit (q := q) x3 h2 ) (fun x9 e10 => Or.inl ⟨_, _, rfl, fun z => z, ?_⟩)
        show mm_E2 _ _ _ _ _ [.int (mx_bi x9)] h2 _ _
        refine me_ifB_eq (pc' := 98) (tgt := 105) dX9_readToken_95 (by decide) rfl (fun c11 => ?_) (fun c11 => ?_)
        · refine me_aload_n (pc' := 106) (i := 0) dX9_readToken_105 rfl rfl rfl ?_
          refine me_dup (pc' := 107) dX9_readToken_106 rfl rfl ?_
          refine me_getI (pc' := 110) dX9_readToken_107 rfl fkX9_20 (mm_ks kd_6) (mm_ltq kd_6) rfl ?_
          refine me_iconst (pc' := 111) (v := 1) dX9_readToken_110 rfl kc_i1 ?_
          refine me_iadd (pc' := 112) dX9_readToken_111 rfl ?_
          refine me_putI (F' := (mm_Sq (q.1, 1, q.2.2))) (pc' := 115) dX9_readToken_112 rfl fkX9_20 (mm_ks kd_6) (mm_ltq kd_6) rfl pgX9_3 (fun z => z) ?_
          refine mm_bnd (ms_I h2 6 3 (((mh_I h2 6 3) + 1))) (fun _ => [some (.ref 6), some (.int x3)]) (fun _ => []) (fun h12 => h12) (fun h12 => ?_)
          refine me_aload_n (pc' := 116) (i := 0) dX9_readToken_115 rfl rfl rfl ?_
          refine me_iload_n (pc' := 117) (i := 1) dX9_readToken_116 rfl rfl rfl ?_
          refine me_bipush (pc' := 119) (v := 59) dX9_readToken_117 rfl kc_b59 ?_
          refine me_icmp_ne (pc' := 122) (tgt := 126) dX9_readToken_119 (by decide) rfl (fun c13 => ?_) (fun c13 => ?_)
          · refine me_iconst (pc' := 127) (v := 4) dX9_readToken_126 rfl kc_i4 ?_
            refine me_putI (F' := (mm_Sq (q.1, 1, q.2.2))) (pc' := 130) dX9_readToken_127 rfl fkX9_41 (mm_ks kd_6) (mm_ltq kd_6) rfl pgX9_1 (fun z => z) ?_
            refine mm_bnd (ms_I h12 6 1 4) (fun _ => [some (.ref 6), some (.int x3)]) (fun _ => []) (fun h14 => h14) (fun h14 => ?_)
            exact me_vret dX9_readToken_130 rfl (fun z => z) rfl
          · refine me_iconst (pc' := 123) (v := 3) dX9_readToken_122 rfl kc_i3 ?_
            refine me_goto (tgt := 127) dX9_readToken_123 (by decide) ?_
            refine me_putI (F' := (mm_Sq (q.1, 1, q.2.2))) (pc' := 130) dX9_readToken_127 rfl fkX9_41 (mm_ks kd_6) (mm_ltq kd_6) rfl pgX9_1 (fun z => z) ?_
            refine mm_bnd (ms_I h12 6 1 3) (fun _ => [some (.ref 6), some (.int x3)]) (fun _ => []) (fun h15 => h15) (fun h15 => ?_)
            exact me_vret dX9_readToken_130 rfl (fun z => z) rfl
        · refine me_aload_n (pc' := 99) (i := 0) dX9_readToken_98 rfl rfl rfl ?_
          refine me_callV (As := []) (st := []) (F' := (mm_Sq (q.1, 1, q.2.2))) (G' := (mm_Sq (q.1, 1, q.2.2))) (F'' := (mm_Sq (q.1, 1, q.2.2))) (pc' := 102) dX9_readToken_99 rfl mfX9_readNumber rfl lkX9_53 (mm_ks kd_6) rfl (mm_ltq kd_6) ⟨Nat.le_of_ble_eq_true rfl, Nat.le_of_ble_eq_true rfl⟩ (Nat.le_of_ble_eq_true rfl) (fun z => z) (rX9_readNumber (q := q) h2 ) (fun h16 e17 => Or.inl ⟨_, _, rfl, fun z => z, ?_⟩)
          show mm_E2 _ _ _ _ _ [] h16 _ _
          refine me_goto (tgt := 130) dX9_readToken_102 (by decide) ?_
          exact me_vret dX9_readToken_130 rfl (fun z => z) rfl
      · refine me_aload_n (pc' := 85) (i := 0) dX9_readToken_84 rfl rfl rfl ?_
        refine me_callV (As := []) (st := []) (F' := (mm_Sq (q.1, 1, q.2.2))) (G' := (mm_Sq (q.1, 1, q.2.2))) (F'' := (mm_Sq (q.1, 1, q.2.2))) (pc' := 88) dX9_readToken_85 rfl mfX9_readWord rfl lkX9_47 (mm_ks kd_6) rfl (mm_ltq kd_6) ⟨Nat.le_of_ble_eq_true rfl, Nat.le_of_ble_eq_true rfl⟩ (Nat.le_of_ble_eq_true rfl) (fun z => z) (rX9_readWord (q := q) h2 ) (fun h18 e19 => Or.inl ⟨_, _, rfl, fun z => z, ?_⟩)
        show mm_E2 _ _ _ _ _ [] h18 _ _
        refine me_goto (tgt := 130) dX9_readToken_88 (by decide) ?_
        exact me_vret dX9_readToken_130 rfl (fun z => z) rfl
    · refine me_aload_n (pc' := 70) (i := 0) dX9_readToken_69 rfl rfl rfl ?_
      refine me_iconst (pc' := 71) (v := 0) dX9_readToken_70 rfl kc_i0 ?_
      refine me_putI (F' := (mm_Sq (q.1, 1, q.2.2))) (pc' := 74) dX9_readToken_71 rfl fkX9_41 (mm_ks kd_6) (mm_ltq kd_6) rfl pgX9_1 (fun z => z) ?_
      refine mm_bnd (ms_I h2 6 1 0) (fun _ => [some (.ref 6), some (.int x3)]) (fun _ => []) (fun h20 => h20) (fun h20 => ?_)
      refine me_goto (tgt := 130) dX9_readToken_74 (by decide) ?_
      exact me_vret dX9_readToken_130 rfl (fun z => z) rfl
  refine me_icmp_ge (pc' := 14) (tgt := 44) dX9_readToken_11 (by decide) rfl (fun c21 => ?_) (fun c21 => ?_)
  · exact j1p ()
  · refine me_aload_n (pc' := 15) (i := 0) dX9_readToken_14 rfl rfl rfl ?_
    refine me_getR (pc' := 18) (q' := 1) dX9_readToken_15 rfl fkX9_14 (mm_ks kd_6) (mm_ltq kd_6) rfl mrX9_0 ?_
    refine me_aload_n (pc' := 19) (i := 0) dX9_readToken_18 rfl rfl rfl ?_
    refine me_getI (pc' := 22) dX9_readToken_19 rfl fkX9_20 (mm_ks kd_6) (mm_ltq kd_6) rfl ?_
    refine me_callV (As := [.int (mh_I h 6 3)]) (st := []) (F' := (mm_Sq (q.1, 1, q.2.2))) (G' := (mm_Sq (q.1, 1, q.2.2))) (F'' := (mm_Sq (q.1, 1, q.2.2))) (pc' := 25) dX9_readToken_22 rfl mfX8_byteAt rfl lkX9_30 (mm_ks kd_1) rfl (mm_ltq kd_1) ⟨Nat.le_of_ble_eq_true rfl, Nat.le_of_ble_eq_true rfl⟩ (Nat.le_of_ble_eq_true rfl) (fun z => z) (rX8_byteAt (q := (q.1, 1, q.2.2)) 1 ((mh_I h 6 3)) h kd_1) (fun x22 e23 => Or.inl ⟨_, _, rfl, fun z => z, ?_⟩)
    show mm_E2 _ _ _ _ _ [.int x22] h _ _
    refine me_callS (As := [.int x22]) (st := []) (F' := (mm_Sq (q.1, 1, q.2.2))) (G' := (mm_Sq (q.1, 1, q.2.2))) (F'' := (mm_Sq (q.1, 1, q.2.2))) (pc' := 28) dX9_readToken_25 rfl mfX9_isSpace rfl lkX9_34 ⟨Nat.le_of_ble_eq_true rfl, Nat.le_of_ble_eq_true rfl⟩ (Nat.le_of_ble_eq_true rfl) (fun z => z) (rX9_isSpace (q := q) x22 h ) (fun x24 e25 => Or.inl ⟨_, _, rfl, fun z => z, ?_⟩)
    show mm_E2 _ _ _ _ _ [.int (mx_bi x24)] h _ _
    refine me_ifB_eq (pc' := 31) (tgt := 44) dX9_readToken_28 (by decide) rfl (fun c26 => ?_) (fun c26 => ?_)
    · exact j1p ()
    · refine me_aload_n (pc' := 32) (i := 0) dX9_readToken_31 rfl rfl rfl ?_
      refine me_dup (pc' := 33) dX9_readToken_32 rfl rfl ?_
      refine me_getI (pc' := 36) dX9_readToken_33 rfl fkX9_20 (mm_ks kd_6) (mm_ltq kd_6) rfl ?_
      refine me_iconst (pc' := 37) (v := 1) dX9_readToken_36 rfl kc_i1 ?_
      refine me_iadd (pc' := 38) dX9_readToken_37 rfl ?_
      refine me_putI (F' := (mm_Sq (q.1, 1, q.2.2))) (pc' := 41) dX9_readToken_38 rfl fkX9_20 (mm_ks kd_6) (mm_ltq kd_6) rfl pgX9_3 (fun z => z) ?_
      refine mm_bnd (ms_I h 6 3 (((mh_I h 6 3) + 1))) (fun _ => [some (.ref 6), none]) (fun _ => []) (fun h27 => h27) (fun h27 => ?_)
      refine me_goto (tgt := 0) dX9_readToken_41 (by decide) ?_
      exact rX9_readToken_L0 (q := q) mm_F h27
def gX9_startWith (h : mm_H) : Option mm_H :=
(some (ms_R h 6 0 (some 1))).bind (fun (h1 : mm_H) =>
(some (ms_I h1 6 3 0)).bind (fun (h2 : mm_H) =>
(gX9_readToken h2).bind (fun (h3 : mm_H) =>
some h3)))
theorem rX9_startWith {q : mm_q} (h : mm_H) : mm_R2 (mm_Sq q) (mm_Sq (q.1, 1, q.2.2)) mX9_startWith [.ref 6, .ref 1] h (gX9_startWith h) lf_v := by
  refine mm_body (L := [some (.ref 6), some (.ref 1)]) rfl (by decide +kernel) (Nat.le_of_ble_eq_true rfl) rfl ?_
  unfold gX9_startWith
  refine me_aload_n (pc' := 1) (i := 0) dX9_startWith_0 rfl rfl rfl ?_
  refine me_aload_n (pc' := 2) (i := 1) dX9_startWith_1 rfl rfl rfl ?_
  refine me_putT (pc' := 5) dX9_startWith_2 rfl fkX9_14 (Nat.le_of_ble_eq_true rfl) ?_
  refine mm_bnd (ms_R h 6 0 (some 1)) (fun _ => [some (.ref 6), some (.ref 1)]) (fun _ => []) (fun h1 => h1) (fun h1 => ?_)
  refine me_aload_n (pc' := 6) (i := 0) dX9_startWith_5 rfl rfl rfl ?_
  refine me_iconst (pc' := 7) (v := 0) dX9_startWith_6 rfl kc_i0 ?_
  refine me_putI (F' := (mm_Sq (q.1, 1, q.2.2))) (pc' := 10) dX9_startWith_7 rfl fkX9_20 (mm_ks kd_6) (mm_ltq kd_6) rfl pgX9_3 (fun z => z) ?_
  refine mm_bnd (ms_I h1 6 3 0) (fun _ => [some (.ref 6), some (.ref 1)]) (fun _ => []) (fun h2 => h2) (fun h2 => ?_)
  refine me_aload_n (pc' := 11) (i := 0) dX9_startWith_10 rfl rfl rfl ?_
  refine me_callV (As := []) (st := []) (F' := (mm_Sq (q.1, 1, q.2.2))) (G' := (mm_Sq (q.1, 1, q.2.2))) (F'' := (mm_Sq (q.1, 1, q.2.2))) (pc' := 14) dX9_startWith_11 rfl mfX9_readToken rfl lkX9_24 (mm_ks kd_6) rfl (mm_ltq kd_6) ⟨Nat.le_of_ble_eq_true rfl, Nat.le_of_ble_eq_true rfl⟩ (Nat.le_of_ble_eq_true rfl) (fun z => z) (rX9_readToken (q := q) h2 ) (fun h3 e4 => Or.inl ⟨_, _, rfl, fun z => z, ?_⟩)
  show mm_E2 _ _ _ _ _ [] h3 _ _
  exact me_vret dX9_startWith_14 rfl (fun z => z) rfl
def gX3_begin (h : mm_H) : Option mm_H :=
(some (ms_I h 5 1 0)).bind (fun (h1 : mm_H) =>
(some (ms_I h1 5 2 (-1))).bind (fun (h2 : mm_H) =>
(gX9_startWith h2).bind (fun (h3 : mm_H) =>
some h3)))
theorem rX3_begin {q : mm_q} (h : mm_H) : mm_R2 (mm_Sq q) (mm_Sq (q.1, 1, q.2.2)) mX3_begin [.ref 5, .ref 1] h (gX3_begin h) lf_v := by
  refine mm_body (L := [some (.ref 5), some (.ref 1)]) rfl (by decide +kernel) (Nat.le_of_ble_eq_true rfl) rfl ?_
  unfold gX3_begin
  refine me_aload_n (pc' := 1) (i := 0) dX3_begin_0 rfl rfl rfl ?_
  refine me_iconst (pc' := 2) (v := 0) dX3_begin_1 rfl kc_i0 ?_
  refine me_putI (F' := (mm_Sq q)) (pc' := 5) dX3_begin_2 rfl fkX3_77 (mm_ks kd_5) (mm_ltq kd_5) rfl pgX3_1 (fun z => z) ?_
  refine mm_bnd (ms_I h 5 1 0) (fun _ => [some (.ref 5), some (.ref 1)]) (fun _ => []) (fun h1 => h1) (fun h1 => ?_)
  refine me_aload_n (pc' := 6) (i := 0) dX3_begin_5 rfl rfl rfl ?_
  refine me_iconst (pc' := 7) (v := (-1)) dX3_begin_6 rfl kc_im1 ?_
  refine me_putI (F' := (mm_Sq q)) (pc' := 10) dX3_begin_7 rfl fkX3_18 (mm_ks kd_5) (mm_ltq kd_5) rfl pgX3_2 (fun z => z) ?_
  refine mm_bnd (ms_I h1 5 2 (-1)) (fun _ => [some (.ref 5), some (.ref 1)]) (fun _ => []) (fun h2 => h2) (fun h2 => ?_)
  refine me_aload_n (pc' := 11) (i := 0) dX3_begin_10 rfl rfl rfl ?_
  refine me_getR (pc' := 14) (q' := 6) dX3_begin_11 rfl fkX3_12 (mm_ks kd_5) (mm_ltq kd_5) rfl (mrX3_0 kd_5) ?_
  refine me_aload_n (pc' := 15) (i := 1) dX3_begin_14 rfl rfl rfl ?_
  refine me_callV (As := [.ref 1]) (st := []) (F' := (mm_Sq q)) (G' := (mm_Sq (q.1, 1, q.2.2))) (F'' := (mm_Sq (q.1, 1, q.2.2))) (pc' := 18) dX3_begin_15 rfl mfX9_startWith rfl lkX3_80 (mm_ks kd_6) rfl (mm_ltq kd_6) ⟨Nat.le_of_ble_eq_true rfl, Nat.le_of_ble_eq_true rfl⟩ (Nat.le_of_ble_eq_true rfl) (fun z => z) (rX9_startWith (q := q) h2 ) (fun h3 e4 => Or.inl ⟨_, _, rfl, fun z => z, ?_⟩)
  show mm_E2 _ _ _ _ _ [] h3 _ _
  exact me_vret dX3_begin_18 rfl (fun z => z) rfl
def gX3_fail (p0 : Int32) (h : mm_H) : Option (Bool × mm_H) :=
(some (ms_I h 5 1 p0)).bind (fun (h1 : mm_H) =>
(some (ms_I h1 5 2 ((mh_I h1 6 2)))).bind (fun (h2 : mm_H) =>
some (false, h2)))
theorem rX3_fail {q : mm_q} (p0 : Int32) (h : mm_H) : mm_R2 (mm_Sq (q.1, 1, q.2.2)) (mm_Sq (q.1, 1, q.2.2)) mX3_fail [.ref 5, .int p0] h (gX3_fail p0 h) lf_ze := by
  refine mm_body (L := [some (.ref 5), some (.int p0)]) rfl (by decide +kernel) (Nat.le_of_ble_eq_true rfl) rfl ?_
  unfold gX3_fail
  refine me_aload_n (pc' := 1) (i := 0) dX3_fail_0 rfl rfl rfl ?_
  refine me_iload_n (pc' := 2) (i := 1) dX3_fail_1 rfl rfl rfl ?_
  refine me_putI (F' := (mm_Sq (q.1, 1, q.2.2))) (pc' := 5) dX3_fail_2 rfl fkX3_77 (mm_ks kd_5) (mm_ltq kd_5) rfl pgX3_1 (fun z => z) ?_
  refine mm_bnd (ms_I h 5 1 p0) (fun _ => [some (.ref 5), some (.int p0)]) (fun _ => []) (fun h1 => h1) (fun h1 => ?_)
  refine me_aload_n (pc' := 6) (i := 0) dX3_fail_5 rfl rfl rfl ?_
  refine me_aload_n (pc' := 7) (i := 0) dX3_fail_6 rfl rfl rfl ?_
  refine me_getR (pc' := 10) (q' := 6) dX3_fail_7 rfl fkX3_12 (mm_ks kd_5) (mm_ltq kd_5) rfl (mrX3_0 kd_5) ?_
  refine me_getI (pc' := 13) dX3_fail_10 rfl fkX3_83 (mm_ks kd_6) (mm_ltq kd_6) rfl ?_
  refine me_putI (F' := (mm_Sq (q.1, 1, q.2.2))) (pc' := 16) dX3_fail_13 rfl fkX3_18 (mm_ks kd_5) (mm_ltq kd_5) rfl pgX3_2 (fun z => z) ?_
  refine mm_bnd (ms_I h1 5 2 ((mh_I h1 6 2))) (fun _ => [some (.ref 5), some (.int p0)]) (fun _ => []) (fun h2 => h2) (fun h2 => ?_)
  refine me_iconst (pc' := 17) (v := 0) dX3_fail_16 rfl kc_i0 ?_
  exact me_zret (b := false) dX3_fail_17 rfl (fun z => z) rfl
def gX3_takeKnownName (p0 : Nat) (h : mm_H) : Option (Int32 × mm_H) :=
if (mh_I h 6 1) = 1 then
(gX9_size h).bind (fun (x2 : Int32) =>
(gX1_numberOf p0 1 ((mh_I h 6 2)) x2 h).bind (fun (x4 : Int32) =>
if x4 = (-1) then
(gX3_fail 3 h).bind (fun (x9 : (Bool × mm_H)) =>
some ((-1), x9.2))
else
(gX9_readToken h).bind (fun (h7 : mm_H) =>
some (x4, h7))))
else
(gX3_fail 1 h).bind (fun (x11 : (Bool × mm_H)) =>
some ((-1), x11.2))
theorem rX3_takeKnownName {q : mm_q} (p0 : Nat) (h : mm_H) (hp0 : mm_kd p0 = (0, 1)) : mm_R2 (mm_Sq (q.1, 1, q.2.2)) (mm_Sq (q.1, 1, q.2.2)) mX3_takeKnownName [.ref 5, .ref p0] h (gX3_takeKnownName p0 h) lf_ie := by
  refine mm_body (L := [some (.ref 5), some (.ref p0), none]) rfl (by decide +kernel) (Nat.le_of_ble_eq_true rfl) rfl ?_
  unfold gX3_takeKnownName
  refine me_aload_n (pc' := 1) (i := 0) dX3_takeKnownName_0 rfl rfl rfl ?_
  refine me_getR (pc' := 4) (q' := 6) dX3_takeKnownName_1 rfl fkX3_12 (mm_ks kd_5) (mm_ltq kd_5) rfl (mrX3_0 kd_5) ?_
  refine me_getI (pc' := 7) dX3_takeKnownName_4 rfl fkX3_63 (mm_ks kd_6) (mm_ltq kd_6) rfl ?_
  refine me_iconst (pc' := 8) (v := 1) dX3_takeKnownName_7 rfl kc_i1 ?_
  refine me_icmp_eq (pc' := 11) (tgt := 19) dX3_takeKnownName_8 (by decide) rfl (fun c1 => ?_) (fun c1 => ?_)
  · refine me_aload_n (pc' := 20) (i := 1) dX3_takeKnownName_19 rfl rfl rfl ?_
    refine me_aload_n (pc' := 21) (i := 0) dX3_takeKnownName_20 rfl rfl rfl ?_
    refine me_getR (pc' := 24) (q' := 6) dX3_takeKnownName_21 rfl fkX3_12 (mm_ks kd_5) (mm_ltq kd_5) rfl (mrX3_0 kd_5) ?_
    refine me_getR (pc' := 27) (q' := 1) dX3_takeKnownName_24 rfl fkX3_96 (mm_ks kd_6) (mm_ltq kd_6) rfl mrX9_0 ?_
    refine me_aload_n (pc' := 28) (i := 0) dX3_takeKnownName_27 rfl rfl rfl ?_
    refine me_getR (pc' := 31) (q' := 6) dX3_takeKnownName_28 rfl fkX3_12 (mm_ks kd_5) (mm_ltq kd_5) rfl (mrX3_0 kd_5) ?_
    refine me_getI (pc' := 34) dX3_takeKnownName_31 rfl fkX3_83 (mm_ks kd_6) (mm_ltq kd_6) rfl ?_
    refine me_aload_n (pc' := 35) (i := 0) dX3_takeKnownName_34 rfl rfl rfl ?_
    refine me_getR (pc' := 38) (q' := 6) dX3_takeKnownName_35 rfl fkX3_12 (mm_ks kd_5) (mm_ltq kd_5) rfl (mrX3_0 kd_5) ?_
    refine me_callV (As := []) (st := [.int (mh_I h 6 2), .ref 1, .ref p0]) (F' := (mm_Sq (q.1, 1, q.2.2))) (G' := (mm_Sq (q.1, 1, q.2.2))) (F'' := (mm_Sq (q.1, 1, q.2.2))) (pc' := 41) dX3_takeKnownName_38 rfl mfX9_size rfl lkX3_100 (mm_ks kd_6) rfl (mm_ltq kd_6) ⟨Nat.le_of_ble_eq_true rfl, Nat.le_of_ble_eq_true rfl⟩ (Nat.le_of_ble_eq_true rfl) (fun z => z) (rX9_size (q := q) h ) (fun x2 e3 => Or.inl ⟨_, _, rfl, fun z => z, ?_⟩)
    show mm_E2 _ _ _ _ _ [.int x2, .int (mh_I h 6 2), .ref 1, .ref p0] h _ _
    refine me_callV (As := [.ref 1, .int (mh_I h 6 2), .int x2]) (st := []) (F' := (mm_Sq (q.1, 1, q.2.2))) (G' := (mm_Sq (q.1, 1, q.2.2))) (F'' := (mm_Sq (q.1, 1, q.2.2))) (pc' := 44) dX3_takeKnownName_41 rfl mfX1_numberOf rfl lkX3_103 (mm_ks hp0) rfl (mm_ltq hp0) ⟨Nat.le_of_ble_eq_true rfl, Nat.le_of_ble_eq_true rfl⟩ (Nat.le_of_ble_eq_true rfl) (fun z => z) (rX1_numberOf (q := (q.1, 1, q.2.2)) p0 1 ((mh_I h 6 2)) x2 h hp0 kd_1) (fun x4 e5 => Or.inl ⟨_, _, rfl, fun z => z, ?_⟩)
    show mm_E2 _ _ _ _ _ [.int x4] h _ _
    refine me_istore_n (pc' := 45) (i := 2) (L' := [some (.ref 5), some (.ref p0), some (.int x4)]) dX3_takeKnownName_44 rfl rfl (Nat.le_of_ble_eq_true rfl) (Nat.le_of_ble_eq_true rfl) rfl ?_
    refine me_iload_n (pc' := 46) (i := 2) dX3_takeKnownName_45 rfl rfl rfl ?_
    refine me_iconst (pc' := 47) (v := (-1)) dX3_takeKnownName_46 rfl kc_im1 ?_
    refine me_icmp_ne (pc' := 50) (tgt := 58) dX3_takeKnownName_47 (by decide) rfl (fun c6 => ?_) (fun c6 => ?_)
    · refine me_aload_n (pc' := 59) (i := 0) dX3_takeKnownName_58 rfl rfl rfl ?_
      refine me_getR (pc' := 62) (q' := 6) dX3_takeKnownName_59 rfl fkX3_12 (mm_ks kd_5) (mm_ltq kd_5) rfl (mrX3_0 kd_5) ?_
      refine me_callV (As := []) (st := []) (F' := (mm_Sq (q.1, 1, q.2.2))) (G' := (mm_Sq (q.1, 1, q.2.2))) (F'' := (mm_Sq (q.1, 1, q.2.2))) (pc' := 65) dX3_takeKnownName_62 rfl mfX9_readToken rfl lkX3_86 (mm_ks kd_6) rfl (mm_ltq kd_6) ⟨Nat.le_of_ble_eq_true rfl, Nat.le_of_ble_eq_true rfl⟩ (Nat.le_of_ble_eq_true rfl) (fun z => z) (rX9_readToken (q := q) h ) (fun h7 e8 => Or.inl ⟨_, _, rfl, fun z => z, ?_⟩)
      show mm_E2 _ _ _ _ _ [] h7 _ _
      refine me_iload_n (pc' := 66) (i := 2) dX3_takeKnownName_65 rfl rfl rfl ?_
      exact me_iret dX3_takeKnownName_66 rfl (fun z => z) rfl
    · refine me_aload_n (pc' := 51) (i := 0) dX3_takeKnownName_50 rfl rfl rfl ?_
      refine me_iconst (pc' := 52) (v := 3) dX3_takeKnownName_51 rfl kc_i3 ?_
      refine me_callV (As := [.int 3]) (st := []) (F' := (mm_Sq (q.1, 1, q.2.2))) (G' := (mm_Sq (q.1, 1, q.2.2))) (F'' := (mm_Sq (q.1, 1, q.2.2))) (pc' := 55) dX3_takeKnownName_52 rfl mfX3_fail rfl lkX3_53 (mm_ks kd_5) rfl (mm_ltq kd_5) ⟨Nat.le_of_ble_eq_true rfl, Nat.le_of_ble_eq_true rfl⟩ (Nat.le_of_ble_eq_true rfl) (fun z => z) (rX3_fail (q := q) 3 h ) (fun x9 e10 => Or.inl ⟨_, _, rfl, fun z => z, ?_⟩)
      show mm_E2 _ _ _ _ _ [.int (mx_bi x9.1)] x9.2 _ _
      refine me_pop (pc' := 56) dX3_takeKnownName_55 rfl rfl ?_
      refine me_iconst (pc' := 57) (v := (-1)) dX3_takeKnownName_56 rfl kc_im1 ?_
      exact me_iret dX3_takeKnownName_57 rfl (fun z => z) rfl
  · refine me_aload_n (pc' := 12) (i := 0) dX3_takeKnownName_11 rfl rfl rfl ?_
    refine me_iconst (pc' := 13) (v := 1) dX3_takeKnownName_12 rfl kc_i1 ?_
    refine me_callV (As := [.int 1]) (st := []) (F' := (mm_Sq (q.1, 1, q.2.2))) (G' := (mm_Sq (q.1, 1, q.2.2))) (F'' := (mm_Sq (q.1, 1, q.2.2))) (pc' := 16) dX3_takeKnownName_13 rfl mfX3_fail rfl lkX3_53 (mm_ks kd_5) rfl (mm_ltq kd_5) ⟨Nat.le_of_ble_eq_true rfl, Nat.le_of_ble_eq_true rfl⟩ (Nat.le_of_ble_eq_true rfl) (fun z => z) (rX3_fail (q := q) 1 h ) (fun x11 e12 => Or.inl ⟨_, _, rfl, fun z => z, ?_⟩)
    show mm_E2 _ _ _ _ _ [.int (mx_bi x11.1)] x11.2 _ _
    refine me_pop (pc' := 17) dX3_takeKnownName_16 rfl rfl ?_
    refine me_iconst (pc' := 18) (v := (-1)) dX3_takeKnownName_17 rfl kc_im1 ?_
    exact me_iret dX3_takeKnownName_18 rfl (fun z => z) rfl
def gX3_takeNumber (p0 : Int32) (p1 : Int32) (h : mm_H) : Option (Int32 × mm_H) :=
if (mh_I h 6 1) = 2 then
(some ((mh_I h 6 4))).bind (fun (x2 : Int32) =>
(gX10_isOutside x2 p0 p1 h).bind (fun (x3 : Bool) =>
if x3 = true then
(gX3_fail 2 h).bind (fun (x8 : (Bool × mm_H)) =>
some ((-1), x8.2))
else
(gX9_readToken h).bind (fun (h6 : mm_H) =>
some (x2, h6))))
else
(gX3_fail 1 h).bind (fun (x10 : (Bool × mm_H)) =>
some ((-1), x10.2))
theorem rX3_takeNumber {q : mm_q} (p0 : Int32) (p1 : Int32) (h : mm_H) : mm_R2 (mm_Sq (q.1, 1, q.2.2)) (mm_Sq (q.1, 1, q.2.2)) mX3_takeNumber [.ref 5, .int p0, .int p1] h (gX3_takeNumber p0 p1 h) lf_ie := by
  refine mm_body (L := [some (.ref 5), some (.int p0), some (.int p1), none]) rfl (by decide +kernel) (Nat.le_of_ble_eq_true rfl) rfl ?_
  unfold gX3_takeNumber
  refine me_aload_n (pc' := 1) (i := 0) dX3_takeNumber_0 rfl rfl rfl ?_
  refine me_getR (pc' := 4) (q' := 6) dX3_takeNumber_1 rfl fkX3_12 (mm_ks kd_5) (mm_ltq kd_5) rfl (mrX3_0 kd_5) ?_
  refine me_getI (pc' := 7) dX3_takeNumber_4 rfl fkX3_63 (mm_ks kd_6) (mm_ltq kd_6) rfl ?_
  refine me_iconst (pc' := 8) (v := 2) dX3_takeNumber_7 rfl kc_i2 ?_
  refine me_icmp_eq (pc' := 11) (tgt := 19) dX3_takeNumber_8 (by decide) rfl (fun c1 => ?_) (fun c1 => ?_)
  · refine me_aload_n (pc' := 20) (i := 0) dX3_takeNumber_19 rfl rfl rfl ?_
    refine me_getR (pc' := 23) (q' := 6) dX3_takeNumber_20 rfl fkX3_12 (mm_ks kd_5) (mm_ltq kd_5) rfl (mrX3_0 kd_5) ?_
    refine me_getI (pc' := 26) dX3_takeNumber_23 rfl fkX3_89 (mm_ks kd_6) (mm_ltq kd_6) rfl ?_
    refine mm_bnd ((mh_I h 6 4)) (fun x2 => [some (.ref 5), some (.int p0), some (.int p1), none]) (fun x2 => [.int x2]) (fun _ => h) (fun x2 => ?_)
    refine me_istore_n (pc' := 27) (i := 3) (L' := [some (.ref 5), some (.int p0), some (.int p1), some (.int x2)]) dX3_takeNumber_26 rfl rfl (Nat.le_of_ble_eq_true rfl) (Nat.le_of_ble_eq_true rfl) rfl ?_
    refine me_iload_n (pc' := 28) (i := 3) dX3_takeNumber_27 rfl rfl rfl ?_
    refine me_iload_n (pc' := 29) (i := 1) dX3_takeNumber_28 rfl rfl rfl ?_
    refine me_iload_n (pc' := 30) (i := 2) dX3_takeNumber_29 rfl rfl rfl ?_
    refine me_callS (As := [.int x2, .int p0, .int p1]) (st := []) (F' := (mm_Sq (q.1, 1, q.2.2))) (G' := (mm_Sq (q.1, 1, q.2.2))) (F'' := (mm_Sq (q.1, 1, q.2.2))) (pc' := 33) dX3_takeNumber_30 rfl mfX10_isOutside rfl lkX3_92 ⟨Nat.le_of_ble_eq_true rfl, Nat.le_of_ble_eq_true rfl⟩ (Nat.le_of_ble_eq_true rfl) (fun z => z) (rX10_isOutside (q := (q.1, 1, q.2.2)) x2 p0 p1 h ) (fun x3 e4 => Or.inl ⟨_, _, rfl, fun z => z, ?_⟩)
    show mm_E2 _ _ _ _ _ [.int (mx_bi x3)] h _ _
    refine me_ifB_eq (pc' := 36) (tgt := 44) dX3_takeNumber_33 (by decide) rfl (fun c5 => ?_) (fun c5 => ?_)
    · refine me_aload_n (pc' := 45) (i := 0) dX3_takeNumber_44 rfl rfl rfl ?_
      refine me_getR (pc' := 48) (q' := 6) dX3_takeNumber_45 rfl fkX3_12 (mm_ks kd_5) (mm_ltq kd_5) rfl (mrX3_0 kd_5) ?_
      refine me_callV (As := []) (st := []) (F' := (mm_Sq (q.1, 1, q.2.2))) (G' := (mm_Sq (q.1, 1, q.2.2))) (F'' := (mm_Sq (q.1, 1, q.2.2))) (pc' := 51) dX3_takeNumber_48 rfl mfX9_readToken rfl lkX3_86 (mm_ks kd_6) rfl (mm_ltq kd_6) ⟨Nat.le_of_ble_eq_true rfl, Nat.le_of_ble_eq_true rfl⟩ (Nat.le_of_ble_eq_true rfl) (fun z => z) (rX9_readToken (q := q) h ) (fun h6 e7 => Or.inl ⟨_, _, rfl, fun z => z, ?_⟩)
      show mm_E2 _ _ _ _ _ [] h6 _ _
      refine me_iload_n (pc' := 52) (i := 3) dX3_takeNumber_51 rfl rfl rfl ?_
      exact me_iret dX3_takeNumber_52 rfl (fun z => z) rfl
    · refine me_aload_n (pc' := 37) (i := 0) dX3_takeNumber_36 rfl rfl rfl ?_
      refine me_iconst (pc' := 38) (v := 2) dX3_takeNumber_37 rfl kc_i2 ?_
      refine me_callV (As := [.int 2]) (st := []) (F' := (mm_Sq (q.1, 1, q.2.2))) (G' := (mm_Sq (q.1, 1, q.2.2))) (F'' := (mm_Sq (q.1, 1, q.2.2))) (pc' := 41) dX3_takeNumber_38 rfl mfX3_fail rfl lkX3_53 (mm_ks kd_5) rfl (mm_ltq kd_5) ⟨Nat.le_of_ble_eq_true rfl, Nat.le_of_ble_eq_true rfl⟩ (Nat.le_of_ble_eq_true rfl) (fun z => z) (rX3_fail (q := q) 2 h ) (fun x8 e9 => Or.inl ⟨_, _, rfl, fun z => z, ?_⟩)
      show mm_E2 _ _ _ _ _ [.int (mx_bi x8.1)] x8.2 _ _
      refine me_pop (pc' := 42) dX3_takeNumber_41 rfl rfl ?_
      refine me_iconst (pc' := 43) (v := (-1)) dX3_takeNumber_42 rfl kc_im1 ?_
      exact me_iret dX3_takeNumber_43 rfl (fun z => z) rfl
  · refine me_aload_n (pc' := 12) (i := 0) dX3_takeNumber_11 rfl rfl rfl ?_
    refine me_iconst (pc' := 13) (v := 1) dX3_takeNumber_12 rfl kc_i1 ?_
    refine me_callV (As := [.int 1]) (st := []) (F' := (mm_Sq (q.1, 1, q.2.2))) (G' := (mm_Sq (q.1, 1, q.2.2))) (F'' := (mm_Sq (q.1, 1, q.2.2))) (pc' := 16) dX3_takeNumber_13 rfl mfX3_fail rfl lkX3_53 (mm_ks kd_5) rfl (mm_ltq kd_5) ⟨Nat.le_of_ble_eq_true rfl, Nat.le_of_ble_eq_true rfl⟩ (Nat.le_of_ble_eq_true rfl) (fun z => z) (rX3_fail (q := q) 1 h ) (fun x10 e11 => Or.inl ⟨_, _, rfl, fun z => z, ?_⟩)
    show mm_E2 _ _ _ _ _ [.int (mx_bi x10.1)] x10.2 _ _
    refine me_pop (pc' := 17) dX3_takeNumber_16 rfl rfl ?_
    refine me_iconst (pc' := 18) (v := (-1)) dX3_takeNumber_17 rfl kc_im1 ?_
    exact me_iret dX3_takeNumber_18 rfl (fun z => z) rfl
def gX3_takeSemicolon (h : mm_H) : Option (Bool × mm_H) :=
if (mh_I h 6 1) = 3 then
(gX9_readToken h).bind (fun (h2 : mm_H) =>
some (true, h2))
else
(gX3_fail 1 h).bind (fun (x4 : (Bool × mm_H)) =>
some (x4.1, x4.2))
theorem rX3_takeSemicolon {q : mm_q} (h : mm_H) : mm_R2 (mm_Sq (q.1, 1, q.2.2)) (mm_Sq (q.1, 1, q.2.2)) mX3_takeSemicolon [.ref 5] h (gX3_takeSemicolon h) lf_ze := by
  refine mm_body (L := [some (.ref 5)]) rfl (by decide +kernel) (Nat.le_of_ble_eq_true rfl) rfl ?_
  unfold gX3_takeSemicolon
  refine me_aload_n (pc' := 1) (i := 0) dX3_takeSemicolon_0 rfl rfl rfl ?_
  refine me_getR (pc' := 4) (q' := 6) dX3_takeSemicolon_1 rfl fkX3_12 (mm_ks kd_5) (mm_ltq kd_5) rfl (mrX3_0 kd_5) ?_
  refine me_getI (pc' := 7) dX3_takeSemicolon_4 rfl fkX3_63 (mm_ks kd_6) (mm_ltq kd_6) rfl ?_
  refine me_iconst (pc' := 8) (v := 3) dX3_takeSemicolon_7 rfl kc_i3 ?_
  refine me_icmp_eq (pc' := 11) (tgt := 17) dX3_takeSemicolon_8 (by decide) rfl (fun c1 => ?_) (fun c1 => ?_)
  · refine me_aload_n (pc' := 18) (i := 0) dX3_takeSemicolon_17 rfl rfl rfl ?_
    refine me_getR (pc' := 21) (q' := 6) dX3_takeSemicolon_18 rfl fkX3_12 (mm_ks kd_5) (mm_ltq kd_5) rfl (mrX3_0 kd_5) ?_
    refine me_callV (As := []) (st := []) (F' := (mm_Sq (q.1, 1, q.2.2))) (G' := (mm_Sq (q.1, 1, q.2.2))) (F'' := (mm_Sq (q.1, 1, q.2.2))) (pc' := 24) dX3_takeSemicolon_21 rfl mfX9_readToken rfl lkX3_86 (mm_ks kd_6) rfl (mm_ltq kd_6) ⟨Nat.le_of_ble_eq_true rfl, Nat.le_of_ble_eq_true rfl⟩ (Nat.le_of_ble_eq_true rfl) (fun z => z) (rX9_readToken (q := q) h ) (fun h2 e3 => Or.inl ⟨_, _, rfl, fun z => z, ?_⟩)
    show mm_E2 _ _ _ _ _ [] h2 _ _
    refine me_iconst (pc' := 25) (v := 1) dX3_takeSemicolon_24 rfl kc_i1 ?_
    exact me_zret (b := true) dX3_takeSemicolon_25 rfl (fun z => z) rfl
  · refine me_aload_n (pc' := 12) (i := 0) dX3_takeSemicolon_11 rfl rfl rfl ?_
    refine me_iconst (pc' := 13) (v := 1) dX3_takeSemicolon_12 rfl kc_i1 ?_
    refine me_callV (As := [.int 1]) (st := []) (F' := (mm_Sq (q.1, 1, q.2.2))) (G' := (mm_Sq (q.1, 1, q.2.2))) (F'' := (mm_Sq (q.1, 1, q.2.2))) (pc' := 16) dX3_takeSemicolon_13 rfl mfX3_fail rfl lkX3_53 (mm_ks kd_5) rfl (mm_ltq kd_5) ⟨Nat.le_of_ble_eq_true rfl, Nat.le_of_ble_eq_true rfl⟩ (Nat.le_of_ble_eq_true rfl) (fun z => z) (rX3_fail (q := q) 1 h ) (fun x4 e5 => Or.inl ⟨_, _, rfl, fun z => z, ?_⟩)
    show mm_E2 _ _ _ _ _ [.int (mx_bi x4.1)] x4.2 _ _
    exact me_zret (b := x4.1) dX3_takeSemicolon_16 rfl (fun z => z) rfl
def gX9_isWord_L23 (p0 : Nat) (h : mm_H) : Nat → Int32 → Option Bool
  | 0, _ => none
  | n + 1, w5 =>
    if w5 < (mm_sl p0) then
    (gX8_byteAt 1 (((mh_I h 6 2) + w5)) h).bind (fun (x7 : Int32) =>
    if mm_ibd w5 (mm_sn p0) = true then
    if x7 = (mm_sc p0 w5) then
    (some (w5 + 1)).bind (fun (x11 : Int32) =>
    gX9_isWord_L23 p0 h n x11)
    else
    some false else none)
    else
    some true
def gX9_isWord (p0 : Nat) (h : mm_H) : Option Bool :=
if (mh_I h 6 1) = 1 then
(gX9_size h).bind (fun (x2 : Int32) =>
if x2 = (mm_sl p0) then
gX9_isWord_L23 p0 h mm_F 0
else
some false)
else
some false
theorem rX9_isWord_L23 {q : mm_q} (p0 : Nat)   (h : mm_H) (hp0 : p0 < 17) : ∀ (n : Nat) (w5 : Int32), mm_E2 (mm_Sq (q.1, 1, q.2.2)) (mm_Sq (q.1, 1, q.2.2)) mX9_isWord 23 [some (.ref 6), some (.ref (401 + p0)), some (.int w5)] [] h (gX9_isWord_L23 p0 h n w5) (lf_z h) := by
  intro n
  induction n with
  | zero =>
    intro w5
    exact mm_none
  | succ n ih =>
    intro w5
    rw [gX9_isWord_L23]
    refine me_iload_n (pc' := 24) (i := 2) dX9_isWord_23 rfl rfl rfl ?_
    refine me_aload_n (pc' := 25) (i := 1) dX9_isWord_24 rfl rfl rfl ?_
    refine me_slen (pc' := 28) (i := p0) dX9_isWord_25 rfl ljX9_63 hp0 ⟨Nat.le_of_ble_eq_true rfl, Nat.le_of_ble_eq_true rfl⟩ (Nat.le_of_ble_eq_true rfl) ?_
    refine me_icmp_ge (pc' := 31) (tgt := 60) dX9_isWord_28 (by decide) rfl (fun c6 => ?_) (fun c6 => ?_)
    · refine me_iconst (pc' := 61) (v := 1) dX9_isWord_60 rfl kc_i1 ?_
      exact me_zret (b := true) dX9_isWord_61 rfl (fun z => z) rfl
    · refine me_aload_n (pc' := 32) (i := 0) dX9_isWord_31 rfl rfl rfl ?_
      refine me_getR (pc' := 35) (q' := 1) dX9_isWord_32 rfl fkX9_14 (mm_ks kd_6) (mm_ltq kd_6) rfl mrX9_0 ?_
      refine me_aload_n (pc' := 36) (i := 0) dX9_isWord_35 rfl rfl rfl ?_
      refine me_getI (pc' := 39) dX9_isWord_36 rfl fkX9_38 (mm_ks kd_6) (mm_ltq kd_6) rfl ?_
      refine me_iload_n (pc' := 40) (i := 2) dX9_isWord_39 rfl rfl rfl ?_
      refine me_iadd (pc' := 41) dX9_isWord_40 rfl ?_
      refine me_callV (As := [.int ((mh_I h 6 2) + w5)]) (st := []) (F' := (mm_Sq (q.1, 1, q.2.2))) (G' := (mm_Sq (q.1, 1, q.2.2))) (F'' := (mm_Sq (q.1, 1, q.2.2))) (pc' := 44) dX9_isWord_41 rfl mfX8_byteAt rfl lkX9_30 (mm_ks kd_1) rfl (mm_ltq kd_1) ⟨Nat.le_of_ble_eq_true rfl, Nat.le_of_ble_eq_true rfl⟩ (Nat.le_of_ble_eq_true rfl) (fun z => z) (rX8_byteAt (q := (q.1, 1, q.2.2)) 1 (((mh_I h 6 2) + w5)) h kd_1) (fun x7 e8 => Or.inl ⟨_, _, rfl, fun z => z, ?_⟩)
      show mm_E2 _ _ _ _ _ [.int x7] h _ _
      refine me_aload_n (pc' := 45) (i := 1) dX9_isWord_44 rfl rfl rfl ?_
      refine me_iload_n (pc' := 46) (i := 2) dX9_isWord_45 rfl rfl rfl ?_
      refine mm_guard (fun c9 => ?_)
      refine me_schar (pc' := 49) (i := p0) dX9_isWord_46 rfl ljX9_67 hp0 (mm_ibd_of c9) ⟨Nat.le_of_ble_eq_true rfl, Nat.le_of_ble_eq_true rfl⟩ (Nat.le_of_ble_eq_true rfl) ?_
      refine me_icmp_eq (pc' := 52) (tgt := 54) dX9_isWord_49 (by decide) rfl (fun c10 => ?_) (fun c10 => ?_)
      · refine me_iinc (pc' := 57) (i := 2) (x := w5) (y := w5 + 1) (L' := [some (.ref 6), some (.ref (401 + p0)), some (.int (w5 + 1))]) dX9_isWord_54 rfl (Nat.le_of_ble_eq_true rfl) (Nat.le_of_ble_eq_true rfl) rfl (kc_plus kc_i1) rfl ?_
        refine mm_bnd (w5 + 1) (fun x11 => [some (.ref 6), some (.ref (401 + p0)), some (.int x11)]) (fun _ => []) (fun _ => h) (fun x11 => ?_)
        refine me_goto (tgt := 23) dX9_isWord_57 (by decide) ?_
        exact ih x11
      · refine me_iconst (pc' := 53) (v := 0) dX9_isWord_52 rfl kc_i0 ?_
        exact me_zret (b := false) dX9_isWord_53 rfl (fun z => z) rfl
theorem rX9_isWord {q : mm_q} (p0 : Nat) (h : mm_H) (hp0 : p0 < 17) : mm_R2 (mm_Sq (q.1, 1, q.2.2)) (mm_Sq (q.1, 1, q.2.2)) mX9_isWord [.ref 6, .ref (401 + p0)] h (gX9_isWord p0 h) (lf_z h) := by
  refine mm_body (L := [some (.ref 6), some (.ref (401 + p0)), none]) rfl (by decide +kernel) (Nat.le_of_ble_eq_true rfl) rfl ?_
  unfold gX9_isWord
  refine me_aload_n (pc' := 1) (i := 0) dX9_isWord_0 rfl rfl rfl ?_
  refine me_getI (pc' := 4) dX9_isWord_1 rfl fkX9_41 (mm_ks kd_6) (mm_ltq kd_6) rfl ?_
  refine me_iconst (pc' := 5) (v := 1) dX9_isWord_4 rfl kc_i1 ?_
  refine me_icmp_ne (pc' := 8) (tgt := 19) dX9_isWord_5 (by decide) rfl (fun c1 => ?_) (fun c1 => ?_)
  · refine me_iconst (pc' := 20) (v := 0) dX9_isWord_19 rfl kc_i0 ?_
    exact me_zret (b := false) dX9_isWord_20 rfl (fun z => z) rfl
  · refine me_aload_n (pc' := 9) (i := 0) dX9_isWord_8 rfl rfl rfl ?_
    refine me_callV (As := []) (st := []) (F' := (mm_Sq (q.1, 1, q.2.2))) (G' := (mm_Sq (q.1, 1, q.2.2))) (F'' := (mm_Sq (q.1, 1, q.2.2))) (pc' := 12) dX9_isWord_9 rfl mfX9_size rfl lkX9_56 (mm_ks kd_6) rfl (mm_ltq kd_6) ⟨Nat.le_of_ble_eq_true rfl, Nat.le_of_ble_eq_true rfl⟩ (Nat.le_of_ble_eq_true rfl) (fun z => z) (rX9_size (q := q) h ) (fun x2 e3 => Or.inl ⟨_, _, rfl, fun z => z, ?_⟩)
    show mm_E2 _ _ _ _ _ [.int x2] h _ _
    refine me_aload_n (pc' := 13) (i := 1) dX9_isWord_12 rfl rfl rfl ?_
    refine me_slen (pc' := 16) (i := p0) dX9_isWord_13 rfl ljX9_63 hp0 ⟨Nat.le_of_ble_eq_true rfl, Nat.le_of_ble_eq_true rfl⟩ (Nat.le_of_ble_eq_true rfl) ?_
    refine me_icmp_eq (pc' := 19) (tgt := 21) dX9_isWord_16 (by decide) rfl (fun c4 => ?_) (fun c4 => ?_)
    · refine me_iconst (pc' := 22) (v := 0) dX9_isWord_21 rfl kc_i0 ?_
      refine me_istore_n (pc' := 23) (i := 2) (L' := [some (.ref 6), some (.ref (401 + p0)), some (.int 0)]) dX9_isWord_22 rfl rfl (Nat.le_of_ble_eq_true rfl) (Nat.le_of_ble_eq_true rfl) rfl ?_
      exact rX9_isWord_L23 (q := q) p0 h hp0 mm_F 0
    · refine me_iconst (pc' := 20) (v := 0) dX9_isWord_19 rfl kc_i0 ?_
      exact me_zret (b := false) dX9_isWord_20 rfl (fun z => z) rfl
def gX3_takeWord (p0 : Nat) (h : mm_H) : Option (Bool × mm_H) :=
(gX9_isWord p0 h).bind (fun (x1 : Bool) =>
if x1 = true then
(gX9_readToken h).bind (fun (h4 : mm_H) =>
some (true, h4))
else
(gX3_fail 1 h).bind (fun (x6 : (Bool × mm_H)) =>
some (x6.1, x6.2)))
theorem rX3_takeWord {q : mm_q} (p0 : Nat) (h : mm_H) (hp0 : p0 < 17) : mm_R2 (mm_Sq (q.1, 1, q.2.2)) (mm_Sq (q.1, 1, q.2.2)) mX3_takeWord [.ref 5, .ref (401 + p0)] h (gX3_takeWord p0 h) lf_ze := by
  refine mm_body (L := [some (.ref 5), some (.ref (401 + p0))]) rfl (by decide +kernel) (Nat.le_of_ble_eq_true rfl) rfl ?_
  unfold gX3_takeWord
  refine me_aload_n (pc' := 1) (i := 0) dX3_takeWord_0 rfl rfl rfl ?_
  refine me_getR (pc' := 4) (q' := 6) dX3_takeWord_1 rfl fkX3_12 (mm_ks kd_5) (mm_ltq kd_5) rfl (mrX3_0 kd_5) ?_
  refine me_aload_n (pc' := 5) (i := 1) dX3_takeWord_4 rfl rfl rfl ?_
  refine me_callV (As := [.ref (401 + p0)]) (st := []) (F' := (mm_Sq (q.1, 1, q.2.2))) (G' := (mm_Sq (q.1, 1, q.2.2))) (F'' := (mm_Sq (q.1, 1, q.2.2))) (pc' := 8) dX3_takeWord_5 rfl mfX9_isWord rfl lkX3_50 (mm_ks kd_6) rfl (mm_ltq kd_6) ⟨Nat.le_of_ble_eq_true rfl, Nat.le_of_ble_eq_true rfl⟩ (Nat.le_of_ble_eq_true rfl) (fun z => z) (rX9_isWord (q := q) p0 h hp0) (fun x1 e2 => Or.inl ⟨_, _, rfl, fun z => z, ?_⟩)
  show mm_E2 _ _ _ _ _ [.int (mx_bi x1)] h _ _
  refine me_ifB_ne (pc' := 11) (tgt := 17) dX3_takeWord_8 (by decide) rfl (fun c3 => ?_) (fun c3 => ?_)
  · refine me_aload_n (pc' := 18) (i := 0) dX3_takeWord_17 rfl rfl rfl ?_
    refine me_getR (pc' := 21) (q' := 6) dX3_takeWord_18 rfl fkX3_12 (mm_ks kd_5) (mm_ltq kd_5) rfl (mrX3_0 kd_5) ?_
    refine me_callV (As := []) (st := []) (F' := (mm_Sq (q.1, 1, q.2.2))) (G' := (mm_Sq (q.1, 1, q.2.2))) (F'' := (mm_Sq (q.1, 1, q.2.2))) (pc' := 24) dX3_takeWord_21 rfl mfX9_readToken rfl lkX3_86 (mm_ks kd_6) rfl (mm_ltq kd_6) ⟨Nat.le_of_ble_eq_true rfl, Nat.le_of_ble_eq_true rfl⟩ (Nat.le_of_ble_eq_true rfl) (fun z => z) (rX9_readToken (q := q) h ) (fun h4 e5 => Or.inl ⟨_, _, rfl, fun z => z, ?_⟩)
    show mm_E2 _ _ _ _ _ [] h4 _ _
    refine me_iconst (pc' := 25) (v := 1) dX3_takeWord_24 rfl kc_i1 ?_
    exact me_zret (b := true) dX3_takeWord_25 rfl (fun z => z) rfl
  · refine me_aload_n (pc' := 12) (i := 0) dX3_takeWord_11 rfl rfl rfl ?_
    refine me_iconst (pc' := 13) (v := 1) dX3_takeWord_12 rfl kc_i1 ?_
    refine me_callV (As := [.int 1]) (st := []) (F' := (mm_Sq (q.1, 1, q.2.2))) (G' := (mm_Sq (q.1, 1, q.2.2))) (F'' := (mm_Sq (q.1, 1, q.2.2))) (pc' := 16) dX3_takeWord_13 rfl mfX3_fail rfl lkX3_53 (mm_ks kd_5) rfl (mm_ltq kd_5) ⟨Nat.le_of_ble_eq_true rfl, Nat.le_of_ble_eq_true rfl⟩ (Nat.le_of_ble_eq_true rfl) (fun z => z) (rX3_fail (q := q) 1 h ) (fun x6 e7 => Or.inl ⟨_, _, rfl, fun z => z, ?_⟩)
    show mm_E2 _ _ _ _ _ [.int (mx_bi x6.1)] x6.2 _ _
    exact me_zret (b := x6.1) dX3_takeWord_16 rfl (fun z => z) rfl
def gX3_takeBatch (p0 : Nat) (p1 : Nat) (h : mm_H) : Option (Bool × mm_H) :=
(gX3_takeWord 5 h).bind (fun (x1 : (Bool × mm_H)) =>
if x1.1 = true then
(gX3_takeKnownName p0 x1.2).bind (fun (x4 : (Int32 × mm_H)) =>
if x4.1 = (-1) then
some (false, x4.2)
else
(gX3_takeNumber 1 999 x4.2).bind (fun (x7 : (Int32 × mm_H)) =>
if x7.1 = (-1) then
some (false, x7.2)
else
(gX3_takeNumber 0 9999 x7.2).bind (fun (x10 : (Int32 × mm_H)) =>
if x10.1 = (-1) then
some (false, x10.2)
else
(gX3_takeNumber 1 999 x10.2).bind (fun (x13 : (Int32 × mm_H)) =>
if x13.1 = (-1) then
some (false, x13.2)
else
(gX7_addBatch p1 x4.1 x7.1 x10.1 x13.1 x13.2).bind (fun (x16 : (Int32 × mm_H)) =>
(gX3_takeSemicolon x16.2).bind (fun (x18 : (Bool × mm_H)) =>
some (x18.1, x18.2)))))))
else
some (false, x1.2))
theorem rX3_takeBatch {q : mm_q} (p0 : Nat) (p1 : Nat) (h : mm_H) (hp0 : mm_kd p0 = (0, 1)) (hp1 : mm_kd p1 = (0, 7)) : mm_R2 (mm_Sq (q.1, 1, q.2.2)) (mm_Sq (q.1, 1, q.2.2)) mX3_takeBatch [.ref 5, .ref p0, .ref p1] h (gX3_takeBatch p0 p1 h) lf_ze := by
  refine mm_body (L := [some (.ref 5), some (.ref p0), some (.ref p1), none, none, none, none]) rfl (by decide +kernel) (Nat.le_of_ble_eq_true rfl) rfl ?_
  unfold gX3_takeBatch
  refine me_aload_n (pc' := 1) (i := 0) dX3_takeBatch_0 rfl rfl rfl ?_
  refine me_ldc (pc' := 3) (q := 406) dX3_takeBatch_1 rfl (sr_5) rfl ?_
  refine me_callV (As := [.ref 406]) (st := []) (F' := (mm_Sq (q.1, 1, q.2.2))) (G' := (mm_Sq (q.1, 1, q.2.2))) (F'' := (mm_Sq (q.1, 1, q.2.2))) (pc' := 6) dX3_takeBatch_3 rfl mfX3_takeWord rfl lkX3_36 (mm_ks kd_5) rfl (mm_ltq kd_5) ⟨Nat.le_of_ble_eq_true rfl, Nat.le_of_ble_eq_true rfl⟩ (Nat.le_of_ble_eq_true rfl) (fun z => z) (rX3_takeWord (q := q) 5 h (by decide)) (fun x1 e2 => Or.inl ⟨_, _, rfl, fun z => z, ?_⟩)
  show mm_E2 _ _ _ _ _ [.int (mx_bi x1.1)] x1.2 _ _
  refine me_ifB_ne (pc' := 9) (tgt := 11) dX3_takeBatch_6 (by decide) rfl (fun c3 => ?_) (fun c3 => ?_)
  · refine me_aload_n (pc' := 12) (i := 0) dX3_takeBatch_11 rfl rfl rfl ?_
    refine me_aload_n (pc' := 13) (i := 1) dX3_takeBatch_12 rfl rfl rfl ?_
    refine me_callV (As := [.ref p0]) (st := []) (F' := (mm_Sq (q.1, 1, q.2.2))) (G' := (mm_Sq (q.1, 1, q.2.2))) (F'' := (mm_Sq (q.1, 1, q.2.2))) (pc' := 16) dX3_takeBatch_13 rfl mfX3_takeKnownName rfl lkX3_133 (mm_ks kd_5) rfl (mm_ltq kd_5) ⟨Nat.le_of_ble_eq_true rfl, Nat.le_of_ble_eq_true rfl⟩ (Nat.le_of_ble_eq_true rfl) (fun z => z) (rX3_takeKnownName (q := q) p0 x1.2 hp0) (fun x4 e5 => Or.inl ⟨_, _, rfl, fun z => z, ?_⟩)
    show mm_E2 _ _ _ _ _ [.int x4.1] x4.2 _ _
    refine me_istore_n (pc' := 17) (i := 3) (L' := [some (.ref 5), some (.ref p0), some (.ref p1), some (.int x4.1), none, none, none]) dX3_takeBatch_16 rfl rfl (Nat.le_of_ble_eq_true rfl) (Nat.le_of_ble_eq_true rfl) rfl ?_
    refine me_iload_n (pc' := 18) (i := 3) dX3_takeBatch_17 rfl rfl rfl ?_
    refine me_iconst (pc' := 19) (v := (-1)) dX3_takeBatch_18 rfl kc_im1 ?_
    refine me_icmp_ne (pc' := 22) (tgt := 24) dX3_takeBatch_19 (by decide) rfl (fun c6 => ?_) (fun c6 => ?_)
    · refine me_aload_n (pc' := 25) (i := 0) dX3_takeBatch_24 rfl rfl rfl ?_
      refine me_iconst (pc' := 26) (v := 1) dX3_takeBatch_25 rfl kc_i1 ?_
      refine me_sipush (pc' := 29) (v := 999) dX3_takeBatch_26 rfl kc_s999 ?_
      refine me_callV (As := [.int 1, .int 999]) (st := []) (F' := (mm_Sq (q.1, 1, q.2.2))) (G' := (mm_Sq (q.1, 1, q.2.2))) (F'' := (mm_Sq (q.1, 1, q.2.2))) (pc' := 32) dX3_takeBatch_29 rfl mfX3_takeNumber rfl lkX3_126 (mm_ks kd_5) rfl (mm_ltq kd_5) ⟨Nat.le_of_ble_eq_true rfl, Nat.le_of_ble_eq_true rfl⟩ (Nat.le_of_ble_eq_true rfl) (fun z => z) (rX3_takeNumber (q := q) 1 999 x4.2 ) (fun x7 e8 => Or.inl ⟨_, _, rfl, fun z => z, ?_⟩)
      show mm_E2 _ _ _ _ _ [.int x7.1] x7.2 _ _
      refine me_istore (pc' := 34) (i := 4) (L' := [some (.ref 5), some (.ref p0), some (.ref p1), some (.int x4.1), some (.int x7.1), none, none]) dX3_takeBatch_32 rfl (Nat.le_of_ble_eq_true rfl) (Nat.le_of_ble_eq_true rfl) rfl ?_
      refine me_iload (pc' := 36) (i := 4) dX3_takeBatch_34 rfl rfl ?_
      refine me_iconst (pc' := 37) (v := (-1)) dX3_takeBatch_36 rfl kc_im1 ?_
      refine me_icmp_ne (pc' := 40) (tgt := 42) dX3_takeBatch_37 (by decide) rfl (fun c9 => ?_) (fun c9 => ?_)
      · refine me_aload_n (pc' := 43) (i := 0) dX3_takeBatch_42 rfl rfl rfl ?_
        refine me_iconst (pc' := 44) (v := 0) dX3_takeBatch_43 rfl kc_i0 ?_
        refine me_sipush (pc' := 47) (v := 9999) dX3_takeBatch_44 rfl kc_s9999 ?_
        refine me_callV (As := [.int 0, .int 9999]) (st := []) (F' := (mm_Sq (q.1, 1, q.2.2))) (G' := (mm_Sq (q.1, 1, q.2.2))) (F'' := (mm_Sq (q.1, 1, q.2.2))) (pc' := 50) dX3_takeBatch_47 rfl mfX3_takeNumber rfl lkX3_126 (mm_ks kd_5) rfl (mm_ltq kd_5) ⟨Nat.le_of_ble_eq_true rfl, Nat.le_of_ble_eq_true rfl⟩ (Nat.le_of_ble_eq_true rfl) (fun z => z) (rX3_takeNumber (q := q) 0 9999 x7.2 ) (fun x10 e11 => Or.inl ⟨_, _, rfl, fun z => z, ?_⟩)
        show mm_E2 _ _ _ _ _ [.int x10.1] x10.2 _ _
        refine me_istore (pc' := 52) (i := 5) (L' := [some (.ref 5), some (.ref p0), some (.ref p1), some (.int x4.1), some (.int x7.1), some (.int x10.1), none]) dX3_takeBatch_50 rfl (Nat.le_of_ble_eq_true rfl) (Nat.le_of_ble_eq_true rfl) rfl ?_
        refine me_iload (pc' := 54) (i := 5) dX3_takeBatch_52 rfl rfl ?_
        refine me_iconst (pc' := 55) (v := (-1)) dX3_takeBatch_54 rfl kc_im1 ?_
        refine me_icmp_ne (pc' := 58) (tgt := 60) dX3_takeBatch_55 (by decide) rfl (fun c12 => ?_) (fun c12 => ?_)
        · refine me_aload_n (pc' := 61) (i := 0) dX3_takeBatch_60 rfl rfl rfl ?_
          refine me_iconst (pc' := 62) (v := 1) dX3_takeBatch_61 rfl kc_i1 ?_
          refine me_sipush (pc' := 65) (v := 999) dX3_takeBatch_62 rfl kc_s999 ?_
          refine me_callV (As := [.int 1, .int 999]) (st := []) (F' := (mm_Sq (q.1, 1, q.2.2))) (G' := (mm_Sq (q.1, 1, q.2.2))) (F'' := (mm_Sq (q.1, 1, q.2.2))) (pc' := 68) dX3_takeBatch_65 rfl mfX3_takeNumber rfl lkX3_126 (mm_ks kd_5) rfl (mm_ltq kd_5) ⟨Nat.le_of_ble_eq_true rfl, Nat.le_of_ble_eq_true rfl⟩ (Nat.le_of_ble_eq_true rfl) (fun z => z) (rX3_takeNumber (q := q) 1 999 x10.2 ) (fun x13 e14 => Or.inl ⟨_, _, rfl, fun z => z, ?_⟩)
          show mm_E2 _ _ _ _ _ [.int x13.1] x13.2 _ _
          refine me_istore (pc' := 70) (i := 6) (L' := [some (.ref 5), some (.ref p0), some (.ref p1), some (.int x4.1), some (.int x7.1), some (.int x10.1), some (.int x13.1)]) dX3_takeBatch_68 rfl (Nat.le_of_ble_eq_true rfl) (Nat.le_of_ble_eq_true rfl) rfl ?_
          refine me_iload (pc' := 72) (i := 6) dX3_takeBatch_70 rfl rfl ?_
          refine me_iconst (pc' := 73) (v := (-1)) dX3_takeBatch_72 rfl kc_im1 ?_
          refine me_icmp_ne (pc' := 76) (tgt := 78) dX3_takeBatch_73 (by decide) rfl (fun c15 => ?_) (fun c15 => ?_)
          · refine me_aload_n (pc' := 79) (i := 2) dX3_takeBatch_78 rfl rfl rfl ?_
            refine me_iload_n (pc' := 80) (i := 3) dX3_takeBatch_79 rfl rfl rfl ?_
            refine me_iload (pc' := 82) (i := 4) dX3_takeBatch_80 rfl rfl ?_
            refine me_iload (pc' := 84) (i := 5) dX3_takeBatch_82 rfl rfl ?_
            refine me_iload (pc' := 86) (i := 6) dX3_takeBatch_84 rfl rfl ?_
            refine me_callV (As := [.int x4.1, .int x7.1, .int x10.1, .int x13.1]) (st := []) (F' := (mm_Sq (q.1, 1, q.2.2))) (G' := (mm_Sq (q.1, 1, q.2.2))) (F'' := (mm_Sq (q.1, 1, q.2.2))) (pc' := 89) dX3_takeBatch_86 rfl mfX7_addBatch rfl lkX3_137 (mm_ks hp1) rfl (mm_ltq hp1) ⟨Nat.le_of_ble_eq_true rfl, Nat.le_of_ble_eq_true rfl⟩ (Nat.le_of_ble_eq_true rfl) (fun z => z) (rX7_addBatch (q := (q.1, 1, q.2.2)) p1 x4.1 x7.1 x10.1 x13.1 x13.2 hp1) (fun x16 e17 => Or.inl ⟨_, _, rfl, fun z => z, ?_⟩)
            show mm_E2 _ _ _ _ _ [.int x16.1] x16.2 _ _
            refine me_pop (pc' := 90) dX3_takeBatch_89 rfl rfl ?_
            refine me_aload_n (pc' := 91) (i := 0) dX3_takeBatch_90 rfl rfl rfl ?_
            refine me_callV (As := []) (st := []) (F' := (mm_Sq (q.1, 1, q.2.2))) (G' := (mm_Sq (q.1, 1, q.2.2))) (F'' := (mm_Sq (q.1, 1, q.2.2))) (pc' := 94) dX3_takeBatch_91 rfl mfX3_takeSemicolon rfl lkX3_40 (mm_ks kd_5) rfl (mm_ltq kd_5) ⟨Nat.le_of_ble_eq_true rfl, Nat.le_of_ble_eq_true rfl⟩ (Nat.le_of_ble_eq_true rfl) (fun z => z) (rX3_takeSemicolon (q := q) x16.2 ) (fun x18 e19 => Or.inl ⟨_, _, rfl, fun z => z, ?_⟩)
            show mm_E2 _ _ _ _ _ [.int (mx_bi x18.1)] x18.2 _ _
            exact me_zret (b := x18.1) dX3_takeBatch_94 rfl (fun z => z) rfl
          · refine me_iconst (pc' := 77) (v := 0) dX3_takeBatch_76 rfl kc_i0 ?_
            exact me_zret (b := false) dX3_takeBatch_77 rfl (fun z => z) rfl
        · refine me_iconst (pc' := 59) (v := 0) dX3_takeBatch_58 rfl kc_i0 ?_
          exact me_zret (b := false) dX3_takeBatch_59 rfl (fun z => z) rfl
      · refine me_iconst (pc' := 41) (v := 0) dX3_takeBatch_40 rfl kc_i0 ?_
        exact me_zret (b := false) dX3_takeBatch_41 rfl (fun z => z) rfl
    · refine me_iconst (pc' := 23) (v := 0) dX3_takeBatch_22 rfl kc_i0 ?_
      exact me_zret (b := false) dX3_takeBatch_23 rfl (fun z => z) rfl
  · refine me_iconst (pc' := 10) (v := 0) dX3_takeBatch_9 rfl kc_i0 ?_
    exact me_zret (b := false) dX3_takeBatch_10 rfl (fun z => z) rfl
def gX3_takeNewName_L86 (p0 : Nat) : Nat → Int32 → mm_H → Option (Bool × mm_H)
  | 0, _, _ => none
  | n + 1, w18, h19 =>
    if w18 < (mh_I h19 6 3) then
    (gX8_byteAt 1 w18 h19).bind (fun (x23 : Int32) =>
    (gX1_addLetter p0 x23 h19).bind (fun (h25 : mm_H) =>
    (some (w18 + 1)).bind (fun (x27 : Int32) =>
    gX3_takeNewName_L86 p0 n x27 h25)))
    else
    (gX9_readToken h19).bind (fun (h21 : mm_H) =>
    some (true, h21))
def gX3_takeNewName (p0 : Nat) (h : mm_H) : Option (Bool × mm_H) :=
if (mh_I h 6 1) = 1 then
(gX9_size h).bind (fun (x2 : Int32) =>
(gX1_numberOf p0 1 ((mh_I h 6 2)) x2 h).bind (fun (x4 : Int32) =>
mm_jn (fun (y6 : Int32) =>
mm_jn (fun (_ : Unit) =>
(gX3_fail 3 h).bind (fun (x9 : (Bool × mm_H)) =>
some (x9.1, x9.2))) (fun (j8 : Unit → Option (Bool × mm_H)) =>
if y6 = 0 then
(gX9_size h).bind (fun (x12 : Int32) =>
if 6 < x12 then
j8 ()
else
(gX1_addNameless p0 h).bind (fun (h15 : mm_H) =>
(some ((mh_I h15 6 2))).bind (fun (x17 : Int32) =>
gX3_takeNewName_L86 p0 mm_F x17 h15)))
else
j8 ())) (fun (j7 : Int32 → Option (Bool × mm_H)) =>
if x4 = (-1) then
j7 0
else
j7 1)))
else
(gX3_fail 1 h).bind (fun (x29 : (Bool × mm_H)) =>
some (x29.1, x29.2))
theorem rX3_takeNewName_L86 {q : mm_q} (p0 : Nat)    (hp0 : mm_kd p0 = (0, 1)) : ∀ (n : Nat) (w18 : Int32) (h19 : mm_H), mm_E2 (mm_Sq (q.1, 1, q.2.2)) (mm_Sq (q.1, 1, q.2.2)) mX3_takeNewName 86 [some (.ref 5), some (.ref p0), none, some (.int w18)] [] h19 (gX3_takeNewName_L86 p0  n w18 h19) lf_ze := by
  intro n
  induction n with
  | zero =>
    intro w18 h19
    exact mm_none
  | succ n ih =>
    intro w18 h19
    rw [gX3_takeNewName_L86]
    refine me_iload_n (pc' := 87) (i := 3) dX3_takeNewName_86 rfl rfl rfl ?_
    refine me_aload_n (pc' := 88) (i := 0) dX3_takeNewName_87 rfl rfl rfl ?_
    refine me_getR (pc' := 91) (q' := 6) dX3_takeNewName_88 rfl fkX3_12 (mm_ks kd_5) (mm_ltq kd_5) rfl (mrX3_0 kd_5) ?_
    refine me_getI (pc' := 94) dX3_takeNewName_91 rfl fkX3_110 (mm_ks kd_6) (mm_ltq kd_6) rfl ?_
    refine me_icmp_ge (pc' := 97) (tgt := 118) dX3_takeNewName_94 (by decide) rfl (fun c20 => ?_) (fun c20 => ?_)
    · refine me_aload_n (pc' := 119) (i := 0) dX3_takeNewName_118 rfl rfl rfl ?_
      refine me_getR (pc' := 122) (q' := 6) dX3_takeNewName_119 rfl fkX3_12 (mm_ks kd_5) (mm_ltq kd_5) rfl (mrX3_0 kd_5) ?_
      refine me_callV (As := []) (st := []) (F' := (mm_Sq (q.1, 1, q.2.2))) (G' := (mm_Sq (q.1, 1, q.2.2))) (F'' := (mm_Sq (q.1, 1, q.2.2))) (pc' := 125) dX3_takeNewName_122 rfl mfX9_readToken rfl lkX3_86 (mm_ks kd_6) rfl (mm_ltq kd_6) ⟨Nat.le_of_ble_eq_true rfl, Nat.le_of_ble_eq_true rfl⟩ (Nat.le_of_ble_eq_true rfl) (fun z => z) (rX9_readToken (q := q) h19 ) (fun h21 e22 => Or.inl ⟨_, _, rfl, fun z => z, ?_⟩)
      show mm_E2 _ _ _ _ _ [] h21 _ _
      refine me_iconst (pc' := 126) (v := 1) dX3_takeNewName_125 rfl kc_i1 ?_
      exact me_zret (b := true) dX3_takeNewName_126 rfl (fun z => z) rfl
    · refine me_aload_n (pc' := 98) (i := 1) dX3_takeNewName_97 rfl rfl rfl ?_
      refine me_aload_n (pc' := 99) (i := 0) dX3_takeNewName_98 rfl rfl rfl ?_
      refine me_getR (pc' := 102) (q' := 6) dX3_takeNewName_99 rfl fkX3_12 (mm_ks kd_5) (mm_ltq kd_5) rfl (mrX3_0 kd_5) ?_
      refine me_getR (pc' := 105) (q' := 1) dX3_takeNewName_102 rfl fkX3_96 (mm_ks kd_6) (mm_ltq kd_6) rfl mrX9_0 ?_
      refine me_iload_n (pc' := 106) (i := 3) dX3_takeNewName_105 rfl rfl rfl ?_
      refine me_callV (As := [.int w18]) (st := [.ref p0]) (F' := (mm_Sq (q.1, 1, q.2.2))) (G' := (mm_Sq (q.1, 1, q.2.2))) (F'' := (mm_Sq (q.1, 1, q.2.2))) (pc' := 109) dX3_takeNewName_106 rfl mfX8_byteAt rfl lkX3_113 (mm_ks kd_1) rfl (mm_ltq kd_1) ⟨Nat.le_of_ble_eq_true rfl, Nat.le_of_ble_eq_true rfl⟩ (Nat.le_of_ble_eq_true rfl) (fun z => z) (rX8_byteAt (q := (q.1, 1, q.2.2)) 1 w18 h19 kd_1) (fun x23 e24 => Or.inl ⟨_, _, rfl, fun z => z, ?_⟩)
      show mm_E2 _ _ _ _ _ [.int x23, .ref p0] h19 _ _
      refine me_callV (As := [.int x23]) (st := []) (F' := (mm_Sq (q.1, 1, q.2.2))) (G' := (mm_Sq (q.1, 1, q.2.2))) (F'' := (mm_Sq (q.1, 1, q.2.2))) (pc' := 112) dX3_takeNewName_109 rfl mfX1_addLetter rfl lkX3_119 (mm_ks hp0) rfl (mm_ltq hp0) ⟨Nat.le_of_ble_eq_true rfl, Nat.le_of_ble_eq_true rfl⟩ (Nat.le_of_ble_eq_true rfl) (fun z => z) (rX1_addLetter (q := (q.1, 1, q.2.2)) p0 x23 h19 hp0) (fun h25 e26 => Or.inl ⟨_, _, rfl, fun z => z, ?_⟩)
      show mm_E2 _ _ _ _ _ [] h25 _ _
      refine me_iinc (pc' := 115) (i := 3) (x := w18) (y := w18 + 1) (L' := [some (.ref 5), some (.ref p0), none, some (.int (w18 + 1))]) dX3_takeNewName_112 rfl (Nat.le_of_ble_eq_true rfl) (Nat.le_of_ble_eq_true rfl) rfl (kc_plus kc_i1) rfl ?_
      refine mm_bnd (w18 + 1) (fun x27 => [some (.ref 5), some (.ref p0), none, some (.int x27)]) (fun _ => []) (fun _ => h25) (fun x27 => ?_)
      refine me_goto (tgt := 86) dX3_takeNewName_115 (by decide) ?_
      exact ih x27 h25
theorem rX3_takeNewName {q : mm_q} (p0 : Nat) (h : mm_H) (hp0 : mm_kd p0 = (0, 1)) : mm_R2 (mm_Sq (q.1, 1, q.2.2)) (mm_Sq (q.1, 1, q.2.2)) mX3_takeNewName [.ref 5, .ref p0] h (gX3_takeNewName p0 h) lf_ze := by
  refine mm_body (L := [some (.ref 5), some (.ref p0), none, none]) rfl (by decide +kernel) (Nat.le_of_ble_eq_true rfl) rfl ?_
  unfold gX3_takeNewName
  refine me_aload_n (pc' := 1) (i := 0) dX3_takeNewName_0 rfl rfl rfl ?_
  refine me_getR (pc' := 4) (q' := 6) dX3_takeNewName_1 rfl fkX3_12 (mm_ks kd_5) (mm_ltq kd_5) rfl (mrX3_0 kd_5) ?_
  refine me_getI (pc' := 7) dX3_takeNewName_4 rfl fkX3_63 (mm_ks kd_6) (mm_ltq kd_6) rfl ?_
  refine me_iconst (pc' := 8) (v := 1) dX3_takeNewName_7 rfl kc_i1 ?_
  refine me_icmp_eq (pc' := 11) (tgt := 17) dX3_takeNewName_8 (by decide) rfl (fun c1 => ?_) (fun c1 => ?_)
  · refine me_aload_n (pc' := 18) (i := 1) dX3_takeNewName_17 rfl rfl rfl ?_
    refine me_aload_n (pc' := 19) (i := 0) dX3_takeNewName_18 rfl rfl rfl ?_
    refine me_getR (pc' := 22) (q' := 6) dX3_takeNewName_19 rfl fkX3_12 (mm_ks kd_5) (mm_ltq kd_5) rfl (mrX3_0 kd_5) ?_
    refine me_getR (pc' := 25) (q' := 1) dX3_takeNewName_22 rfl fkX3_96 (mm_ks kd_6) (mm_ltq kd_6) rfl mrX9_0 ?_
    refine me_aload_n (pc' := 26) (i := 0) dX3_takeNewName_25 rfl rfl rfl ?_
    refine me_getR (pc' := 29) (q' := 6) dX3_takeNewName_26 rfl fkX3_12 (mm_ks kd_5) (mm_ltq kd_5) rfl (mrX3_0 kd_5) ?_
    refine me_getI (pc' := 32) dX3_takeNewName_29 rfl fkX3_83 (mm_ks kd_6) (mm_ltq kd_6) rfl ?_
    refine me_aload_n (pc' := 33) (i := 0) dX3_takeNewName_32 rfl rfl rfl ?_
    refine me_getR (pc' := 36) (q' := 6) dX3_takeNewName_33 rfl fkX3_12 (mm_ks kd_5) (mm_ltq kd_5) rfl (mrX3_0 kd_5) ?_
    refine me_callV (As := []) (st := [.int (mh_I h 6 2), .ref 1, .ref p0]) (F' := (mm_Sq (q.1, 1, q.2.2))) (G' := (mm_Sq (q.1, 1, q.2.2))) (F'' := (mm_Sq (q.1, 1, q.2.2))) (pc' := 39) dX3_takeNewName_36 rfl mfX9_size rfl lkX3_100 (mm_ks kd_6) rfl (mm_ltq kd_6) ⟨Nat.le_of_ble_eq_true rfl, Nat.le_of_ble_eq_true rfl⟩ (Nat.le_of_ble_eq_true rfl) (fun z => z) (rX9_size (q := q) h ) (fun x2 e3 => Or.inl ⟨_, _, rfl, fun z => z, ?_⟩)
    show mm_E2 _ _ _ _ _ [.int x2, .int (mh_I h 6 2), .ref 1, .ref p0] h _ _
    refine me_callV (As := [.ref 1, .int (mh_I h 6 2), .int x2]) (st := []) (F' := (mm_Sq (q.1, 1, q.2.2))) (G' := (mm_Sq (q.1, 1, q.2.2))) (F'' := (mm_Sq (q.1, 1, q.2.2))) (pc' := 42) dX3_takeNewName_39 rfl mfX1_numberOf rfl lkX3_103 (mm_ks hp0) rfl (mm_ltq hp0) ⟨Nat.le_of_ble_eq_true rfl, Nat.le_of_ble_eq_true rfl⟩ (Nat.le_of_ble_eq_true rfl) (fun z => z) (rX1_numberOf (q := (q.1, 1, q.2.2)) p0 1 ((mh_I h 6 2)) x2 h hp0 kd_1) (fun x4 e5 => Or.inl ⟨_, _, rfl, fun z => z, ?_⟩)
    show mm_E2 _ _ _ _ _ [.int x4] h _ _
    refine me_iconst (pc' := 43) (v := (-1)) dX3_takeNewName_42 rfl kc_im1 ?_
    refine mm_jnI (fun (j79 : Int32 → Option (Bool × mm_H)) => ∀ (y6 : Int32), mm_E2 (mm_Sq (q.1, 1, q.2.2)) (mm_Sq (q.1, 1, q.2.2)) mX3_takeNewName 51 [some (.ref 5), some (.ref p0), none, none] [.int y6] h (j79 y6) lf_ze) ?_ (fun j7 j7p => ?_)
    · intro y6
      refine me_istore_n (pc' := 52) (i := 2) (L' := [some (.ref 5), some (.ref p0), some (.int y6), none]) dX3_takeNewName_51 rfl rfl (Nat.le_of_ble_eq_true rfl) (Nat.le_of_ble_eq_true rfl) rfl ?_
      refine me_iload_n (pc' := 53) (i := 2) dX3_takeNewName_52 rfl rfl rfl ?_
      refine mm_jnI (fun (j89 : Unit → Option (Bool × mm_H)) => ∀ (_ : Unit), mm_E2 (mm_Sq (q.1, 1, q.2.2)) (mm_Sq (q.1, 1, q.2.2)) mX3_takeNewName 68 [some (.ref 5), none, none, none] [] h (j89 ()) lf_ze) ?_ (fun j8 j8p => ?_)
      · intro _
        refine me_aload_n (pc' := 69) (i := 0) dX3_takeNewName_68 rfl rfl rfl ?_
        refine me_iconst (pc' := 70) (v := 3) dX3_takeNewName_69 rfl kc_i3 ?_
        refine me_callV (As := [.int 3]) (st := []) (F' := (mm_Sq (q.1, 1, q.2.2))) (G' := (mm_Sq (q.1, 1, q.2.2))) (F'' := (mm_Sq (q.1, 1, q.2.2))) (pc' := 73) dX3_takeNewName_70 rfl mfX3_fail rfl lkX3_53 (mm_ks kd_5) rfl (mm_ltq kd_5) ⟨Nat.le_of_ble_eq_true rfl, Nat.le_of_ble_eq_true rfl⟩ (Nat.le_of_ble_eq_true rfl) (fun z => z) (rX3_fail (q := q) 3 h ) (fun x9 e10 => Or.inl ⟨_, _, rfl, fun z => z, ?_⟩)
        show mm_E2 _ _ _ _ _ [.int (mx_bi x9.1)] x9.2 _ _
        exact me_zret (b := x9.1) dX3_takeNewName_73 rfl (fun z => z) rfl
      refine me_if_ne (pc' := 56) (tgt := 68) dX3_takeNewName_53 (by decide) rfl (fun c11 => ?_) (fun c11 => ?_)
      · exact mm_maskB [true, false, false, false] (j8p ())
      · refine me_aload_n (pc' := 57) (i := 0) dX3_takeNewName_56 rfl rfl rfl ?_
        refine me_getR (pc' := 60) (q' := 6) dX3_takeNewName_57 rfl fkX3_12 (mm_ks kd_5) (mm_ltq kd_5) rfl (mrX3_0 kd_5) ?_
        refine me_callV (As := []) (st := []) (F' := (mm_Sq (q.1, 1, q.2.2))) (G' := (mm_Sq (q.1, 1, q.2.2))) (F'' := (mm_Sq (q.1, 1, q.2.2))) (pc' := 63) dX3_takeNewName_60 rfl mfX9_size rfl lkX3_100 (mm_ks kd_6) rfl (mm_ltq kd_6) ⟨Nat.le_of_ble_eq_true rfl, Nat.le_of_ble_eq_true rfl⟩ (Nat.le_of_ble_eq_true rfl) (fun z => z) (rX9_size (q := q) h ) (fun x12 e13 => Or.inl ⟨_, _, rfl, fun z => z, ?_⟩)
        show mm_E2 _ _ _ _ _ [.int x12] h _ _
        refine me_bipush (pc' := 65) (v := 6) dX3_takeNewName_63 rfl kc_b6 ?_
        refine me_icmp_le (pc' := 68) (tgt := 74) dX3_takeNewName_65 (by decide) rfl (fun c14 => ?_) (fun c14 => ?_)
        · refine me_aload_n (pc' := 75) (i := 1) dX3_takeNewName_74 rfl rfl rfl ?_
          refine me_callV (As := []) (st := []) (F' := (mm_Sq (q.1, 1, q.2.2))) (G' := (mm_Sq (q.1, 1, q.2.2))) (F'' := (mm_Sq (q.1, 1, q.2.2))) (pc' := 78) dX3_takeNewName_75 rfl mfX1_addNameless rfl lkX3_107 (mm_ks hp0) rfl (mm_ltq hp0) ⟨Nat.le_of_ble_eq_true rfl, Nat.le_of_ble_eq_true rfl⟩ (Nat.le_of_ble_eq_true rfl) (fun z => z) (rX1_addNameless (q := (q.1, 1, q.2.2)) p0 h hp0) (fun h15 e16 => Or.inl ⟨_, _, rfl, fun z => z, ?_⟩)
          show mm_E2 _ _ _ _ _ [] h15 _ _
          refine me_aload_n (pc' := 79) (i := 0) dX3_takeNewName_78 rfl rfl rfl ?_
          refine me_getR (pc' := 82) (q' := 6) dX3_takeNewName_79 rfl fkX3_12 (mm_ks kd_5) (mm_ltq kd_5) rfl (mrX3_0 kd_5) ?_
          refine me_getI (pc' := 85) dX3_takeNewName_82 rfl fkX3_83 (mm_ks kd_6) (mm_ltq kd_6) rfl ?_
          refine mm_bnd ((mh_I h15 6 2)) (fun x17 => [some (.ref 5), some (.ref p0), some (.int y6), none]) (fun x17 => [.int x17]) (fun _ => h15) (fun x17 => ?_)
          refine me_istore_n (pc' := 86) (i := 3) (L' := [some (.ref 5), some (.ref p0), some (.int y6), some (.int x17)]) dX3_takeNewName_85 rfl rfl (Nat.le_of_ble_eq_true rfl) (Nat.le_of_ble_eq_true rfl) rfl ?_
          exact mm_maskB [true, true, false, true] (rX3_takeNewName_L86 (q := q) p0 hp0 mm_F x17 h15)
        · exact mm_maskB [true, false, false, false] (j8p ())
    refine me_icmp_eq (pc' := 46) (tgt := 50) dX3_takeNewName_43 (by decide) rfl (fun c28 => ?_) (fun c28 => ?_)
    · refine me_iconst (pc' := 51) (v := 0) dX3_takeNewName_50 rfl kc_i0 ?_
      exact j7p 0
    · refine me_iconst (pc' := 47) (v := 1) dX3_takeNewName_46 rfl kc_i1 ?_
      refine me_goto (tgt := 51) dX3_takeNewName_47 (by decide) ?_
      exact j7p 1
  · refine me_aload_n (pc' := 12) (i := 0) dX3_takeNewName_11 rfl rfl rfl ?_
    refine me_iconst (pc' := 13) (v := 1) dX3_takeNewName_12 rfl kc_i1 ?_
    refine me_callV (As := [.int 1]) (st := []) (F' := (mm_Sq (q.1, 1, q.2.2))) (G' := (mm_Sq (q.1, 1, q.2.2))) (F'' := (mm_Sq (q.1, 1, q.2.2))) (pc' := 16) dX3_takeNewName_13 rfl mfX3_fail rfl lkX3_53 (mm_ks kd_5) rfl (mm_ltq kd_5) ⟨Nat.le_of_ble_eq_true rfl, Nat.le_of_ble_eq_true rfl⟩ (Nat.le_of_ble_eq_true rfl) (fun z => z) (rX3_fail (q := q) 1 h ) (fun x29 e30 => Or.inl ⟨_, _, rfl, fun z => z, ?_⟩)
    show mm_E2 _ _ _ _ _ [.int (mx_bi x29.1)] x29.2 _ _
    exact me_zret (b := x29.1) dX3_takeNewName_16 rfl (fun z => z) rfl
def gX3_takeProduct (p0 : Nat) (h : mm_H) : Option (Bool × mm_H) :=
(gX3_takeWord 4 h).bind (fun (x1 : (Bool × mm_H)) =>
if x1.1 = true then
(gX3_takeNewName p0 x1.2).bind (fun (x4 : (Bool × mm_H)) =>
if x4.1 = true then
(gX3_takeNumber 0 999 x4.2).bind (fun (x7 : (Int32 × mm_H)) =>
if x7.1 = (-1) then
some (false, x7.2)
else
(gX1_setMinimum p0 x7.1 x7.2).bind (fun (h10 : mm_H) =>
(gX3_takeSemicolon h10).bind (fun (x12 : (Bool × mm_H)) =>
some (x12.1, x12.2))))
else
some (false, x4.2))
else
some (false, x1.2))
theorem rX3_takeProduct {q : mm_q} (p0 : Nat) (h : mm_H) (hp0 : mm_kd p0 = (0, 1)) : mm_R2 (mm_Sq (q.1, 1, q.2.2)) (mm_Sq (q.1, 1, q.2.2)) mX3_takeProduct [.ref 5, .ref p0] h (gX3_takeProduct p0 h) lf_ze := by
  refine mm_body (L := [some (.ref 5), some (.ref p0), none]) rfl (by decide +kernel) (Nat.le_of_ble_eq_true rfl) rfl ?_
  unfold gX3_takeProduct
  refine me_aload_n (pc' := 1) (i := 0) dX3_takeProduct_0 rfl rfl rfl ?_
  refine me_ldc (pc' := 3) (q := 405) dX3_takeProduct_1 rfl (sr_4) rfl ?_
  refine me_callV (As := [.ref 405]) (st := []) (F' := (mm_Sq (q.1, 1, q.2.2))) (G' := (mm_Sq (q.1, 1, q.2.2))) (F'' := (mm_Sq (q.1, 1, q.2.2))) (pc' := 6) dX3_takeProduct_3 rfl mfX3_takeWord rfl lkX3_36 (mm_ks kd_5) rfl (mm_ltq kd_5) ⟨Nat.le_of_ble_eq_true rfl, Nat.le_of_ble_eq_true rfl⟩ (Nat.le_of_ble_eq_true rfl) (fun z => z) (rX3_takeWord (q := q) 4 h (by decide)) (fun x1 e2 => Or.inl ⟨_, _, rfl, fun z => z, ?_⟩)
  show mm_E2 _ _ _ _ _ [.int (mx_bi x1.1)] x1.2 _ _
  refine me_ifB_eq (pc' := 9) (tgt := 17) dX3_takeProduct_6 (by decide) rfl (fun c3 => ?_) (fun c3 => ?_)
  · refine me_iconst (pc' := 18) (v := 0) dX3_takeProduct_17 rfl kc_i0 ?_
    exact me_zret (b := false) dX3_takeProduct_18 rfl (fun z => z) rfl
  · refine me_aload_n (pc' := 10) (i := 0) dX3_takeProduct_9 rfl rfl rfl ?_
    refine me_aload_n (pc' := 11) (i := 1) dX3_takeProduct_10 rfl rfl rfl ?_
    refine me_callV (As := [.ref p0]) (st := []) (F' := (mm_Sq (q.1, 1, q.2.2))) (G' := (mm_Sq (q.1, 1, q.2.2))) (F'' := (mm_Sq (q.1, 1, q.2.2))) (pc' := 14) dX3_takeProduct_11 rfl mfX3_takeNewName rfl lkX3_123 (mm_ks kd_5) rfl (mm_ltq kd_5) ⟨Nat.le_of_ble_eq_true rfl, Nat.le_of_ble_eq_true rfl⟩ (Nat.le_of_ble_eq_true rfl) (fun z => z) (rX3_takeNewName (q := q) p0 x1.2 hp0) (fun x4 e5 => Or.inl ⟨_, _, rfl, fun z => z, ?_⟩)
    show mm_E2 _ _ _ _ _ [.int (mx_bi x4.1)] x4.2 _ _
    refine me_ifB_ne (pc' := 17) (tgt := 19) dX3_takeProduct_14 (by decide) rfl (fun c6 => ?_) (fun c6 => ?_)
    · refine me_aload_n (pc' := 20) (i := 0) dX3_takeProduct_19 rfl rfl rfl ?_
      refine me_iconst (pc' := 21) (v := 0) dX3_takeProduct_20 rfl kc_i0 ?_
      refine me_sipush (pc' := 24) (v := 999) dX3_takeProduct_21 rfl kc_s999 ?_
      refine me_callV (As := [.int 0, .int 999]) (st := []) (F' := (mm_Sq (q.1, 1, q.2.2))) (G' := (mm_Sq (q.1, 1, q.2.2))) (F'' := (mm_Sq (q.1, 1, q.2.2))) (pc' := 27) dX3_takeProduct_24 rfl mfX3_takeNumber rfl lkX3_126 (mm_ks kd_5) rfl (mm_ltq kd_5) ⟨Nat.le_of_ble_eq_true rfl, Nat.le_of_ble_eq_true rfl⟩ (Nat.le_of_ble_eq_true rfl) (fun z => z) (rX3_takeNumber (q := q) 0 999 x4.2 ) (fun x7 e8 => Or.inl ⟨_, _, rfl, fun z => z, ?_⟩)
      show mm_E2 _ _ _ _ _ [.int x7.1] x7.2 _ _
      refine me_istore_n (pc' := 28) (i := 2) (L' := [some (.ref 5), some (.ref p0), some (.int x7.1)]) dX3_takeProduct_27 rfl rfl (Nat.le_of_ble_eq_true rfl) (Nat.le_of_ble_eq_true rfl) rfl ?_
      refine me_iload_n (pc' := 29) (i := 2) dX3_takeProduct_28 rfl rfl rfl ?_
      refine me_iconst (pc' := 30) (v := (-1)) dX3_takeProduct_29 rfl kc_im1 ?_
      refine me_icmp_ne (pc' := 33) (tgt := 35) dX3_takeProduct_30 (by decide) rfl (fun c9 => ?_) (fun c9 => ?_)
      · refine me_aload_n (pc' := 36) (i := 1) dX3_takeProduct_35 rfl rfl rfl ?_
        refine me_iload_n (pc' := 37) (i := 2) dX3_takeProduct_36 rfl rfl rfl ?_
        refine me_callV (As := [.int x7.1]) (st := []) (F' := (mm_Sq (q.1, 1, q.2.2))) (G' := (mm_Sq (q.1, 1, q.2.2))) (F'' := (mm_Sq (q.1, 1, q.2.2))) (pc' := 40) dX3_takeProduct_37 rfl mfX1_setMinimum rfl lkX3_130 (mm_ks hp0) rfl (mm_ltq hp0) ⟨Nat.le_of_ble_eq_true rfl, Nat.le_of_ble_eq_true rfl⟩ (Nat.le_of_ble_eq_true rfl) (fun z => z) (rX1_setMinimum (q := (q.1, 1, q.2.2)) p0 x7.1 x7.2 hp0) (fun h10 e11 => Or.inl ⟨_, _, rfl, fun z => z, ?_⟩)
        show mm_E2 _ _ _ _ _ [] h10 _ _
        refine me_aload_n (pc' := 41) (i := 0) dX3_takeProduct_40 rfl rfl rfl ?_
        refine me_callV (As := []) (st := []) (F' := (mm_Sq (q.1, 1, q.2.2))) (G' := (mm_Sq (q.1, 1, q.2.2))) (F'' := (mm_Sq (q.1, 1, q.2.2))) (pc' := 44) dX3_takeProduct_41 rfl mfX3_takeSemicolon rfl lkX3_40 (mm_ks kd_5) rfl (mm_ltq kd_5) ⟨Nat.le_of_ble_eq_true rfl, Nat.le_of_ble_eq_true rfl⟩ (Nat.le_of_ble_eq_true rfl) (fun z => z) (rX3_takeSemicolon (q := q) h10 ) (fun x12 e13 => Or.inl ⟨_, _, rfl, fun z => z, ?_⟩)
        show mm_E2 _ _ _ _ _ [.int (mx_bi x12.1)] x12.2 _ _
        exact me_zret (b := x12.1) dX3_takeProduct_44 rfl (fun z => z) rfl
      · refine me_iconst (pc' := 34) (v := 0) dX3_takeProduct_33 rfl kc_i0 ?_
        exact me_zret (b := false) dX3_takeProduct_34 rfl (fun z => z) rfl
    · refine me_iconst (pc' := 18) (v := 0) dX3_takeProduct_17 rfl kc_i0 ?_
      exact me_zret (b := false) dX3_takeProduct_18 rfl (fun z => z) rfl
def gX3_parseSetup_L98 (p1 : Nat) (p2 : Nat) : Nat → Int32 → mm_H → Option (Bool × mm_H)
  | 0, _, _ => none
  | n + 1, w22, h23 =>
    mm_jn (fun (_ : Unit) =>
    (gX9_isWord 5 h23).bind (fun (x25 : Bool) =>
    if x25 = true then
    (gX3_fail 4 h23).bind (fun (x32 : (Bool × mm_H)) =>
    some (x32.1, x32.2))
    else
    if (mh_I h23 6 1) = 0 then
    some (true, h23)
    else
    (gX3_fail 1 h23).bind (fun (x29 : (Bool × mm_H)) =>
    if x29.1 = true then
    some (true, x29.2)
    else
    some (false, x29.2)))) (fun (j24 : Unit → Option (Bool × mm_H)) =>
    if w22 < 20 then
    (gX9_isWord 5 h23).bind (fun (x35 : Bool) =>
    if x35 = true then
    (gX3_takeBatch p1 p2 h23).bind (fun (x38 : (Bool × mm_H)) =>
    if x38.1 = true then
    (some (w22 + 1)).bind (fun (x41 : Int32) =>
    gX3_parseSetup_L98 p1 p2 n x41 x38.2)
    else
    some (false, x38.2))
    else
    j24 ())
    else
    j24 ())
def gX3_parseSetup_L42 (p1 : Nat) (p2 : Nat) : Nat → Int32 → mm_H → Option (Bool × mm_H)
  | 0, _, _ => none
  | n + 1, w16, h17 =>
    mm_jn (fun (_ : Unit) =>
    (gX9_isWord 4 h17).bind (fun (x19 : Bool) =>
    if x19 = true then
    (gX3_fail 4 h17).bind (fun (x42 : (Bool × mm_H)) =>
    some (x42.1, x42.2))
    else
    gX3_parseSetup_L98 p1 p2 mm_F 0 h17)) (fun (j18 : Unit → Option (Bool × mm_H)) =>
    if w16 < 8 then
    (gX9_isWord 4 h17).bind (fun (x45 : Bool) =>
    if x45 = true then
    (gX3_takeProduct p1 h17).bind (fun (x48 : (Bool × mm_H)) =>
    if x48.1 = true then
    (some (w16 + 1)).bind (fun (x51 : Int32) =>
    gX3_parseSetup_L42 p1 p2 n x51 x48.2)
    else
    some (false, x48.2))
    else
    j18 ())
    else
    j18 ())
def gX3_parseSetup (p1 : Nat) (p2 : Nat) (h : mm_H) : Option (Bool × mm_H) :=
(gX3_begin h).bind (fun (h1 : mm_H) =>
(gX1_empty p1 h1).bind (fun (h3 : mm_H) =>
(gX7_empty p2 h3).bind (fun (h5 : mm_H) =>
(gX3_takeWord 3 h5).bind (fun (x7 : (Bool × mm_H)) =>
if x7.1 = true then
(gX3_takeSemicolon x7.2).bind (fun (x10 : (Bool × mm_H)) =>
if x10.1 = true then
(gX3_takeProduct p1 x10.2).bind (fun (x13 : (Bool × mm_H)) =>
if x13.1 = true then
gX3_parseSetup_L42 p1 p2 mm_F 1 x13.2
else
some (false, x13.2))
else
some (false, x10.2))
else
some (false, x7.2)))))
theorem rX3_parseSetup_L98 {q : mm_q} (p1 : Nat) (p2 : Nat)    (hp1 : mm_kd p1 = (0, 1)) (hp2 : mm_kd p2 = (0, 7)) : ∀ (n : Nat) (w22 : Int32) (h23 : mm_H), mm_E2 (mm_Sq (q.1, 1, q.2.2)) (mm_Sq (q.1, 1, q.2.2)) mX3_parseSetup 98 [some (.ref 5), none, some (.ref p1), some (.ref p2), some (.int w22)] [] h23 (gX3_parseSetup_L98 p1 p2  n w22 h23) lf_ze := by
  intro n
  induction n with
  | zero =>
    intro w22 h23
    exact mm_none
  | succ n ih =>
    intro w22 h23
    rw [gX3_parseSetup_L98]
    refine me_iload (pc' := 100) (i := 4) dX3_parseSetup_98 rfl rfl ?_
    refine me_bipush (pc' := 102) (v := 20) dX3_parseSetup_100 rfl kc_b20 ?_
    refine mm_jnI (fun (j249 : Unit → Option (Bool × mm_H)) => ∀ (_ : Unit), mm_E2 (mm_Sq (q.1, 1, q.2.2)) (mm_Sq (q.1, 1, q.2.2)) mX3_parseSetup 134 [some (.ref 5), none, none, none, none] [] h23 (j249 ()) lf_ze) ?_ (fun j24 j24p => ?_)
    · intro _
      refine me_aload_n (pc' := 135) (i := 0) dX3_parseSetup_134 rfl rfl rfl ?_
      refine me_getR (pc' := 138) (q' := 6) dX3_parseSetup_135 rfl fkX3_12 (mm_ks kd_5) (mm_ltq kd_5) rfl (mrX3_0 kd_5) ?_
      refine me_ldc (pc' := 140) (q := 406) dX3_parseSetup_138 rfl (sr_5) rfl ?_
      refine me_callV (As := [.ref 406]) (st := []) (F' := (mm_Sq (q.1, 1, q.2.2))) (G' := (mm_Sq (q.1, 1, q.2.2))) (F'' := (mm_Sq (q.1, 1, q.2.2))) (pc' := 143) dX3_parseSetup_140 rfl mfX9_isWord rfl lkX3_50 (mm_ks kd_6) rfl (mm_ltq kd_6) ⟨Nat.le_of_ble_eq_true rfl, Nat.le_of_ble_eq_true rfl⟩ (Nat.le_of_ble_eq_true rfl) (fun z => z) (rX9_isWord (q := q) 5 h23 (by decide)) (fun x25 e26 => Or.inl ⟨_, _, rfl, fun z => z, ?_⟩)
      show mm_E2 _ _ _ _ _ [.int (mx_bi x25)] h23 _ _
      refine me_ifB_eq (pc' := 146) (tgt := 152) dX3_parseSetup_143 (by decide) rfl (fun c27 => ?_) (fun c27 => ?_)
      · refine me_aload_n (pc' := 153) (i := 0) dX3_parseSetup_152 rfl rfl rfl ?_
        refine me_getR (pc' := 156) (q' := 6) dX3_parseSetup_153 rfl fkX3_12 (mm_ks kd_5) (mm_ltq kd_5) rfl (mrX3_0 kd_5) ?_
        refine me_getI (pc' := 159) dX3_parseSetup_156 rfl fkX3_63 (mm_ks kd_6) (mm_ltq kd_6) rfl ?_
        refine me_if_eq (pc' := 162) (tgt := 170) dX3_parseSetup_159 (by decide) rfl (fun c28 => ?_) (fun c28 => ?_)
        · refine me_iconst (pc' := 171) (v := 1) dX3_parseSetup_170 rfl kc_i1 ?_
          refine me_goto (tgt := 175) dX3_parseSetup_171 (by decide) ?_
          exact me_zret (b := true) dX3_parseSetup_175 rfl (fun z => z) rfl
        · refine me_aload_n (pc' := 163) (i := 0) dX3_parseSetup_162 rfl rfl rfl ?_
          refine me_iconst (pc' := 164) (v := 1) dX3_parseSetup_163 rfl kc_i1 ?_
          refine me_callV (As := [.int 1]) (st := []) (F' := (mm_Sq (q.1, 1, q.2.2))) (G' := (mm_Sq (q.1, 1, q.2.2))) (F'' := (mm_Sq (q.1, 1, q.2.2))) (pc' := 167) dX3_parseSetup_164 rfl mfX3_fail rfl lkX3_53 (mm_ks kd_5) rfl (mm_ltq kd_5) ⟨Nat.le_of_ble_eq_true rfl, Nat.le_of_ble_eq_true rfl⟩ (Nat.le_of_ble_eq_true rfl) (fun z => z) (rX3_fail (q := q) 1 h23 ) (fun x29 e30 => Or.inl ⟨_, _, rfl, fun z => z, ?_⟩)
          show mm_E2 _ _ _ _ _ [.int (mx_bi x29.1)] x29.2 _ _
          refine me_ifB_eq (pc' := 170) (tgt := 174) dX3_parseSetup_167 (by decide) rfl (fun c31 => ?_) (fun c31 => ?_)
          · refine me_iconst (pc' := 175) (v := 0) dX3_parseSetup_174 rfl kc_i0 ?_
            exact me_zret (b := false) dX3_parseSetup_175 rfl (fun z => z) rfl
          · refine me_iconst (pc' := 171) (v := 1) dX3_parseSetup_170 rfl kc_i1 ?_
            refine me_goto (tgt := 175) dX3_parseSetup_171 (by decide) ?_
            exact me_zret (b := true) dX3_parseSetup_175 rfl (fun z => z) rfl
      · refine me_aload_n (pc' := 147) (i := 0) dX3_parseSetup_146 rfl rfl rfl ?_
        refine me_iconst (pc' := 148) (v := 4) dX3_parseSetup_147 rfl kc_i4 ?_
        refine me_callV (As := [.int 4]) (st := []) (F' := (mm_Sq (q.1, 1, q.2.2))) (G' := (mm_Sq (q.1, 1, q.2.2))) (F'' := (mm_Sq (q.1, 1, q.2.2))) (pc' := 151) dX3_parseSetup_148 rfl mfX3_fail rfl lkX3_53 (mm_ks kd_5) rfl (mm_ltq kd_5) ⟨Nat.le_of_ble_eq_true rfl, Nat.le_of_ble_eq_true rfl⟩ (Nat.le_of_ble_eq_true rfl) (fun z => z) (rX3_fail (q := q) 4 h23 ) (fun x32 e33 => Or.inl ⟨_, _, rfl, fun z => z, ?_⟩)
        show mm_E2 _ _ _ _ _ [.int (mx_bi x32.1)] x32.2 _ _
        exact me_zret (b := x32.1) dX3_parseSetup_151 rfl (fun z => z) rfl
    refine me_icmp_ge (pc' := 105) (tgt := 134) dX3_parseSetup_102 (by decide) rfl (fun c34 => ?_) (fun c34 => ?_)
    · exact mm_maskB [true, false, false, false, false] (j24p ())
    · refine me_aload_n (pc' := 106) (i := 0) dX3_parseSetup_105 rfl rfl rfl ?_
      refine me_getR (pc' := 109) (q' := 6) dX3_parseSetup_106 rfl fkX3_12 (mm_ks kd_5) (mm_ltq kd_5) rfl (mrX3_0 kd_5) ?_
      refine me_ldc (pc' := 111) (q := 406) dX3_parseSetup_109 rfl (sr_5) rfl ?_
      refine me_callV (As := [.ref 406]) (st := []) (F' := (mm_Sq (q.1, 1, q.2.2))) (G' := (mm_Sq (q.1, 1, q.2.2))) (F'' := (mm_Sq (q.1, 1, q.2.2))) (pc' := 114) dX3_parseSetup_111 rfl mfX9_isWord rfl lkX3_50 (mm_ks kd_6) rfl (mm_ltq kd_6) ⟨Nat.le_of_ble_eq_true rfl, Nat.le_of_ble_eq_true rfl⟩ (Nat.le_of_ble_eq_true rfl) (fun z => z) (rX9_isWord (q := q) 5 h23 (by decide)) (fun x35 e36 => Or.inl ⟨_, _, rfl, fun z => z, ?_⟩)
      show mm_E2 _ _ _ _ _ [.int (mx_bi x35)] h23 _ _
      refine me_ifB_eq (pc' := 117) (tgt := 134) dX3_parseSetup_114 (by decide) rfl (fun c37 => ?_) (fun c37 => ?_)
      · exact mm_maskB [true, false, false, false, false] (j24p ())
      · refine me_aload_n (pc' := 118) (i := 0) dX3_parseSetup_117 rfl rfl rfl ?_
        refine me_aload_n (pc' := 119) (i := 2) dX3_parseSetup_118 rfl rfl rfl ?_
        refine me_aload_n (pc' := 120) (i := 3) dX3_parseSetup_119 rfl rfl rfl ?_
        refine me_callV (As := [.ref p1, .ref p2]) (st := []) (F' := (mm_Sq (q.1, 1, q.2.2))) (G' := (mm_Sq (q.1, 1, q.2.2))) (F'' := (mm_Sq (q.1, 1, q.2.2))) (pc' := 123) dX3_parseSetup_120 rfl mfX3_takeBatch rfl lkX3_59 (mm_ks kd_5) rfl (mm_ltq kd_5) ⟨Nat.le_of_ble_eq_true rfl, Nat.le_of_ble_eq_true rfl⟩ (Nat.le_of_ble_eq_true rfl) (fun z => z) (rX3_takeBatch (q := q) p1 p2 h23 hp1 hp2) (fun x38 e39 => Or.inl ⟨_, _, rfl, fun z => z, ?_⟩)
        show mm_E2 _ _ _ _ _ [.int (mx_bi x38.1)] x38.2 _ _
        refine me_ifB_ne (pc' := 126) (tgt := 128) dX3_parseSetup_123 (by decide) rfl (fun c40 => ?_) (fun c40 => ?_)
        · refine me_iinc (pc' := 131) (i := 4) (x := w22) (y := w22 + 1) (L' := [some (.ref 5), none, some (.ref p1), some (.ref p2), some (.int (w22 + 1))]) dX3_parseSetup_128 rfl (Nat.le_of_ble_eq_true rfl) (Nat.le_of_ble_eq_true rfl) rfl (kc_plus kc_i1) rfl ?_
          refine mm_bnd (w22 + 1) (fun x41 => [some (.ref 5), none, some (.ref p1), some (.ref p2), some (.int x41)]) (fun _ => []) (fun _ => x38.2) (fun x41 => ?_)
          refine me_goto (tgt := 98) dX3_parseSetup_131 (by decide) ?_
          exact ih x41 x38.2
        · refine me_iconst (pc' := 127) (v := 0) dX3_parseSetup_126 rfl kc_i0 ?_
          exact me_zret (b := false) dX3_parseSetup_127 rfl (fun z => z) rfl
theorem rX3_parseSetup_L42 {q : mm_q} (p1 : Nat) (p2 : Nat)    (hp1 : mm_kd p1 = (0, 1)) (hp2 : mm_kd p2 = (0, 7)) : ∀ (n : Nat) (w16 : Int32) (h17 : mm_H), mm_E2 (mm_Sq (q.1, 1, q.2.2)) (mm_Sq (q.1, 1, q.2.2)) mX3_parseSetup 42 [some (.ref 5), none, some (.ref p1), some (.ref p2), some (.int w16)] [] h17 (gX3_parseSetup_L42 p1 p2  n w16 h17) lf_ze := by
  intro n
  induction n with
  | zero =>
    intro w16 h17
    exact mm_none
  | succ n ih =>
    intro w16 h17
    rw [gX3_parseSetup_L42]
    refine me_iload (pc' := 44) (i := 4) dX3_parseSetup_42 rfl rfl ?_
    refine me_bipush (pc' := 46) (v := 8) dX3_parseSetup_44 rfl kc_b8 ?_
    refine mm_jnI (fun (j189 : Unit → Option (Bool × mm_H)) => ∀ (_ : Unit), mm_E2 (mm_Sq (q.1, 1, q.2.2)) (mm_Sq (q.1, 1, q.2.2)) mX3_parseSetup 77 [some (.ref 5), none, some (.ref p1), some (.ref p2), none] [] h17 (j189 ()) lf_ze) ?_ (fun j18 j18p => ?_)
    · intro _
      refine me_aload_n (pc' := 78) (i := 0) dX3_parseSetup_77 rfl rfl rfl ?_
      refine me_getR (pc' := 81) (q' := 6) dX3_parseSetup_78 rfl fkX3_12 (mm_ks kd_5) (mm_ltq kd_5) rfl (mrX3_0 kd_5) ?_
      refine me_ldc (pc' := 83) (q := 405) dX3_parseSetup_81 rfl (sr_4) rfl ?_
      refine me_callV (As := [.ref 405]) (st := []) (F' := (mm_Sq (q.1, 1, q.2.2))) (G' := (mm_Sq (q.1, 1, q.2.2))) (F'' := (mm_Sq (q.1, 1, q.2.2))) (pc' := 86) dX3_parseSetup_83 rfl mfX9_isWord rfl lkX3_50 (mm_ks kd_6) rfl (mm_ltq kd_6) ⟨Nat.le_of_ble_eq_true rfl, Nat.le_of_ble_eq_true rfl⟩ (Nat.le_of_ble_eq_true rfl) (fun z => z) (rX9_isWord (q := q) 4 h17 (by decide)) (fun x19 e20 => Or.inl ⟨_, _, rfl, fun z => z, ?_⟩)
      show mm_E2 _ _ _ _ _ [.int (mx_bi x19)] h17 _ _
      refine me_ifB_eq (pc' := 89) (tgt := 95) dX3_parseSetup_86 (by decide) rfl (fun c21 => ?_) (fun c21 => ?_)
      · refine me_iconst (pc' := 96) (v := 0) dX3_parseSetup_95 rfl kc_i0 ?_
        refine me_istore (pc' := 98) (i := 4) (L' := [some (.ref 5), none, some (.ref p1), some (.ref p2), some (.int 0)]) dX3_parseSetup_96 rfl (Nat.le_of_ble_eq_true rfl) (Nat.le_of_ble_eq_true rfl) rfl ?_
        exact rX3_parseSetup_L98 (q := q) p1 p2 hp1 hp2 mm_F 0 h17
      · refine me_aload_n (pc' := 90) (i := 0) dX3_parseSetup_89 rfl rfl rfl ?_
        refine me_iconst (pc' := 91) (v := 4) dX3_parseSetup_90 rfl kc_i4 ?_
        refine me_callV (As := [.int 4]) (st := []) (F' := (mm_Sq (q.1, 1, q.2.2))) (G' := (mm_Sq (q.1, 1, q.2.2))) (F'' := (mm_Sq (q.1, 1, q.2.2))) (pc' := 94) dX3_parseSetup_91 rfl mfX3_fail rfl lkX3_53 (mm_ks kd_5) rfl (mm_ltq kd_5) ⟨Nat.le_of_ble_eq_true rfl, Nat.le_of_ble_eq_true rfl⟩ (Nat.le_of_ble_eq_true rfl) (fun z => z) (rX3_fail (q := q) 4 h17 ) (fun x42 e43 => Or.inl ⟨_, _, rfl, fun z => z, ?_⟩)
        show mm_E2 _ _ _ _ _ [.int (mx_bi x42.1)] x42.2 _ _
        exact me_zret (b := x42.1) dX3_parseSetup_94 rfl (fun z => z) rfl
    refine me_icmp_ge (pc' := 49) (tgt := 77) dX3_parseSetup_46 (by decide) rfl (fun c44 => ?_) (fun c44 => ?_)
    · exact mm_maskB [true, false, true, true, false] (j18p ())
    · refine me_aload_n (pc' := 50) (i := 0) dX3_parseSetup_49 rfl rfl rfl ?_
      refine me_getR (pc' := 53) (q' := 6) dX3_parseSetup_50 rfl fkX3_12 (mm_ks kd_5) (mm_ltq kd_5) rfl (mrX3_0 kd_5) ?_
      refine me_ldc (pc' := 55) (q := 405) dX3_parseSetup_53 rfl (sr_4) rfl ?_
      refine me_callV (As := [.ref 405]) (st := []) (F' := (mm_Sq (q.1, 1, q.2.2))) (G' := (mm_Sq (q.1, 1, q.2.2))) (F'' := (mm_Sq (q.1, 1, q.2.2))) (pc' := 58) dX3_parseSetup_55 rfl mfX9_isWord rfl lkX3_50 (mm_ks kd_6) rfl (mm_ltq kd_6) ⟨Nat.le_of_ble_eq_true rfl, Nat.le_of_ble_eq_true rfl⟩ (Nat.le_of_ble_eq_true rfl) (fun z => z) (rX9_isWord (q := q) 4 h17 (by decide)) (fun x45 e46 => Or.inl ⟨_, _, rfl, fun z => z, ?_⟩)
      show mm_E2 _ _ _ _ _ [.int (mx_bi x45)] h17 _ _
      refine me_ifB_eq (pc' := 61) (tgt := 77) dX3_parseSetup_58 (by decide) rfl (fun c47 => ?_) (fun c47 => ?_)
      · exact mm_maskB [true, false, true, true, false] (j18p ())
      · refine me_aload_n (pc' := 62) (i := 0) dX3_parseSetup_61 rfl rfl rfl ?_
        refine me_aload_n (pc' := 63) (i := 2) dX3_parseSetup_62 rfl rfl rfl ?_
        refine me_callV (As := [.ref p1]) (st := []) (F' := (mm_Sq (q.1, 1, q.2.2))) (G' := (mm_Sq (q.1, 1, q.2.2))) (F'' := (mm_Sq (q.1, 1, q.2.2))) (pc' := 66) dX3_parseSetup_63 rfl mfX3_takeProduct rfl lkX3_44 (mm_ks kd_5) rfl (mm_ltq kd_5) ⟨Nat.le_of_ble_eq_true rfl, Nat.le_of_ble_eq_true rfl⟩ (Nat.le_of_ble_eq_true rfl) (fun z => z) (rX3_takeProduct (q := q) p1 h17 hp1) (fun x48 e49 => Or.inl ⟨_, _, rfl, fun z => z, ?_⟩)
        show mm_E2 _ _ _ _ _ [.int (mx_bi x48.1)] x48.2 _ _
        refine me_ifB_ne (pc' := 69) (tgt := 71) dX3_parseSetup_66 (by decide) rfl (fun c50 => ?_) (fun c50 => ?_)
        · refine me_iinc (pc' := 74) (i := 4) (x := w16) (y := w16 + 1) (L' := [some (.ref 5), none, some (.ref p1), some (.ref p2), some (.int (w16 + 1))]) dX3_parseSetup_71 rfl (Nat.le_of_ble_eq_true rfl) (Nat.le_of_ble_eq_true rfl) rfl (kc_plus kc_i1) rfl ?_
          refine mm_bnd (w16 + 1) (fun x51 => [some (.ref 5), none, some (.ref p1), some (.ref p2), some (.int x51)]) (fun _ => []) (fun _ => x48.2) (fun x51 => ?_)
          refine me_goto (tgt := 42) dX3_parseSetup_74 (by decide) ?_
          exact ih x51 x48.2
        · refine me_iconst (pc' := 70) (v := 0) dX3_parseSetup_69 rfl kc_i0 ?_
          exact me_zret (b := false) dX3_parseSetup_70 rfl (fun z => z) rfl
theorem rX3_parseSetup {q : mm_q} (p1 : Nat) (p2 : Nat) (h : mm_H) (hp1 : mm_kd p1 = (0, 1)) (hp2 : mm_kd p2 = (0, 7)) : mm_R2 (mm_Sq q) (mm_Sq (q.1, 1, q.2.2)) mX3_parseSetup [.ref 5, .ref 1, .ref p1, .ref p2] h (gX3_parseSetup p1 p2 h) lf_ze := by
  refine mm_body (L := [some (.ref 5), some (.ref 1), some (.ref p1), some (.ref p2), none]) rfl (by decide +kernel) (Nat.le_of_ble_eq_true rfl) rfl ?_
  unfold gX3_parseSetup
  refine me_aload_n (pc' := 1) (i := 0) dX3_parseSetup_0 rfl rfl rfl ?_
  refine me_aload_n (pc' := 2) (i := 1) dX3_parseSetup_1 rfl rfl rfl ?_
  refine me_callV (As := [.ref 1]) (st := []) (F' := (mm_Sq q)) (G' := (mm_Sq (q.1, 1, q.2.2))) (F'' := (mm_Sq (q.1, 1, q.2.2))) (pc' := 5) dX3_parseSetup_2 rfl mfX3_begin rfl lkX3_22 (mm_ks kd_5) rfl (mm_ltq kd_5) ⟨Nat.le_of_ble_eq_true rfl, Nat.le_of_ble_eq_true rfl⟩ (Nat.le_of_ble_eq_true rfl) (fun z => z) (rX3_begin (q := q) h ) (fun h1 e2 => Or.inl ⟨_, _, rfl, fun z => z, ?_⟩)
  show mm_E2 _ _ _ _ _ [] h1 _ _
  refine me_aload_n (pc' := 6) (i := 2) dX3_parseSetup_5 rfl rfl rfl ?_
  refine me_callV (As := []) (st := []) (F' := (mm_Sq (q.1, 1, q.2.2))) (G' := (mm_Sq (q.1, 1, q.2.2))) (F'' := (mm_Sq (q.1, 1, q.2.2))) (pc' := 9) dX3_parseSetup_6 rfl mfX1_empty rfl lkX3_26 (mm_ks hp1) rfl (mm_ltq hp1) ⟨Nat.le_of_ble_eq_true rfl, Nat.le_of_ble_eq_true rfl⟩ (Nat.le_of_ble_eq_true rfl) (fun z => z) (rX1_empty (q := (q.1, 1, q.2.2)) p1 h1 hp1) (fun h3 e4 => Or.inl ⟨_, _, rfl, fun z => z, ?_⟩)
  show mm_E2 _ _ _ _ _ [] h3 _ _
  refine me_aload_n (pc' := 10) (i := 3) dX3_parseSetup_9 rfl rfl rfl ?_
  refine me_callV (As := []) (st := []) (F' := (mm_Sq (q.1, 1, q.2.2))) (G' := (mm_Sq (q.1, 1, q.2.2))) (F'' := (mm_Sq (q.1, 1, q.2.2))) (pc' := 13) dX3_parseSetup_10 rfl mfX7_empty rfl lkX3_31 (mm_ks hp2) rfl (mm_ltq hp2) ⟨Nat.le_of_ble_eq_true rfl, Nat.le_of_ble_eq_true rfl⟩ (Nat.le_of_ble_eq_true rfl) (fun z => z) (rX7_empty (q := (q.1, 1, q.2.2)) p2 h3 hp2) (fun h5 e6 => Or.inl ⟨_, _, rfl, fun z => z, ?_⟩)
  show mm_E2 _ _ _ _ _ [] h5 _ _
  refine me_aload_n (pc' := 14) (i := 0) dX3_parseSetup_13 rfl rfl rfl ?_
  refine me_ldc (pc' := 16) (q := 404) dX3_parseSetup_14 rfl (sr_3) rfl ?_
  refine me_callV (As := [.ref 404]) (st := []) (F' := (mm_Sq (q.1, 1, q.2.2))) (G' := (mm_Sq (q.1, 1, q.2.2))) (F'' := (mm_Sq (q.1, 1, q.2.2))) (pc' := 19) dX3_parseSetup_16 rfl mfX3_takeWord rfl lkX3_36 (mm_ks kd_5) rfl (mm_ltq kd_5) ⟨Nat.le_of_ble_eq_true rfl, Nat.le_of_ble_eq_true rfl⟩ (Nat.le_of_ble_eq_true rfl) (fun z => z) (rX3_takeWord (q := q) 3 h5 (by decide)) (fun x7 e8 => Or.inl ⟨_, _, rfl, fun z => z, ?_⟩)
  show mm_E2 _ _ _ _ _ [.int (mx_bi x7.1)] x7.2 _ _
  refine me_ifB_eq (pc' := 22) (tgt := 37) dX3_parseSetup_19 (by decide) rfl (fun c9 => ?_) (fun c9 => ?_)
  · refine me_iconst (pc' := 38) (v := 0) dX3_parseSetup_37 rfl kc_i0 ?_
    exact me_zret (b := false) dX3_parseSetup_38 rfl (fun z => z) rfl
  · refine me_aload_n (pc' := 23) (i := 0) dX3_parseSetup_22 rfl rfl rfl ?_
    refine me_callV (As := []) (st := []) (F' := (mm_Sq (q.1, 1, q.2.2))) (G' := (mm_Sq (q.1, 1, q.2.2))) (F'' := (mm_Sq (q.1, 1, q.2.2))) (pc' := 26) dX3_parseSetup_23 rfl mfX3_takeSemicolon rfl lkX3_40 (mm_ks kd_5) rfl (mm_ltq kd_5) ⟨Nat.le_of_ble_eq_true rfl, Nat.le_of_ble_eq_true rfl⟩ (Nat.le_of_ble_eq_true rfl) (fun z => z) (rX3_takeSemicolon (q := q) x7.2 ) (fun x10 e11 => Or.inl ⟨_, _, rfl, fun z => z, ?_⟩)
    show mm_E2 _ _ _ _ _ [.int (mx_bi x10.1)] x10.2 _ _
    refine me_ifB_eq (pc' := 29) (tgt := 37) dX3_parseSetup_26 (by decide) rfl (fun c12 => ?_) (fun c12 => ?_)
    · refine me_iconst (pc' := 38) (v := 0) dX3_parseSetup_37 rfl kc_i0 ?_
      exact me_zret (b := false) dX3_parseSetup_38 rfl (fun z => z) rfl
    · refine me_aload_n (pc' := 30) (i := 0) dX3_parseSetup_29 rfl rfl rfl ?_
      refine me_aload_n (pc' := 31) (i := 2) dX3_parseSetup_30 rfl rfl rfl ?_
      refine me_callV (As := [.ref p1]) (st := []) (F' := (mm_Sq (q.1, 1, q.2.2))) (G' := (mm_Sq (q.1, 1, q.2.2))) (F'' := (mm_Sq (q.1, 1, q.2.2))) (pc' := 34) dX3_parseSetup_31 rfl mfX3_takeProduct rfl lkX3_44 (mm_ks kd_5) rfl (mm_ltq kd_5) ⟨Nat.le_of_ble_eq_true rfl, Nat.le_of_ble_eq_true rfl⟩ (Nat.le_of_ble_eq_true rfl) (fun z => z) (rX3_takeProduct (q := q) p1 x10.2 hp1) (fun x13 e14 => Or.inl ⟨_, _, rfl, fun z => z, ?_⟩)
      show mm_E2 _ _ _ _ _ [.int (mx_bi x13.1)] x13.2 _ _
      refine me_ifB_ne (pc' := 37) (tgt := 39) dX3_parseSetup_34 (by decide) rfl (fun c15 => ?_) (fun c15 => ?_)
      · refine me_iconst (pc' := 40) (v := 1) dX3_parseSetup_39 rfl kc_i1 ?_
        refine me_istore (pc' := 42) (i := 4) (L' := [some (.ref 5), some (.ref 1), some (.ref p1), some (.ref p2), some (.int 1)]) dX3_parseSetup_40 rfl (Nat.le_of_ble_eq_true rfl) (Nat.le_of_ble_eq_true rfl) rfl ?_
        exact mm_maskB [true, false, true, true, true] (rX3_parseSetup_L42 (q := q) p1 p2 hp1 hp2 mm_F 1 x13.2)
      · refine me_iconst (pc' := 38) (v := 0) dX3_parseSetup_37 rfl kc_i0 ?_
        exact me_zret (b := false) dX3_parseSetup_38 rfl (fun z => z) rfl
def gX10_load (h : mm_H) : Option ((Int32 ⊕ String) × mm_H) :=
(gX3_parseSetup 52 59 h).bind (fun (x1 : (Bool × mm_H)) =>
(gX8_cutTo 1 0 x1.2).bind (fun (h3 : mm_H) =>
if x1.1 = true then
(gX1_copyFrom 14 52 h3).bind (fun (h6 : mm_H) =>
(gX7_copyFrom 21 59 h6).bind (fun (h8 : mm_H) =>
(gX6_empty 281 h8).bind (fun (h10 : mm_H) =>
(gX2_forget h10).bind (fun (h12 : mm_H) =>
some (.inl ((mh_I h12 14 0)), h12)))))
else
some (.inr "java/lang/IllegalArgumentException", ms_X h3)))
theorem rX10_load {q : mm_q} (h : mm_H) : mm_R2 (mm_Sq q) (mm_Sq (q.1, 1, q.2.2)) mX10_load [.ref 0] h (gX10_load h) lf_it := by
  refine mm_body (L := [some (.ref 0), none]) rfl (by decide +kernel) (Nat.le_of_ble_eq_true rfl) rfl ?_
  unfold gX10_load
  refine me_aload_n (pc' := 1) (i := 0) dX10_load_0 rfl rfl rfl ?_
  refine me_getR (pc' := 4) (q' := 5) dX10_load_1 rfl fkX10_24 (mm_ks kd_0) (mm_ltq kd_0) rfl (mrX10_2 kd_0) ?_
  refine me_aload_n (pc' := 5) (i := 0) dX10_load_4 rfl rfl rfl ?_
  refine me_getR (pc' := 8) (q' := 1) dX10_load_5 rfl fkX10_14 (mm_ks kd_0) (mm_ltq kd_0) rfl (mrX10_0 kd_0) ?_
  refine me_aload_n (pc' := 9) (i := 0) dX10_load_8 rfl rfl rfl ?_
  refine me_getR (pc' := 12) (q' := 52) dX10_load_9 rfl fkX10_49 (mm_ks kd_0) (mm_ltq kd_0) rfl (mrX10_6 kd_0) ?_
  refine me_aload_n (pc' := 13) (i := 0) dX10_load_12 rfl rfl rfl ?_
  refine me_getR (pc' := 16) (q' := 59) dX10_load_13 rfl fkX10_52 (mm_ks kd_0) (mm_ltq kd_0) rfl (mrX10_7 kd_0) ?_
  refine me_callV (As := [.ref 1, .ref 52, .ref 59]) (st := []) (F' := (mm_Sq q)) (G' := (mm_Sq (q.1, 1, q.2.2))) (F'' := (mm_Sq (q.1, 1, q.2.2))) (pc' := 19) dX10_load_16 rfl mfX3_parseSetup rfl lkX10_111 (mm_ks kd_5) rfl (mm_ltq kd_5) ⟨Nat.le_of_ble_eq_true rfl, Nat.le_of_ble_eq_true rfl⟩ (Nat.le_of_ble_eq_true rfl) (fun z => z) (rX3_parseSetup (q := q) 52 59 h kd_52 kd_59) (fun x1 e2 => Or.inl ⟨_, _, rfl, fun z => z, ?_⟩)
  show mm_E2 _ _ _ _ _ [.int (mx_bi x1.1)] x1.2 _ _
  refine me_istore_n (pc' := 20) (i := 1) (L' := [some (.ref 0), some (.int (mx_bi x1.1))]) dX10_load_19 rfl rfl (Nat.le_of_ble_eq_true rfl) (Nat.le_of_ble_eq_true rfl) rfl ?_
  refine me_aload_n (pc' := 21) (i := 0) dX10_load_20 rfl rfl rfl ?_
  refine me_getR (pc' := 24) (q' := 1) dX10_load_21 rfl fkX10_14 (mm_ks kd_0) (mm_ltq kd_0) rfl (mrX10_0 kd_0) ?_
  refine me_iconst (pc' := 25) (v := 0) dX10_load_24 rfl kc_i0 ?_
  refine me_callV (As := [.int 0]) (st := []) (F' := (mm_Sq (q.1, 1, q.2.2))) (G' := (mm_Sq (q.1, 1, q.2.2))) (F'' := (mm_Sq (q.1, 1, q.2.2))) (pc' := 28) dX10_load_25 rfl mfX8_cutTo rfl lkX10_108 (mm_ks kd_1) rfl (mm_ltq kd_1) ⟨Nat.le_of_ble_eq_true rfl, Nat.le_of_ble_eq_true rfl⟩ (Nat.le_of_ble_eq_true rfl) (fun z => z) (rX8_cutTo (q := (q.1, 1, q.2.2)) 1 0 x1.2 kd_1) (fun h3 e4 => Or.inl ⟨_, _, rfl, fun z => z, ?_⟩)
  show mm_E2 _ _ _ _ _ [] h3 _ _
  refine me_iload_n (pc' := 29) (i := 1) dX10_load_28 rfl rfl rfl ?_
  refine me_ifB_ne (pc' := 32) (tgt := 42) dX10_load_29 (by decide) rfl (fun c5 => ?_) (fun c5 => ?_)
  · refine me_aload_n (pc' := 43) (i := 0) dX10_load_42 rfl rfl rfl ?_
    refine me_getR (pc' := 46) (q' := 14) dX10_load_43 rfl fkX10_38 (mm_ks kd_0) (mm_ltq kd_0) rfl (mrX10_4 kd_0) ?_
    refine me_aload_n (pc' := 47) (i := 0) dX10_load_46 rfl rfl rfl ?_
    refine me_getR (pc' := 50) (q' := 52) dX10_load_47 rfl fkX10_49 (mm_ks kd_0) (mm_ltq kd_0) rfl (mrX10_6 kd_0) ?_
    refine me_callV (As := [.ref 52]) (st := []) (F' := (mm_Sq (q.1, 1, q.2.2))) (G' := (mm_Sq (q.1, 1, q.2.2))) (F'' := (mm_Sq (q.1, 1, q.2.2))) (pc' := 53) dX10_load_50 rfl mfX1_copyFrom rfl lkX10_120 (mm_ks kd_14) rfl (mm_ltq kd_14) ⟨Nat.le_of_ble_eq_true rfl, Nat.le_of_ble_eq_true rfl⟩ (Nat.le_of_ble_eq_true rfl) (fun z => z) (rX1_copyFrom (q := (q.1, 1, q.2.2)) 14 52 h3 kd_14 kd_52) (fun h6 e7 => Or.inl ⟨_, _, rfl, fun z => z, ?_⟩)
    show mm_E2 _ _ _ _ _ [] h6 _ _
    refine me_aload_n (pc' := 54) (i := 0) dX10_load_53 rfl rfl rfl ?_
    refine me_getR (pc' := 57) (q' := 21) dX10_load_54 rfl fkX10_45 (mm_ks kd_0) (mm_ltq kd_0) rfl (mrX10_5 kd_0) ?_
    refine me_aload_n (pc' := 58) (i := 0) dX10_load_57 rfl rfl rfl ?_
    refine me_getR (pc' := 61) (q' := 59) dX10_load_58 rfl fkX10_52 (mm_ks kd_0) (mm_ltq kd_0) rfl (mrX10_7 kd_0) ?_
    refine me_callV (As := [.ref 59]) (st := []) (F' := (mm_Sq (q.1, 1, q.2.2))) (G' := (mm_Sq (q.1, 1, q.2.2))) (F'' := (mm_Sq (q.1, 1, q.2.2))) (pc' := 64) dX10_load_61 rfl mfX7_copyFrom rfl lkX10_124 (mm_ks kd_21) rfl (mm_ltq kd_21) ⟨Nat.le_of_ble_eq_true rfl, Nat.le_of_ble_eq_true rfl⟩ (Nat.le_of_ble_eq_true rfl) (fun z => z) (rX7_copyFrom (q := (q.1, 1, q.2.2)) 21 59 h6 kd_21 kd_59) (fun h8 e9 => Or.inl ⟨_, _, rfl, fun z => z, ?_⟩)
    show mm_E2 _ _ _ _ _ [] h8 _ _
    refine me_aload_n (pc' := 65) (i := 0) dX10_load_64 rfl rfl rfl ?_
    refine me_getR (pc' := 68) (q' := 281) dX10_load_65 rfl fkX10_65 (mm_ks kd_0) (mm_ltq kd_0) rfl (mrX10_9 kd_0) ?_
    refine me_callV (As := []) (st := []) (F' := (mm_Sq (q.1, 1, q.2.2))) (G' := (mm_Sq (q.1, 1, q.2.2))) (F'' := (mm_Sq (q.1, 1, q.2.2))) (pc' := 71) dX10_load_68 rfl mfX6_empty rfl lkX10_127 (mm_ks kd_281) rfl (mm_ltq kd_281) ⟨Nat.le_of_ble_eq_true rfl, Nat.le_of_ble_eq_true rfl⟩ (Nat.le_of_ble_eq_true rfl) (fun z => z) (rX6_empty (q := (q.1, 1, q.2.2)) 281 h8 kd_281) (fun h10 e11 => Or.inl ⟨_, _, rfl, fun z => z, ?_⟩)
    show mm_E2 _ _ _ _ _ [] h10 _ _
    refine me_aload_n (pc' := 72) (i := 0) dX10_load_71 rfl rfl rfl ?_
    refine me_getR (pc' := 75) (q' := 90) dX10_load_72 rfl fkX10_58 (mm_ks kd_0) (mm_ltq kd_0) rfl (mrX10_8 kd_0) ?_
    refine me_callV (As := []) (st := []) (F' := (mm_Sq (q.1, 1, q.2.2))) (G' := (mm_Sq (q.1, 1, q.2.2))) (F'' := (mm_Sq (q.1, 1, q.2.2))) (pc' := 78) dX10_load_75 rfl mfX2_forget rfl lkX10_130 (mm_ks kd_90) rfl (mm_ltq kd_90) ⟨Nat.le_of_ble_eq_true rfl, Nat.le_of_ble_eq_true rfl⟩ (Nat.le_of_ble_eq_true rfl) (fun z => z) (rX2_forget (q := (q.1, 1, q.2.2)) h10 ) (fun h12 e13 => Or.inl ⟨_, _, rfl, fun z => z, ?_⟩)
    show mm_E2 _ _ _ _ _ [] h12 _ _
    refine me_aload_n (pc' := 79) (i := 0) dX10_load_78 rfl rfl rfl ?_
    refine me_getR (pc' := 82) (q' := 14) dX10_load_79 rfl fkX10_38 (mm_ks kd_0) (mm_ltq kd_0) rfl (mrX10_4 kd_0) ?_
    refine me_getI (pc' := 85) dX10_load_82 rfl fkX10_133 (mm_ks kd_14) (mm_ltq kd_14) rfl ?_
    exact me_iret dX10_load_85 rfl (fun z => z) rfl
  · exact me_throw dX10_load_32 dX10_load_35 dX10_load_36 dX10_load_38 dX10_load_41 rfl rfl (fun z => z) twX10_119 sr_6 (Nat.le_of_ble_eq_true rfl) (Nat.le_of_ble_eq_true rfl)
def gX10_productCount (h : mm_H) : Option Int32 :=
some ((mh_I h 14 0))
theorem rX10_productCount {q : mm_q} (h : mm_H) : mm_R2 (mm_Sq q) (mm_Sq q) mX10_productCount [.ref 0] h (gX10_productCount h) (lf_i h) := by
  refine mm_body (L := [some (.ref 0)]) rfl (by decide +kernel) (Nat.le_of_ble_eq_true rfl) rfl ?_
  unfold gX10_productCount
  refine me_aload_n (pc' := 1) (i := 0) dX10_productCount_0 rfl rfl rfl ?_
  refine me_getR (pc' := 4) (q' := 14) dX10_productCount_1 rfl fkX10_38 (mm_ks kd_0) (mm_ltq kd_0) rfl (mrX10_4 kd_0) ?_
  refine me_getI (pc' := 7) dX10_productCount_4 rfl fkX10_133 (mm_ks kd_14) (mm_ltq kd_14) rfl ?_
  exact me_iret dX10_productCount_7 rfl (fun z => z) rfl
def gX10_day (h : mm_H) : Option Int32 :=
some ((mh_I h 21 0))
theorem rX10_day {q : mm_q} (h : mm_H) : mm_R2 (mm_Sq q) (mm_Sq q) mX10_day [.ref 0] h (gX10_day h) (lf_i h) := by
  refine mm_body (L := [some (.ref 0)]) rfl (by decide +kernel) (Nat.le_of_ble_eq_true rfl) rfl ?_
  unfold gX10_day
  refine me_aload_n (pc' := 1) (i := 0) dX10_day_0 rfl rfl rfl ?_
  refine me_getR (pc' := 4) (q' := 21) dX10_day_1 rfl fkX10_45 (mm_ks kd_0) (mm_ltq kd_0) rfl (mrX10_5 kd_0) ?_
  refine me_getI (pc' := 7) dX10_day_4 rfl fkX10_142 (mm_ks kd_21) (mm_ltq kd_21) rfl ?_
  exact me_iret dX10_day_7 rfl (fun z => z) rfl
def gX10_checkProduct (p0 : Int32) (h : mm_H) : Option ((Unit ⊕ String) × mm_H) :=
(gX1_hasProduct 14 p0 h).bind (fun (x1 : Bool) =>
if x1 = true then
some (.inl (), h)
else
some (.inr "java/lang/IndexOutOfBoundsException", ms_X h))
theorem rX10_checkProduct {q : mm_q} (p0 : Int32) (h : mm_H) : mm_R2 (mm_Sq q) (mm_Sq q) mX10_checkProduct [.ref 0, .int p0] h (gX10_checkProduct p0 h) lf_vt := by
  refine mm_body (L := [some (.ref 0), some (.int p0)]) rfl (by decide +kernel) (Nat.le_of_ble_eq_true rfl) rfl ?_
  unfold gX10_checkProduct
  refine me_aload_n (pc' := 1) (i := 0) dX10_checkProduct_0 rfl rfl rfl ?_
  refine me_getR (pc' := 4) (q' := 14) dX10_checkProduct_1 rfl fkX10_38 (mm_ks kd_0) (mm_ltq kd_0) rfl (mrX10_4 kd_0) ?_
  refine me_iload_n (pc' := 5) (i := 1) dX10_checkProduct_4 rfl rfl rfl ?_
  refine me_callV (As := [.int p0]) (st := []) (F' := (mm_Sq q)) (G' := (mm_Sq q)) (F'' := (mm_Sq q)) (pc' := 8) dX10_checkProduct_5 rfl mfX1_hasProduct rfl lkX10_402 (mm_ks kd_14) rfl (mm_ltq kd_14) ⟨Nat.le_of_ble_eq_true rfl, Nat.le_of_ble_eq_true rfl⟩ (Nat.le_of_ble_eq_true rfl) (fun z => z) (rX1_hasProduct (q := q) 14 p0 h kd_14) (fun x1 e2 => Or.inl ⟨_, _, rfl, fun z => z, ?_⟩)
  show mm_E2 _ _ _ _ _ [.int (mx_bi x1)] h _ _
  refine me_ifB_ne (pc' := 11) (tgt := 22) dX10_checkProduct_8 (by decide) rfl (fun c3 => ?_) (fun c3 => ?_)
  · exact me_vret dX10_checkProduct_22 rfl (fun z => z) rfl
  · exact me_throwW dX10_checkProduct_11 dX10_checkProduct_14 dX10_checkProduct_15 dX10_checkProduct_18 dX10_checkProduct_21 rfl rfl (fun z => z) twX10_166 sr_8 (Nat.le_of_ble_eq_true rfl) (Nat.le_of_ble_eq_true rfl)
def gX10_availableOn (p0 : Int32) (p1 : Int32) (h : mm_H) : Option ((Int32 ⊕ String) × mm_H) :=
(gX10_checkProduct p0 h).bind (fun (x1 : ((Unit ⊕ String) × mm_H)) => match x1 with
| (.inl _, h4) =>
(gX10_checkRange p1 0 9999 h4).bind (fun (x6 : ((Unit ⊕ String) × mm_H)) => match x6 with
| (.inl _, h9) =>
(gX7_availableUnits 21 p0 p1 h9).bind (fun (x11 : Int32) =>
some (.inl x11, h9))
| (.inr E10, h9) => some (.inr E10, h9))
| (.inr E5, h4) => some (.inr E5, h4))
theorem rX10_availableOn {q : mm_q} (p0 : Int32) (p1 : Int32) (h : mm_H) : mm_R2 (mm_Sq q) (mm_Sq q) mX10_availableOn [.ref 0, .int p0, .int p1] h (gX10_availableOn p0 p1 h) lf_it := by
  refine mm_body (L := [some (.ref 0), some (.int p0), some (.int p1)]) rfl (by decide +kernel) (Nat.le_of_ble_eq_true rfl) rfl ?_
  unfold gX10_availableOn
  refine me_aload_n (pc' := 1) (i := 0) dX10_availableOn_0 rfl rfl rfl ?_
  refine me_iload_n (pc' := 2) (i := 1) dX10_availableOn_1 rfl rfl rfl ?_
  refine me_callV (As := [.int p0]) (st := []) (F' := (mm_Sq q)) (G' := (mm_Sq q)) (F'' := (mm_Sq q)) (pc' := 5) dX10_availableOn_2 rfl mfX10_checkProduct rfl lkX10_145 (mm_ks kd_0) rfl (mm_ltq kd_0) ⟨Nat.le_of_ble_eq_true rfl, Nat.le_of_ble_eq_true rfl⟩ (Nat.le_of_ble_eq_true rfl) (fun z => z) (rX10_checkProduct (q := q) p0 h ) (fun x1 e2 => ?_)
  rcases x1 with ⟨v3 | E5, h4⟩
  · refine Or.inl ⟨_, _, rfl, fun z => z, ?_⟩
    show mm_E2 _ _ _ _ _ [] h4 _ _
    try dsimp only
    refine me_iload_n (pc' := 6) (i := 2) dX10_availableOn_5 rfl rfl rfl ?_
    refine me_iconst (pc' := 7) (v := 0) dX10_availableOn_6 rfl kc_i0 ?_
    refine me_sipush (pc' := 10) (v := 9999) dX10_availableOn_7 rfl kc_s9999 ?_
    refine me_callS (As := [.int p1, .int 0, .int 9999]) (st := []) (F' := (mm_Sq q)) (G' := (mm_Sq q)) (F'' := (mm_Sq q)) (pc' := 13) dX10_availableOn_10 rfl mfX10_checkRange rfl lkX10_104 ⟨Nat.le_of_ble_eq_true rfl, Nat.le_of_ble_eq_true rfl⟩ (Nat.le_of_ble_eq_true rfl) (fun z => z) (rX10_checkRange (q := q) p1 0 9999 h4 ) (fun x6 e7 => ?_)
    rcases x6 with ⟨v8 | E10, h9⟩
    · refine Or.inl ⟨_, _, rfl, fun z => z, ?_⟩
      show mm_E2 _ _ _ _ _ [] h9 _ _
      try dsimp only
      refine me_aload_n (pc' := 14) (i := 0) dX10_availableOn_13 rfl rfl rfl ?_
      refine me_getR (pc' := 17) (q' := 21) dX10_availableOn_14 rfl fkX10_45 (mm_ks kd_0) (mm_ltq kd_0) rfl (mrX10_5 kd_0) ?_
      refine me_iload_n (pc' := 18) (i := 1) dX10_availableOn_17 rfl rfl rfl ?_
      refine me_iload_n (pc' := 19) (i := 2) dX10_availableOn_18 rfl rfl rfl ?_
      refine me_callV (As := [.int p0, .int p1]) (st := []) (F' := (mm_Sq q)) (G' := (mm_Sq q)) (F'' := (mm_Sq q)) (pc' := 22) dX10_availableOn_19 rfl mfX7_availableUnits rfl lkX10_189 (mm_ks kd_21) rfl (mm_ltq kd_21) ⟨Nat.le_of_ble_eq_true rfl, Nat.le_of_ble_eq_true rfl⟩ (Nat.le_of_ble_eq_true rfl) (fun z => z) (rX7_availableUnits (q := q) 21 p0 p1 h9 kd_21) (fun x11 e12 => Or.inl ⟨_, _, rfl, fun z => z, ?_⟩)
      show mm_E2 _ _ _ _ _ [.int x11] h9 _ _
      exact me_iret dX10_availableOn_22 rfl (fun z => z) rfl
    · exact Or.inr ⟨_, _, rfl, rfl, fun z => z, fun y9 hy9 => by rw [← Option.some.inj hy9]; rfl⟩
  · exact Or.inr ⟨_, _, rfl, rfl, fun z => z, fun y9 hy9 => by rw [← Option.some.inj hy9]; rfl⟩
def gX10_batchCount (h : mm_H) : Option Int32 :=
some ((mh_I h 21 1))
theorem rX10_batchCount {q : mm_q} (h : mm_H) : mm_R2 (mm_Sq q) (mm_Sq q) mX10_batchCount [.ref 0] h (gX10_batchCount h) (lf_i h) := by
  refine mm_body (L := [some (.ref 0)]) rfl (by decide +kernel) (Nat.le_of_ble_eq_true rfl) rfl ?_
  unfold gX10_batchCount
  refine me_aload_n (pc' := 1) (i := 0) dX10_batchCount_0 rfl rfl rfl ?_
  refine me_getR (pc' := 4) (q' := 21) dX10_batchCount_1 rfl fkX10_45 (mm_ks kd_0) (mm_ltq kd_0) rfl (mrX10_5 kd_0) ?_
  refine me_getI (pc' := 7) dX10_batchCount_4 rfl fkX10_202 (mm_ks kd_21) (mm_ltq kd_21) rfl ?_
  exact me_iret dX10_batchCount_7 rfl (fun z => z) rfl
def gX10_checkBatch (p0 : Int32) (h : mm_H) : Option ((Unit ⊕ String) × mm_H) :=
(gX7_hasBatch 21 p0 h).bind (fun (x1 : Bool) =>
if x1 = true then
some (.inl (), h)
else
some (.inr "java/lang/IndexOutOfBoundsException", ms_X h))
theorem rX10_checkBatch {q : mm_q} (p0 : Int32) (h : mm_H) : mm_R2 (mm_Sq q) (mm_Sq q) mX10_checkBatch [.ref 0, .int p0] h (gX10_checkBatch p0 h) lf_vt := by
  refine mm_body (L := [some (.ref 0), some (.int p0)]) rfl (by decide +kernel) (Nat.le_of_ble_eq_true rfl) rfl ?_
  unfold gX10_checkBatch
  refine me_aload_n (pc' := 1) (i := 0) dX10_checkBatch_0 rfl rfl rfl ?_
  refine me_getR (pc' := 4) (q' := 21) dX10_checkBatch_1 rfl fkX10_45 (mm_ks kd_0) (mm_ltq kd_0) rfl (mrX10_5 kd_0) ?_
  refine me_iload_n (pc' := 5) (i := 1) dX10_checkBatch_4 rfl rfl rfl ?_
  refine me_callV (As := [.int p0]) (st := []) (F' := (mm_Sq q)) (G' := (mm_Sq q)) (F'' := (mm_Sq q)) (pc' := 8) dX10_checkBatch_5 rfl mfX7_hasBatch rfl lkX10_407 (mm_ks kd_21) rfl (mm_ltq kd_21) ⟨Nat.le_of_ble_eq_true rfl, Nat.le_of_ble_eq_true rfl⟩ (Nat.le_of_ble_eq_true rfl) (fun z => z) (rX7_hasBatch (q := q) 21 p0 h kd_21) (fun x1 e2 => Or.inl ⟨_, _, rfl, fun z => z, ?_⟩)
  show mm_E2 _ _ _ _ _ [.int (mx_bi x1)] h _ _
  refine me_ifB_ne (pc' := 11) (tgt := 22) dX10_checkBatch_8 (by decide) rfl (fun c3 => ?_) (fun c3 => ?_)
  · exact me_vret dX10_checkBatch_22 rfl (fun z => z) rfl
  · exact me_throwW dX10_checkBatch_11 dX10_checkBatch_14 dX10_checkBatch_15 dX10_checkBatch_18 dX10_checkBatch_21 rfl rfl (fun z => z) twX10_166 sr_7 (Nat.le_of_ble_eq_true rfl) (Nat.le_of_ble_eq_true rfl)
def gX10_productOf (p0 : Int32) (h : mm_H) : Option ((Int32 ⊕ String) × mm_H) :=
(gX10_checkBatch p0 h).bind (fun (x1 : ((Unit ⊕ String) × mm_H)) => match x1 with
| (.inl _, h4) =>
(gX4_get 22 p0 h4).bind (fun (x6 : Int32) =>
some (.inl x6, h4))
| (.inr E5, h4) => some (.inr E5, h4))
theorem rX10_productOf {q : mm_q} (p0 : Int32) (h : mm_H) : mm_R2 (mm_Sq q) (mm_Sq q) mX10_productOf [.ref 0, .int p0] h (gX10_productOf p0 h) lf_it := by
  refine mm_body (L := [some (.ref 0), some (.int p0)]) rfl (by decide +kernel) (Nat.le_of_ble_eq_true rfl) rfl ?_
  unfold gX10_productOf
  refine me_aload_n (pc' := 1) (i := 0) dX10_productOf_0 rfl rfl rfl ?_
  refine me_iload_n (pc' := 2) (i := 1) dX10_productOf_1 rfl rfl rfl ?_
  refine me_callV (As := [.int p0]) (st := []) (F' := (mm_Sq q)) (G' := (mm_Sq q)) (F'' := (mm_Sq q)) (pc' := 5) dX10_productOf_2 rfl mfX10_checkBatch rfl lkX10_205 (mm_ks kd_0) rfl (mm_ltq kd_0) ⟨Nat.le_of_ble_eq_true rfl, Nat.le_of_ble_eq_true rfl⟩ (Nat.le_of_ble_eq_true rfl) (fun z => z) (rX10_checkBatch (q := q) p0 h ) (fun x1 e2 => ?_)
  rcases x1 with ⟨v3 | E5, h4⟩
  · refine Or.inl ⟨_, _, rfl, fun z => z, ?_⟩
    show mm_E2 _ _ _ _ _ [] h4 _ _
    try dsimp only
    refine me_aload_n (pc' := 6) (i := 0) dX10_productOf_5 rfl rfl rfl ?_
    refine me_getR (pc' := 9) (q' := 21) dX10_productOf_6 rfl fkX10_45 (mm_ks kd_0) (mm_ltq kd_0) rfl (mrX10_5 kd_0) ?_
    refine me_getR (pc' := 12) (q' := 22) dX10_productOf_9 rfl fkX10_208 (mm_ks kd_21) (mm_ltq kd_21) rfl (mrX7_2 kd_21) ?_
    refine me_iload_n (pc' := 13) (i := 1) dX10_productOf_12 rfl rfl rfl ?_
    refine me_callV (As := [.int p0]) (st := []) (F' := (mm_Sq q)) (G' := (mm_Sq q)) (F'' := (mm_Sq q)) (pc' := 16) dX10_productOf_13 rfl mfX4_get rfl lkX10_152 (mm_ks kd_22) rfl (mm_ltq kd_22) ⟨Nat.le_of_ble_eq_true rfl, Nat.le_of_ble_eq_true rfl⟩ (Nat.le_of_ble_eq_true rfl) (fun z => z) (rX4_get (q := q) 22 p0 h4 kd_22) (fun x6 e7 => Or.inl ⟨_, _, rfl, fun z => z, ?_⟩)
    show mm_E2 _ _ _ _ _ [.int x6] h4 _ _
    exact me_iret dX10_productOf_16 rfl (fun z => z) rfl
  · exact Or.inr ⟨_, _, rfl, rfl, fun z => z, fun y9 hy9 => by rw [← Option.some.inj hy9]; rfl⟩
def gX10_quantity (p0 : Int32) (h : mm_H) : Option ((Int32 ⊕ String) × mm_H) :=
(gX10_checkBatch p0 h).bind (fun (x1 : ((Unit ⊕ String) × mm_H)) => match x1 with
| (.inl _, h4) =>
(gX4_get 24 p0 h4).bind (fun (x6 : Int32) =>
some (.inl x6, h4))
| (.inr E5, h4) => some (.inr E5, h4))
theorem rX10_quantity {q : mm_q} (p0 : Int32) (h : mm_H) : mm_R2 (mm_Sq q) (mm_Sq q) mX10_quantity [.ref 0, .int p0] h (gX10_quantity p0 h) lf_it := by
  refine mm_body (L := [some (.ref 0), some (.int p0)]) rfl (by decide +kernel) (Nat.le_of_ble_eq_true rfl) rfl ?_
  unfold gX10_quantity
  refine me_aload_n (pc' := 1) (i := 0) dX10_quantity_0 rfl rfl rfl ?_
  refine me_iload_n (pc' := 2) (i := 1) dX10_quantity_1 rfl rfl rfl ?_
  refine me_callV (As := [.int p0]) (st := []) (F' := (mm_Sq q)) (G' := (mm_Sq q)) (F'' := (mm_Sq q)) (pc' := 5) dX10_quantity_2 rfl mfX10_checkBatch rfl lkX10_205 (mm_ks kd_0) rfl (mm_ltq kd_0) ⟨Nat.le_of_ble_eq_true rfl, Nat.le_of_ble_eq_true rfl⟩ (Nat.le_of_ble_eq_true rfl) (fun z => z) (rX10_checkBatch (q := q) p0 h ) (fun x1 e2 => ?_)
  rcases x1 with ⟨v3 | E5, h4⟩
  · refine Or.inl ⟨_, _, rfl, fun z => z, ?_⟩
    show mm_E2 _ _ _ _ _ [] h4 _ _
    try dsimp only
    refine me_aload_n (pc' := 6) (i := 0) dX10_quantity_5 rfl rfl rfl ?_
    refine me_getR (pc' := 9) (q' := 21) dX10_quantity_6 rfl fkX10_45 (mm_ks kd_0) (mm_ltq kd_0) rfl (mrX10_5 kd_0) ?_
    refine me_getR (pc' := 12) (q' := 24) dX10_quantity_9 rfl fkX10_211 (mm_ks kd_21) (mm_ltq kd_21) rfl (mrX7_3 kd_21) ?_
    refine me_iload_n (pc' := 13) (i := 1) dX10_quantity_12 rfl rfl rfl ?_
    refine me_callV (As := [.int p0]) (st := []) (F' := (mm_Sq q)) (G' := (mm_Sq q)) (F'' := (mm_Sq q)) (pc' := 16) dX10_quantity_13 rfl mfX4_get rfl lkX10_152 (mm_ks kd_24) rfl (mm_ltq kd_24) ⟨Nat.le_of_ble_eq_true rfl, Nat.le_of_ble_eq_true rfl⟩ (Nat.le_of_ble_eq_true rfl) (fun z => z) (rX4_get (q := q) 24 p0 h4 kd_24) (fun x6 e7 => Or.inl ⟨_, _, rfl, fun z => z, ?_⟩)
    show mm_E2 _ _ _ _ _ [.int x6] h4 _ _
    exact me_iret dX10_quantity_16 rfl (fun z => z) rfl
  · exact Or.inr ⟨_, _, rfl, rfl, fun z => z, fun y9 hy9 => by rw [← Option.some.inj hy9]; rfl⟩
def gX10_reservedOf (p0 : Int32) (h : mm_H) : Option ((Int32 ⊕ String) × mm_H) :=
(gX10_checkBatch p0 h).bind (fun (x1 : ((Unit ⊕ String) × mm_H)) => match x1 with
| (.inl _, h4) =>
(gX4_get 26 p0 h4).bind (fun (x6 : Int32) =>
some (.inl x6, h4))
| (.inr E5, h4) => some (.inr E5, h4))
theorem rX10_reservedOf {q : mm_q} (p0 : Int32) (h : mm_H) : mm_R2 (mm_Sq q) (mm_Sq q) mX10_reservedOf [.ref 0, .int p0] h (gX10_reservedOf p0 h) lf_it := by
  refine mm_body (L := [some (.ref 0), some (.int p0)]) rfl (by decide +kernel) (Nat.le_of_ble_eq_true rfl) rfl ?_
  unfold gX10_reservedOf
  refine me_aload_n (pc' := 1) (i := 0) dX10_reservedOf_0 rfl rfl rfl ?_
  refine me_iload_n (pc' := 2) (i := 1) dX10_reservedOf_1 rfl rfl rfl ?_
  refine me_callV (As := [.int p0]) (st := []) (F' := (mm_Sq q)) (G' := (mm_Sq q)) (F'' := (mm_Sq q)) (pc' := 5) dX10_reservedOf_2 rfl mfX10_checkBatch rfl lkX10_205 (mm_ks kd_0) rfl (mm_ltq kd_0) ⟨Nat.le_of_ble_eq_true rfl, Nat.le_of_ble_eq_true rfl⟩ (Nat.le_of_ble_eq_true rfl) (fun z => z) (rX10_checkBatch (q := q) p0 h ) (fun x1 e2 => ?_)
  rcases x1 with ⟨v3 | E5, h4⟩
  · refine Or.inl ⟨_, _, rfl, fun z => z, ?_⟩
    show mm_E2 _ _ _ _ _ [] h4 _ _
    try dsimp only
    refine me_aload_n (pc' := 6) (i := 0) dX10_reservedOf_5 rfl rfl rfl ?_
    refine me_getR (pc' := 9) (q' := 21) dX10_reservedOf_6 rfl fkX10_45 (mm_ks kd_0) (mm_ltq kd_0) rfl (mrX10_5 kd_0) ?_
    refine me_getR (pc' := 12) (q' := 26) dX10_reservedOf_9 rfl fkX10_214 (mm_ks kd_21) (mm_ltq kd_21) rfl (mrX7_4 kd_21) ?_
    refine me_iload_n (pc' := 13) (i := 1) dX10_reservedOf_12 rfl rfl rfl ?_
    refine me_callV (As := [.int p0]) (st := []) (F' := (mm_Sq q)) (G' := (mm_Sq q)) (F'' := (mm_Sq q)) (pc' := 16) dX10_reservedOf_13 rfl mfX4_get rfl lkX10_152 (mm_ks kd_26) rfl (mm_ltq kd_26) ⟨Nat.le_of_ble_eq_true rfl, Nat.le_of_ble_eq_true rfl⟩ (Nat.le_of_ble_eq_true rfl) (fun z => z) (rX4_get (q := q) 26 p0 h4 kd_26) (fun x6 e7 => Or.inl ⟨_, _, rfl, fun z => z, ?_⟩)
    show mm_E2 _ _ _ _ _ [.int x6] h4 _ _
    exact me_iret dX10_reservedOf_16 rfl (fun z => z) rfl
  · exact Or.inr ⟨_, _, rfl, rfl, fun z => z, fun y9 hy9 => by rw [← Option.some.inj hy9]; rfl⟩
def gX10_expiryDay (p0 : Int32) (h : mm_H) : Option ((Int32 ⊕ String) × mm_H) :=
(gX10_checkBatch p0 h).bind (fun (x1 : ((Unit ⊕ String) × mm_H)) => match x1 with
| (.inl _, h4) =>
(gX4_get 28 p0 h4).bind (fun (x6 : Int32) =>
some (.inl x6, h4))
| (.inr E5, h4) => some (.inr E5, h4))
theorem rX10_expiryDay {q : mm_q} (p0 : Int32) (h : mm_H) : mm_R2 (mm_Sq q) (mm_Sq q) mX10_expiryDay [.ref 0, .int p0] h (gX10_expiryDay p0 h) lf_it := by
  refine mm_body (L := [some (.ref 0), some (.int p0)]) rfl (by decide +kernel) (Nat.le_of_ble_eq_true rfl) rfl ?_
  unfold gX10_expiryDay
  refine me_aload_n (pc' := 1) (i := 0) dX10_expiryDay_0 rfl rfl rfl ?_
  refine me_iload_n (pc' := 2) (i := 1) dX10_expiryDay_1 rfl rfl rfl ?_
  refine me_callV (As := [.int p0]) (st := []) (F' := (mm_Sq q)) (G' := (mm_Sq q)) (F'' := (mm_Sq q)) (pc' := 5) dX10_expiryDay_2 rfl mfX10_checkBatch rfl lkX10_205 (mm_ks kd_0) rfl (mm_ltq kd_0) ⟨Nat.le_of_ble_eq_true rfl, Nat.le_of_ble_eq_true rfl⟩ (Nat.le_of_ble_eq_true rfl) (fun z => z) (rX10_checkBatch (q := q) p0 h ) (fun x1 e2 => ?_)
  rcases x1 with ⟨v3 | E5, h4⟩
  · refine Or.inl ⟨_, _, rfl, fun z => z, ?_⟩
    show mm_E2 _ _ _ _ _ [] h4 _ _
    try dsimp only
    refine me_aload_n (pc' := 6) (i := 0) dX10_expiryDay_5 rfl rfl rfl ?_
    refine me_getR (pc' := 9) (q' := 21) dX10_expiryDay_6 rfl fkX10_45 (mm_ks kd_0) (mm_ltq kd_0) rfl (mrX10_5 kd_0) ?_
    refine me_getR (pc' := 12) (q' := 28) dX10_expiryDay_9 rfl fkX10_217 (mm_ks kd_21) (mm_ltq kd_21) rfl (mrX7_5 kd_21) ?_
    refine me_iload_n (pc' := 13) (i := 1) dX10_expiryDay_12 rfl rfl rfl ?_
    refine me_callV (As := [.int p0]) (st := []) (F' := (mm_Sq q)) (G' := (mm_Sq q)) (F'' := (mm_Sq q)) (pc' := 16) dX10_expiryDay_13 rfl mfX4_get rfl lkX10_152 (mm_ks kd_28) rfl (mm_ltq kd_28) ⟨Nat.le_of_ble_eq_true rfl, Nat.le_of_ble_eq_true rfl⟩ (Nat.le_of_ble_eq_true rfl) (fun z => z) (rX4_get (q := q) 28 p0 h4 kd_28) (fun x6 e7 => Or.inl ⟨_, _, rfl, fun z => z, ?_⟩)
    show mm_E2 _ _ _ _ _ [.int x6] h4 _ _
    exact me_iret dX10_expiryDay_16 rfl (fun z => z) rfl
  · exact Or.inr ⟨_, _, rfl, rfl, fun z => z, fun y9 hy9 => by rw [← Option.some.inj hy9]; rfl⟩
def gX10_unitCost (p0 : Int32) (h : mm_H) : Option ((Int32 ⊕ String) × mm_H) :=
(gX10_checkBatch p0 h).bind (fun (x1 : ((Unit ⊕ String) × mm_H)) => match x1 with
| (.inl _, h4) =>
(gX4_get 30 p0 h4).bind (fun (x6 : Int32) =>
some (.inl x6, h4))
| (.inr E5, h4) => some (.inr E5, h4))
theorem rX10_unitCost {q : mm_q} (p0 : Int32) (h : mm_H) : mm_R2 (mm_Sq q) (mm_Sq q) mX10_unitCost [.ref 0, .int p0] h (gX10_unitCost p0 h) lf_it := by
  refine mm_body (L := [some (.ref 0), some (.int p0)]) rfl (by decide +kernel) (Nat.le_of_ble_eq_true rfl) rfl ?_
  unfold gX10_unitCost
  refine me_aload_n (pc' := 1) (i := 0) dX10_unitCost_0 rfl rfl rfl ?_
  refine me_iload_n (pc' := 2) (i := 1) dX10_unitCost_1 rfl rfl rfl ?_
  refine me_callV (As := [.int p0]) (st := []) (F' := (mm_Sq q)) (G' := (mm_Sq q)) (F'' := (mm_Sq q)) (pc' := 5) dX10_unitCost_2 rfl mfX10_checkBatch rfl lkX10_205 (mm_ks kd_0) rfl (mm_ltq kd_0) ⟨Nat.le_of_ble_eq_true rfl, Nat.le_of_ble_eq_true rfl⟩ (Nat.le_of_ble_eq_true rfl) (fun z => z) (rX10_checkBatch (q := q) p0 h ) (fun x1 e2 => ?_)
  rcases x1 with ⟨v3 | E5, h4⟩
  · refine Or.inl ⟨_, _, rfl, fun z => z, ?_⟩
    show mm_E2 _ _ _ _ _ [] h4 _ _
    try dsimp only
    refine me_aload_n (pc' := 6) (i := 0) dX10_unitCost_5 rfl rfl rfl ?_
    refine me_getR (pc' := 9) (q' := 21) dX10_unitCost_6 rfl fkX10_45 (mm_ks kd_0) (mm_ltq kd_0) rfl (mrX10_5 kd_0) ?_
    refine me_getR (pc' := 12) (q' := 30) dX10_unitCost_9 rfl fkX10_220 (mm_ks kd_21) (mm_ltq kd_21) rfl (mrX7_6 kd_21) ?_
    refine me_iload_n (pc' := 13) (i := 1) dX10_unitCost_12 rfl rfl rfl ?_
    refine me_callV (As := [.int p0]) (st := []) (F' := (mm_Sq q)) (G' := (mm_Sq q)) (F'' := (mm_Sq q)) (pc' := 16) dX10_unitCost_13 rfl mfX4_get rfl lkX10_152 (mm_ks kd_30) rfl (mm_ltq kd_30) ⟨Nat.le_of_ble_eq_true rfl, Nat.le_of_ble_eq_true rfl⟩ (Nat.le_of_ble_eq_true rfl) (fun z => z) (rX4_get (q := q) 30 p0 h4 kd_30) (fun x6 e7 => Or.inl ⟨_, _, rfl, fun z => z, ?_⟩)
    show mm_E2 _ _ _ _ _ [.int x6] h4 _ _
    exact me_iret dX10_unitCost_16 rfl (fun z => z) rfl
  · exact Or.inr ⟨_, _, rfl, rfl, fun z => z, fun y9 hy9 => by rw [← Option.some.inj hy9]; rfl⟩
def gX10_costOfIssue (p0 : Int32) (p1 : Int32) (h : mm_H) : Option ((Int32 ⊕ String) × mm_H) :=
(gX10_checkProduct p0 h).bind (fun (x1 : ((Unit ⊕ String) × mm_H)) => match x1 with
| (.inl _, h4) =>
(gX10_checkRange p1 1 9999 h4).bind (fun (x6 : ((Unit ⊕ String) × mm_H)) => match x6 with
| (.inl _, h9) =>
(gX7_availableUnits 21 p0 ((mh_I h9 21 0)) h9).bind (fun (x11 : Int32) =>
if x11 < p1 then
some (.inl (-1), h9)
else
(gX7_collectIssueOrder 21 p0 ((mh_I h9 21 0)) h9).bind (fun (h14 : mm_H) =>
(gX7_costOfTaking 21 p1 h14).bind (fun (x16 : Int32) =>
some (.inl x16, h14))))
| (.inr E10, h9) => some (.inr E10, h9))
| (.inr E5, h4) => some (.inr E5, h4))
theorem rX10_costOfIssue {q : mm_q} (p0 : Int32) (p1 : Int32) (h : mm_H) : mm_R2 (mm_Sq q) (mm_Sq q) mX10_costOfIssue [.ref 0, .int p0, .int p1] h (gX10_costOfIssue p0 p1 h) lf_it := by
  refine mm_body (L := [some (.ref 0), some (.int p0), some (.int p1)]) rfl (by decide +kernel) (Nat.le_of_ble_eq_true rfl) rfl ?_
  unfold gX10_costOfIssue
  refine me_aload_n (pc' := 1) (i := 0) dX10_costOfIssue_0 rfl rfl rfl ?_
  refine me_iload_n (pc' := 2) (i := 1) dX10_costOfIssue_1 rfl rfl rfl ?_
  refine me_callV (As := [.int p0]) (st := []) (F' := (mm_Sq q)) (G' := (mm_Sq q)) (F'' := (mm_Sq q)) (pc' := 5) dX10_costOfIssue_2 rfl mfX10_checkProduct rfl lkX10_145 (mm_ks kd_0) rfl (mm_ltq kd_0) ⟨Nat.le_of_ble_eq_true rfl, Nat.le_of_ble_eq_true rfl⟩ (Nat.le_of_ble_eq_true rfl) (fun z => z) (rX10_checkProduct (q := q) p0 h ) (fun x1 e2 => ?_)
  rcases x1 with ⟨v3 | E5, h4⟩
  · refine Or.inl ⟨_, _, rfl, fun z => z, ?_⟩
    show mm_E2 _ _ _ _ _ [] h4 _ _
    try dsimp only
    refine me_iload_n (pc' := 6) (i := 2) dX10_costOfIssue_5 rfl rfl rfl ?_
    refine me_iconst (pc' := 7) (v := 1) dX10_costOfIssue_6 rfl kc_i1 ?_
    refine me_sipush (pc' := 10) (v := 9999) dX10_costOfIssue_7 rfl kc_s9999 ?_
    refine me_callS (As := [.int p1, .int 1, .int 9999]) (st := []) (F' := (mm_Sq q)) (G' := (mm_Sq q)) (F'' := (mm_Sq q)) (pc' := 13) dX10_costOfIssue_10 rfl mfX10_checkRange rfl lkX10_104 ⟨Nat.le_of_ble_eq_true rfl, Nat.le_of_ble_eq_true rfl⟩ (Nat.le_of_ble_eq_true rfl) (fun z => z) (rX10_checkRange (q := q) p1 1 9999 h4 ) (fun x6 e7 => ?_)
    rcases x6 with ⟨v8 | E10, h9⟩
    · refine Or.inl ⟨_, _, rfl, fun z => z, ?_⟩
      show mm_E2 _ _ _ _ _ [] h9 _ _
      try dsimp only
      refine me_aload_n (pc' := 14) (i := 0) dX10_costOfIssue_13 rfl rfl rfl ?_
      refine me_getR (pc' := 17) (q' := 21) dX10_costOfIssue_14 rfl fkX10_45 (mm_ks kd_0) (mm_ltq kd_0) rfl (mrX10_5 kd_0) ?_
      refine me_iload_n (pc' := 18) (i := 1) dX10_costOfIssue_17 rfl rfl rfl ?_
      refine me_aload_n (pc' := 19) (i := 0) dX10_costOfIssue_18 rfl rfl rfl ?_
      refine me_getR (pc' := 22) (q' := 21) dX10_costOfIssue_19 rfl fkX10_45 (mm_ks kd_0) (mm_ltq kd_0) rfl (mrX10_5 kd_0) ?_
      refine me_getI (pc' := 25) dX10_costOfIssue_22 rfl fkX10_142 (mm_ks kd_21) (mm_ltq kd_21) rfl ?_
      refine me_callV (As := [.int p0, .int (mh_I h9 21 0)]) (st := []) (F' := (mm_Sq q)) (G' := (mm_Sq q)) (F'' := (mm_Sq q)) (pc' := 28) dX10_costOfIssue_25 rfl mfX7_availableUnits rfl lkX10_189 (mm_ks kd_21) rfl (mm_ltq kd_21) ⟨Nat.le_of_ble_eq_true rfl, Nat.le_of_ble_eq_true rfl⟩ (Nat.le_of_ble_eq_true rfl) (fun z => z) (rX7_availableUnits (q := q) 21 p0 ((mh_I h9 21 0)) h9 kd_21) (fun x11 e12 => Or.inl ⟨_, _, rfl, fun z => z, ?_⟩)
      show mm_E2 _ _ _ _ _ [.int x11] h9 _ _
      refine me_iload_n (pc' := 29) (i := 2) dX10_costOfIssue_28 rfl rfl rfl ?_
      refine me_icmp_ge (pc' := 32) (tgt := 34) dX10_costOfIssue_29 (by decide) rfl (fun c13 => ?_) (fun c13 => ?_)
      · refine me_aload_n (pc' := 35) (i := 0) dX10_costOfIssue_34 rfl rfl rfl ?_
        refine me_getR (pc' := 38) (q' := 21) dX10_costOfIssue_35 rfl fkX10_45 (mm_ks kd_0) (mm_ltq kd_0) rfl (mrX10_5 kd_0) ?_
        refine me_aload_n (pc' := 39) (i := 0) dX10_costOfIssue_38 rfl rfl rfl ?_
        refine me_getR (pc' := 42) (q' := 347) dX10_costOfIssue_39 rfl fkX10_72 (mm_ks kd_0) (mm_ltq kd_0) rfl (mrX10_10 kd_0) ?_
        refine me_iload_n (pc' := 43) (i := 1) dX10_costOfIssue_42 rfl rfl rfl ?_
        refine me_aload_n (pc' := 44) (i := 0) dX10_costOfIssue_43 rfl rfl rfl ?_
        refine me_getR (pc' := 47) (q' := 21) dX10_costOfIssue_44 rfl fkX10_45 (mm_ks kd_0) (mm_ltq kd_0) rfl (mrX10_5 kd_0) ?_
        refine me_getI (pc' := 50) dX10_costOfIssue_47 rfl fkX10_142 (mm_ks kd_21) (mm_ltq kd_21) rfl ?_
        refine me_callV (As := [.ref 347, .int p0, .int (mh_I h9 21 0)]) (st := []) (F' := (mm_Sq q)) (G' := (mm_Sq q)) (F'' := (mm_Sq q)) (pc' := 53) dX10_costOfIssue_50 rfl mfX7_collectIssueOrder rfl lkX10_227 (mm_ks kd_21) rfl (mm_ltq kd_21) ⟨Nat.le_of_ble_eq_true rfl, Nat.le_of_ble_eq_true rfl⟩ (Nat.le_of_ble_eq_true rfl) (fun z => z) (rX7_collectIssueOrder (q := q) 21 p0 ((mh_I h9 21 0)) h9 kd_21) (fun h14 e15 => Or.inl ⟨_, _, rfl, fun z => z, ?_⟩)
        show mm_E2 _ _ _ _ _ [] h14 _ _
        refine me_aload_n (pc' := 54) (i := 0) dX10_costOfIssue_53 rfl rfl rfl ?_
        refine me_getR (pc' := 57) (q' := 21) dX10_costOfIssue_54 rfl fkX10_45 (mm_ks kd_0) (mm_ltq kd_0) rfl (mrX10_5 kd_0) ?_
        refine me_aload_n (pc' := 58) (i := 0) dX10_costOfIssue_57 rfl rfl rfl ?_
        refine me_getR (pc' := 61) (q' := 347) dX10_costOfIssue_58 rfl fkX10_72 (mm_ks kd_0) (mm_ltq kd_0) rfl (mrX10_10 kd_0) ?_
        refine me_iload_n (pc' := 62) (i := 2) dX10_costOfIssue_61 rfl rfl rfl ?_
        refine me_callV (As := [.ref 347, .int p1]) (st := []) (F' := (mm_Sq q)) (G' := (mm_Sq q)) (F'' := (mm_Sq q)) (pc' := 65) dX10_costOfIssue_62 rfl mfX7_costOfTaking rfl lkX10_236 (mm_ks kd_21) rfl (mm_ltq kd_21) ⟨Nat.le_of_ble_eq_true rfl, Nat.le_of_ble_eq_true rfl⟩ (Nat.le_of_ble_eq_true rfl) (fun z => z) (rX7_costOfTaking (q := q) 21 p1 h14 kd_21) (fun x16 e17 => Or.inl ⟨_, _, rfl, fun z => z, ?_⟩)
        show mm_E2 _ _ _ _ _ [.int x16] h14 _ _
        exact me_iret dX10_costOfIssue_65 rfl (fun z => z) rfl
      · refine me_iconst (pc' := 33) (v := (-1)) dX10_costOfIssue_32 rfl kc_im1 ?_
        exact me_iret dX10_costOfIssue_33 rfl (fun z => z) rfl
    · exact Or.inr ⟨_, _, rfl, rfl, fun z => z, fun y9 hy9 => by rw [← Option.some.inj hy9]; rfl⟩
  · exact Or.inr ⟨_, _, rfl, rfl, fun z => z, fun y9 hy9 => by rw [← Option.some.inj hy9]; rfl⟩
def gX10_reservationCount (h : mm_H) : Option Int32 :=
some ((mh_I h 21 7))
theorem rX10_reservationCount {q : mm_q} (h : mm_H) : mm_R2 (mm_Sq q) (mm_Sq q) mX10_reservationCount [.ref 0] h (gX10_reservationCount h) (lf_i h) := by
  refine mm_body (L := [some (.ref 0)]) rfl (by decide +kernel) (Nat.le_of_ble_eq_true rfl) rfl ?_
  unfold gX10_reservationCount
  refine me_aload_n (pc' := 1) (i := 0) dX10_reservationCount_0 rfl rfl rfl ?_
  refine me_getR (pc' := 4) (q' := 21) dX10_reservationCount_1 rfl fkX10_45 (mm_ks kd_0) (mm_ltq kd_0) rfl (mrX10_5 kd_0) ?_
  refine me_getI (pc' := 7) dX10_reservationCount_4 rfl fkX10_240 (mm_ks kd_21) (mm_ltq kd_21) rfl ?_
  exact me_iret dX10_reservationCount_7 rfl (fun z => z) rfl
def gX10_checkReservation (p0 : Int32) (h : mm_H) : Option ((Unit ⊕ String) × mm_H) :=
(gX7_hasReservation 21 p0 h).bind (fun (x1 : Bool) =>
if x1 = true then
some (.inl (), h)
else
some (.inr "java/lang/IndexOutOfBoundsException", ms_X h))
theorem rX10_checkReservation {q : mm_q} (p0 : Int32) (h : mm_H) : mm_R2 (mm_Sq q) (mm_Sq q) mX10_checkReservation [.ref 0, .int p0] h (gX10_checkReservation p0 h) lf_vt := by
  refine mm_body (L := [some (.ref 0), some (.int p0)]) rfl (by decide +kernel) (Nat.le_of_ble_eq_true rfl) rfl ?_
  unfold gX10_checkReservation
  refine me_aload_n (pc' := 1) (i := 0) dX10_checkReservation_0 rfl rfl rfl ?_
  refine me_getR (pc' := 4) (q' := 21) dX10_checkReservation_1 rfl fkX10_45 (mm_ks kd_0) (mm_ltq kd_0) rfl (mrX10_5 kd_0) ?_
  refine me_iload_n (pc' := 5) (i := 1) dX10_checkReservation_4 rfl rfl rfl ?_
  refine me_callV (As := [.int p0]) (st := []) (F' := (mm_Sq q)) (G' := (mm_Sq q)) (F'' := (mm_Sq q)) (pc' := 8) dX10_checkReservation_5 rfl mfX7_hasReservation rfl lkX10_412 (mm_ks kd_21) rfl (mm_ltq kd_21) ⟨Nat.le_of_ble_eq_true rfl, Nat.le_of_ble_eq_true rfl⟩ (Nat.le_of_ble_eq_true rfl) (fun z => z) (rX7_hasReservation (q := q) 21 p0 h kd_21) (fun x1 e2 => Or.inl ⟨_, _, rfl, fun z => z, ?_⟩)
  show mm_E2 _ _ _ _ _ [.int (mx_bi x1)] h _ _
  refine me_ifB_ne (pc' := 11) (tgt := 22) dX10_checkReservation_8 (by decide) rfl (fun c3 => ?_) (fun c3 => ?_)
  · exact me_vret dX10_checkReservation_22 rfl (fun z => z) rfl
  · exact me_throwW dX10_checkReservation_11 dX10_checkReservation_14 dX10_checkReservation_15 dX10_checkReservation_18 dX10_checkReservation_21 rfl rfl (fun z => z) twX10_166 sr_10 (Nat.le_of_ble_eq_true rfl) (Nat.le_of_ble_eq_true rfl)
def gX10_reservedQuantity (p0 : Int32) (h : mm_H) : Option ((Int32 ⊕ String) × mm_H) :=
(gX10_checkReservation p0 h).bind (fun (x1 : ((Unit ⊕ String) × mm_H)) => match x1 with
| (.inl _, h4) =>
(gX4_get 34 p0 h4).bind (fun (x6 : Int32) =>
some (.inl x6, h4))
| (.inr E5, h4) => some (.inr E5, h4))
theorem rX10_reservedQuantity {q : mm_q} (p0 : Int32) (h : mm_H) : mm_R2 (mm_Sq q) (mm_Sq q) mX10_reservedQuantity [.ref 0, .int p0] h (gX10_reservedQuantity p0 h) lf_it := by
  refine mm_body (L := [some (.ref 0), some (.int p0)]) rfl (by decide +kernel) (Nat.le_of_ble_eq_true rfl) rfl ?_
  unfold gX10_reservedQuantity
  refine me_aload_n (pc' := 1) (i := 0) dX10_reservedQuantity_0 rfl rfl rfl ?_
  refine me_iload_n (pc' := 2) (i := 1) dX10_reservedQuantity_1 rfl rfl rfl ?_
  refine me_callV (As := [.int p0]) (st := []) (F' := (mm_Sq q)) (G' := (mm_Sq q)) (F'' := (mm_Sq q)) (pc' := 5) dX10_reservedQuantity_2 rfl mfX10_checkReservation rfl lkX10_243 (mm_ks kd_0) rfl (mm_ltq kd_0) ⟨Nat.le_of_ble_eq_true rfl, Nat.le_of_ble_eq_true rfl⟩ (Nat.le_of_ble_eq_true rfl) (fun z => z) (rX10_checkReservation (q := q) p0 h ) (fun x1 e2 => ?_)
  rcases x1 with ⟨v3 | E5, h4⟩
  · refine Or.inl ⟨_, _, rfl, fun z => z, ?_⟩
    show mm_E2 _ _ _ _ _ [] h4 _ _
    try dsimp only
    refine me_aload_n (pc' := 6) (i := 0) dX10_reservedQuantity_5 rfl rfl rfl ?_
    refine me_getR (pc' := 9) (q' := 21) dX10_reservedQuantity_6 rfl fkX10_45 (mm_ks kd_0) (mm_ltq kd_0) rfl (mrX10_5 kd_0) ?_
    refine me_getR (pc' := 12) (q' := 34) dX10_reservedQuantity_9 rfl fkX10_249 (mm_ks kd_21) (mm_ltq kd_21) rfl (mrX7_9 kd_21) ?_
    refine me_iload_n (pc' := 13) (i := 1) dX10_reservedQuantity_12 rfl rfl rfl ?_
    refine me_callV (As := [.int p0]) (st := []) (F' := (mm_Sq q)) (G' := (mm_Sq q)) (F'' := (mm_Sq q)) (pc' := 16) dX10_reservedQuantity_13 rfl mfX4_get rfl lkX10_152 (mm_ks kd_34) rfl (mm_ltq kd_34) ⟨Nat.le_of_ble_eq_true rfl, Nat.le_of_ble_eq_true rfl⟩ (Nat.le_of_ble_eq_true rfl) (fun z => z) (rX4_get (q := q) 34 p0 h4 kd_34) (fun x6 e7 => Or.inl ⟨_, _, rfl, fun z => z, ?_⟩)
    show mm_E2 _ _ _ _ _ [.int x6] h4 _ _
    exact me_iret dX10_reservedQuantity_16 rfl (fun z => z) rfl
  · exact Or.inr ⟨_, _, rfl, rfl, fun z => z, fun y9 hy9 => by rw [← Option.some.inj hy9]; rfl⟩
def gX10_isOpen (p0 : Int32) (h : mm_H) : Option ((Bool ⊕ String) × mm_H) :=
(gX10_checkReservation p0 h).bind (fun (x1 : ((Unit ⊕ String) × mm_H)) => match x1 with
| (.inl _, h4) =>
(gX7_isPending 21 p0 h4).bind (fun (x6 : Bool) =>
some (.inl x6, h4))
| (.inr E5, h4) => some (.inr E5, h4))
theorem rX10_isOpen {q : mm_q} (p0 : Int32) (h : mm_H) : mm_R2 (mm_Sq q) (mm_Sq q) mX10_isOpen [.ref 0, .int p0] h (gX10_isOpen p0 h) lf_zt := by
  refine mm_body (L := [some (.ref 0), some (.int p0)]) rfl (by decide +kernel) (Nat.le_of_ble_eq_true rfl) rfl ?_
  unfold gX10_isOpen
  refine me_aload_n (pc' := 1) (i := 0) dX10_isOpen_0 rfl rfl rfl ?_
  refine me_iload_n (pc' := 2) (i := 1) dX10_isOpen_1 rfl rfl rfl ?_
  refine me_callV (As := [.int p0]) (st := []) (F' := (mm_Sq q)) (G' := (mm_Sq q)) (F'' := (mm_Sq q)) (pc' := 5) dX10_isOpen_2 rfl mfX10_checkReservation rfl lkX10_243 (mm_ks kd_0) rfl (mm_ltq kd_0) ⟨Nat.le_of_ble_eq_true rfl, Nat.le_of_ble_eq_true rfl⟩ (Nat.le_of_ble_eq_true rfl) (fun z => z) (rX10_checkReservation (q := q) p0 h ) (fun x1 e2 => ?_)
  rcases x1 with ⟨v3 | E5, h4⟩
  · refine Or.inl ⟨_, _, rfl, fun z => z, ?_⟩
    show mm_E2 _ _ _ _ _ [] h4 _ _
    try dsimp only
    refine me_aload_n (pc' := 6) (i := 0) dX10_isOpen_5 rfl rfl rfl ?_
    refine me_getR (pc' := 9) (q' := 21) dX10_isOpen_6 rfl fkX10_45 (mm_ks kd_0) (mm_ltq kd_0) rfl (mrX10_5 kd_0) ?_
    refine me_iload_n (pc' := 10) (i := 1) dX10_isOpen_9 rfl rfl rfl ?_
    refine me_callV (As := [.int p0]) (st := []) (F' := (mm_Sq q)) (G' := (mm_Sq q)) (F'' := (mm_Sq q)) (pc' := 13) dX10_isOpen_10 rfl mfX7_isPending rfl lkX10_252 (mm_ks kd_21) rfl (mm_ltq kd_21) ⟨Nat.le_of_ble_eq_true rfl, Nat.le_of_ble_eq_true rfl⟩ (Nat.le_of_ble_eq_true rfl) (fun z => z) (rX7_isPending (q := q) 21 p0 h4 kd_21) (fun x6 e7 => Or.inl ⟨_, _, rfl, fun z => z, ?_⟩)
    show mm_E2 _ _ _ _ _ [.int (mx_bi x6)] h4 _ _
    exact me_zret (b := x6) dX10_isOpen_13 rfl (fun z => z) rfl
  · exact Or.inr ⟨_, _, rfl, rfl, fun z => z, fun y9 hy9 => by rw [← Option.some.inj hy9]; rfl⟩
end MMWB

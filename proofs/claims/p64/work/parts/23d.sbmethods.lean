section MMSB4
/-! the methods of String and StringBuilder that the setup's text asks (gen24.py) -/
variable {F G F' : mm_H → Prop} {h h0 : mm_H} {g m n : Nat} {t : Nat → Nat}
theorem sb_swapI {f : mm_H → Prop} {h : mm_H} {o p k j : Nat} {v w : Int32} (hop : o ≠ p) (z : f (ms_I (ms_I h o k v) p j w)) : f (ms_I (ms_I h p j w) o k v) := by
  rw [sx_swap h hop] at z
  exact z
/-- what the small questions to a builder stand on -/
def sb_V (g m n : Nat) (h : mm_H) : Prop := (mm_kk h 352 = (0, 12) ∧ 352 < mh_n h) ∧ (mm_kk h (353 + g) = (3, m) ∧ 353 + g < mh_n h) ∧ mh_I h 352 1 = 0 ∧ mh_I h 352 3 = nI n ∧ mh_R h 352 0 = some (353 + g)
theorem sb_V_of (W : sb_W h0 g m n t h) : sb_V g m n h := ⟨⟨sb_k W, sb_l W⟩, ⟨sb_vk W, sb_vl W⟩, sb_c W, sb_n W, sb_r W⟩
theorem rJ0_getBytes {i b n1 dp : Nat} (hi : i < 17) (hk : mm_kk h b = (3, n1)) (hb : b < mh_n h) (hfit : sb_Fit (mm_sbs i)) (h5 : dp + mm_sn i ≤ n1) (h6 : n1 < 2 ^ 31) : mm_R2 mm_K mm_K mJ0_getBytes_840e7 [.ref (mm_NN + 1 + i), .ref b, .int (nI dp), .int 0] h (some (ms_Y h b (va_cpy (mm_sbs i) (mh_I h b) 0 dp (mm_sn i)))) lf_v := by
  have es : (mm_sl i).toNatClampNeg = mm_sn i := nI_clamp mm_sn_lt
  have ed : (nI dp).toNatClampNeg = dp := nI_clamp (by omega)
  refine mm_body (L := [some (.ref (mm_NN + 1 + i)), some (.ref b), some (.int (nI dp)), some (.int 0)]) rfl (by decide +kernel) (Nat.le_of_ble_eq_true rfl) rfl ?_
  refine me_aload_n (pc' := 1) (i := 0) dJ0_getBytes_840e7_0 rfl rfl rfl ?_
  refine me_callT (i := i) (As := []) (st := []) (F' := mm_K) (G' := mm_K) (F'' := mm_K) (pc' := 4) hi dJ0_getBytes_840e7_1 rfl mfJ0_coder_7d493 rfl lkJ0_335 rfl ⟨Nat.le_of_ble_eq_true rfl, Nat.le_of_ble_eq_true rfl⟩ (Nat.le_of_ble_eq_true rfl) (fun z => z) (rJ0_coder hi h) rfl (fun z => z) ?_
  show mm_E2 _ _ _ _ _ [.int 0] h _ _
  refine me_iload_n (pc' := 5) (i := 3) dJ0_getBytes_840e7_4 rfl rfl rfl ?_
  refine mm_pos (c := (0 : Int32) = 0) (o2 := none) (rfl : (0 : Int32) = 0) (me_icmp_ne (pc' := 8) (tgt := 28) dJ0_getBytes_840e7_5 (by decide) rfl (fun c9 => absurd (rfl : (0 : Int32) = 0) c9) (fun _ => ?_))
  refine me_aload_n (pc' := 9) (i := 0) dJ0_getBytes_840e7_8 rfl rfl rfl ?_
  refine me_strV (pc' := 12) hi rfl dJ0_getBytes_840e7_9 rfl ?_
  refine me_iconst (pc' := 13) (v := 0) dJ0_getBytes_840e7_12 rfl kc_i0 ?_
  refine me_aload_n (pc' := 14) (i := 1) dJ0_getBytes_840e7_13 rfl rfl rfl ?_
  refine me_iload_n (pc' := 15) (i := 2) dJ0_getBytes_840e7_14 rfl rfl rfl ?_
  refine me_iload_n (pc' := 16) (i := 3) dJ0_getBytes_840e7_15 rfl rfl rfl ?_
  refine me_ishl (pc' := 17) dJ0_getBytes_840e7_16 rfl ?_
  rw [show (((nI dp) <<< ((0 : Int32) &&& 31)) : Int32) = nI dp from sb_shl0 (nI dp)]
  refine me_aload_n (pc' := 18) (i := 0) dJ0_getBytes_840e7_17 rfl rfl rfl ?_
  refine me_strV (pc' := 21) hi rfl dJ0_getBytes_840e7_18 rfl ?_
  refine me_strA (pc' := 22) hi dJ0_getBytes_840e7_21 rfl ?_
  refine me_copyT (F' := mm_K) (pc' := 25) hi dJ0_getBytes_840e7_22 rfl (mm_gw_of (List.mem_of_getElem? (i := 1133) (by decide +kernel)) rfl) (fun _ => hk) (fun _ => hb) hfit (nI_pos (by omega)) (nI_pos mm_sn_lt) (Nat.le_of_eq es) (by rw [es, ed]; exact h5) ⟨Nat.le_of_ble_eq_true rfl, Nat.le_of_ble_eq_true rfl⟩ (Nat.le_of_ble_eq_true rfl) (fun z => z) ?_
  rw [es, ed]
  refine me_goto (tgt := 43) dJ0_getBytes_840e7_25 (by decide) ?_
  exact me_vret dJ0_getBytes_840e7_43 rfl (fun z => z) rfl
theorem rJ5_isLatin1 (V : sb_V g m n h) : mm_R2 F F mJ5_isLatin1_aae02 [.ref 352] h (some 1) (lf_i h) := by
  refine mm_body (L := [some (.ref 352)]) rfl (by decide +kernel) (Nat.le_of_ble_eq_true rfl) rfl ?_
  refine me_compact (pc' := 3) (mm_gw_of (List.mem_of_getElem? (i := 1086) (by decide +kernel)) rfl) dJ5_isLatin1_aae02_0 rfl ?_
  refine mm_neg (c := (1 : Int32) = 0) (o2 := none) (by decide : ¬ (1 : Int32) = 0) (me_if_eq (pc' := 6) (tgt := 17) dJ5_isLatin1_aae02_3 (by decide) rfl (fun c9 => absurd c9 (by decide : ¬ (1 : Int32) = 0)) (fun _ => ?_))
  refine me_aload_n (pc' := 7) (i := 0) dJ5_isLatin1_aae02_6 rfl rfl rfl ?_
  refine me_getI (pc' := 10) dJ5_isLatin1_aae02_7 rfl fkJ5_22 (fun _ => V.1.1) (fun _ => V.1.2) rfl ?_
  rw [V.2.2.1]
  refine mm_pos (c := (0 : Int32) = 0) (o2 := none) (rfl : (0 : Int32) = 0) (me_if_ne (pc' := 13) (tgt := 17) dJ5_isLatin1_aae02_10 (by decide) rfl (fun c9 => absurd (rfl : (0 : Int32) = 0) c9) (fun _ => ?_))
  refine me_iconst (pc' := 14) (v := 1) dJ5_isLatin1_aae02_13 rfl kc_i1 ?_
  refine me_goto (tgt := 18) dJ5_isLatin1_aae02_14 (by decide) ?_
  exact me_nret (ty := .boolean) dJ5_isLatin1_aae02_18 rfl rfl (fun z => z) rfl
theorem rJ5_getValue (V : sb_V g m n h) : mm_R2 F F mJ5_getValue_6d5f1 [.ref 352] h (some (353 + g)) (lf_a h) := by
  refine mm_body (L := [some (.ref 352)]) rfl (by decide +kernel) (Nat.le_of_ble_eq_true rfl) rfl ?_
  refine me_aload_n (pc' := 1) (i := 0) dJ5_getValue_6d5f1_0 rfl rfl rfl ?_
  refine me_getR (pc' := 4) (q' := (353 + g)) dJ5_getValue_6d5f1_1 rfl fkJ5_15 (fun _ => V.1.1) (fun _ => V.1.2) rfl (fun _ => V.2.2.2.2) ?_
  exact me_aretA dJ5_getValue_6d5f1_4 rfl (fun z => z) rfl
theorem rJ5_length (V : sb_V g m n h) : mm_R2 F F mJ5_length_8abf5 [.ref 352] h (some (nI n)) (lf_i h) := by
  refine mm_body (L := [some (.ref 352)]) rfl (by decide +kernel) (Nat.le_of_ble_eq_true rfl) rfl ?_
  refine me_aload_n (pc' := 1) (i := 0) dJ5_length_8abf5_0 rfl rfl rfl ?_
  refine me_getI (pc' := 4) dJ5_length_8abf5_1 rfl fkJ5_79 (fun _ => V.1.1) (fun _ => V.1.2) rfl ?_
  rw [V.2.2.2.1]
  exact me_iret dJ5_length_8abf5_4 rfl (fun z => z) rfl
theorem rJ4_length (V : sb_V g m n h) : mm_R2 F F mJ4_length_8abf5 [.ref 352] h (some (nI n)) (lf_i h) := by
  refine mm_body (L := [some (.ref 352)]) rfl (by decide +kernel) (Nat.le_of_ble_eq_true rfl) rfl ?_
  refine me_aload_n (pc' := 1) (i := 0) dJ4_length_8abf5_0 rfl rfl rfl ?_
  refine me_callSU (As := []) (st := []) (F' := F) (G' := F) (F'' := F) (pc' := 4) dJ4_length_8abf5_1 rfl mfJ5_length_8abf5 rfl (mm_gw_of (List.mem_of_getElem? (i := 1213) (by decide +kernel)) rfl) (mm_gw_of (List.mem_of_getElem? (i := 1209) (by decide +kernel)) rfl) (mm_gw_of (List.mem_of_getElem? (i := 1047) (by decide +kernel)) rfl) (by decide) (fun _ => V.1.1) rfl (fun _ => V.1.2) ⟨Nat.le_of_ble_eq_true rfl, Nat.le_of_ble_eq_true rfl⟩ (Nat.le_of_ble_eq_true rfl) (fun z => z) (rJ5_length V) rfl (fun z => z) ?_
  show mm_E2 _ _ _ _ _ [.int (nI n)] h _ _
  exact me_iret dJ4_length_8abf5_4 rfl (fun z => z) rfl
theorem rJ5_inflateIf {i : Nat} (hi : i < 17) (W : sb_W h0 g m n t h) : mm_R2 mm_K mm_K mJ5_inflateIfNeededFor_a7421 [.ref 352, .ref (mm_NN + 1 + i)] h (some h) lf_v := by
  refine mm_body (L := [some (.ref 352), some (.ref (mm_NN + 1 + i))]) rfl (by decide +kernel) (Nat.le_of_ble_eq_true rfl) rfl ?_
  refine me_compact (pc' := 3) (mm_gw_of (List.mem_of_getElem? (i := 1086) (by decide +kernel)) rfl) dJ5_inflateIfNeededFor_a7421_0 rfl ?_
  refine mm_neg (c := (1 : Int32) = 0) (o2 := none) (by decide : ¬ (1 : Int32) = 0) (me_if_eq (pc' := 6) (tgt := 21) dJ5_inflateIfNeededFor_a7421_3 (by decide) rfl (fun c9 => absurd c9 (by decide : ¬ (1 : Int32) = 0)) (fun _ => ?_))
  refine me_aload_n (pc' := 7) (i := 0) dJ5_inflateIfNeededFor_a7421_6 rfl rfl rfl ?_
  refine me_getI (pc' := 10) dJ5_inflateIfNeededFor_a7421_7 rfl fkJ5_22 (fun _ => sb_k W) (fun _ => sb_l W) rfl ?_
  rw [sb_c W]
  refine me_aload_n (pc' := 11) (i := 1) dJ5_inflateIfNeededFor_a7421_10 rfl rfl rfl ?_
  refine me_callT (i := i) (As := []) (st := [.int 0]) (F' := mm_K) (G' := mm_K) (F'' := mm_K) (pc' := 14) hi dJ5_inflateIfNeededFor_a7421_11 rfl mfJ0_coder_7d493 rfl lkJ5_40 rfl ⟨Nat.le_of_ble_eq_true rfl, Nat.le_of_ble_eq_true rfl⟩ (Nat.le_of_ble_eq_true rfl) (fun z => z) (rJ0_coder hi h) rfl (fun z => z) ?_
  show mm_E2 _ _ _ _ _ [.int 0, .int 0] h _ _
  refine mm_pos (c := (0 : Int32) = 0) (o2 := none) (rfl : (0 : Int32) = 0) (me_icmp_eq (pc' := 17) (tgt := 21) dJ5_inflateIfNeededFor_a7421_14 (by decide) rfl (fun _ => ?_) (fun c9 => absurd (rfl : (0 : Int32) = 0) c9))
  exact me_vret dJ5_inflateIfNeededFor_a7421_21 rfl (fun z => z) rfl
theorem rJ5_putStringAt {i k : Nat} (hi : i < 17) (W : sb_W h0 g m n t h) (hk : k + mm_sn i ≤ m) : mm_R2 mm_K mm_K mJ5_putStringAt_47b60 [.ref 352, .int (nI k), .ref (mm_NN + 1 + i)] h (some (ms_Y h (353 + g) (va_cpy (mm_sbs i) (mh_I h (353 + g)) 0 k (mm_sn i)))) lf_v := by
  have m7 := W.2.1.2.1.2.2
  refine mm_body (L := [some (.ref 352), some (.int (nI k)), some (.ref (mm_NN + 1 + i))]) rfl (by decide +kernel) (Nat.le_of_ble_eq_true rfl) rfl ?_
  refine me_aload_n (pc' := 1) (i := 0) dJ5_putStringAt_47b60_0 rfl rfl rfl ?_
  refine me_aload_n (pc' := 2) (i := 2) dJ5_putStringAt_47b60_1 rfl rfl rfl ?_
  refine me_callU (b0 := prog_15_method_71_code) (m0 := 2) (r0 := (Option.none : Option Jvm.ClassFile.FieldType)) (x := ⟨"java/lang/AbstractStringBuilder", "inflateIfNeededFor", "(Ljava/lang/String;)V"⟩) (As := [.ref (mm_NN + 1 + i)]) (st := []) (F' := mm_K) (G' := mm_K) (F'' := mm_K) (pc' := 5) dJ5_putStringAt_47b60_2 rfl mfJ5_inflateIfNeededFor_a7421 rfl (mm_gw_of (List.mem_of_getElem? (i := 1106) (by decide +kernel)) rfl) (mm_gw_of (List.mem_of_getElem? (i := 1315) (by decide +kernel)) rfl) ⟨(mm_gw_of (List.mem_of_getElem? (i := 1108) (by decide +kernel)) rfl), (mm_gw_of (List.mem_of_getElem? (i := 1109) (by decide +kernel)) rfl)⟩ (Or.inr ⟨rfl, (mm_gw_of (List.mem_of_getElem? (i := 1016) (by decide +kernel)) rfl), (List.mem_of_getElem? (i := 1107) (by decide +kernel))⟩) ⟨by decide, by decide +kernel⟩ (fun _ => sb_k W) rfl (fun _ => sb_l W) ⟨Nat.le_of_ble_eq_true rfl, Nat.le_of_ble_eq_true rfl⟩ (Nat.le_of_ble_eq_true rfl) (fun z => z) (rJ5_inflateIf hi W) rfl (fun z => z) ?_
  show mm_E2 _ _ _ _ _ [] h _ _
  refine me_aload_n (pc' := 6) (i := 2) dJ5_putStringAt_47b60_5 rfl rfl rfl ?_
  refine me_aload_n (pc' := 7) (i := 0) dJ5_putStringAt_47b60_6 rfl rfl rfl ?_
  refine me_getR (pc' := 10) (q' := (353 + g)) dJ5_putStringAt_47b60_7 rfl fkJ5_15 (fun _ => sb_k W) (fun _ => sb_l W) rfl (fun _ => sb_r W) ?_
  refine me_iload_n (pc' := 11) (i := 1) dJ5_putStringAt_47b60_10 rfl rfl rfl ?_
  refine me_aload_n (pc' := 12) (i := 0) dJ5_putStringAt_47b60_11 rfl rfl rfl ?_
  refine me_getI (pc' := 15) dJ5_putStringAt_47b60_12 rfl fkJ5_22 (fun _ => sb_k W) (fun _ => sb_l W) rfl ?_
  rw [sb_c W]
  refine me_callT (i := i) (As := [.ref (353 + g), .int (nI k), .int 0]) (st := []) (F' := mm_K) (G' := mm_K) (F'' := mm_K) (pc' := 18) hi dJ5_putStringAt_47b60_15 rfl mfJ0_getBytes_840e7 rfl lkJ5_399 rfl ⟨Nat.le_of_ble_eq_true rfl, Nat.le_of_ble_eq_true rfl⟩ (Nat.le_of_ble_eq_true rfl) (fun z => z) (rJ0_getBytes hi (sb_vk W) (sb_vl W) (mm_sF hi) hk (by omega)) rfl (fun z => z) ?_
  show mm_E2 _ _ _ _ _ [] (ms_Y h (353 + g) (va_cpy (mm_sbs i) (mh_I h (353 + g)) 0 k (mm_sn i))) _ _
  exact me_vret dJ5_putStringAt_47b60_18 rfl (fun z => z) rfl
theorem rJ5_appendS {i : Nat} (hi : i < 17) (hT : sb_Lat (mm_sT i) (mm_sn i) (mm_sbs i)) (W : sb_W h0 g m n t h) (hs : mm_sn i ≤ 28) (hn : n + mm_sn i ≤ 300) : ∃ h' g' m', sb_W h0 g' m' (n + mm_sn i) (sb_cat t n (mm_sT i)) h' ∧ mm_R2 mm_K mm_K mJ5_append_cf1ce [.ref 352, .ref (mm_NN + 1 + i)] h (some (352, h')) lf_ae := by
  obtain ⟨h1, g1, m1, W1, hm1, r1⟩ := rJ5_ensure (q := n + mm_sn i) W (by omega) hn
  have m7 := W1.2.1.2.1.2.2
  have W2 : sb_W h0 g1 m1 n t (ms_Y h1 (353 + g1) (va_cpy (mm_sbs i) (mh_I h1 (353 + g1)) 0 n (mm_sn i))) := sb_row W1 (sb_latKeep W1.2.1.2.2.1 (fun j hj => pk_cpy_out (by omega))) (sb_fitC (mm_sF hi) W1.2.1.2.2.2)
  refine ⟨ms_I (ms_Y h1 (353 + g1) (va_cpy (mm_sbs i) (mh_I h1 (353 + g1)) 0 n (mm_sn i))) 352 3 (nI (n + mm_sn i)), g1, m1, sb_len W2 hm1 ?_, ?_⟩
  · rw [sx_Y1]
    exact sb_latPut W1.2.1.2.2.1 (fun j hj => pk_cpy_out (by omega)) (fun j hj => ⟨(hT j hj).1, (pk_cpy_in (by omega) (by omega)).trans ((congrArg (mm_sbs i) (by omega)).trans (hT j hj).2)⟩)
  · skip
    refine mm_body (L := [some (.ref 352), some (.ref (mm_NN + 1 + i)), none]) rfl (by decide +kernel) (Nat.le_of_ble_eq_true rfl) rfl ?_
    refine me_aload_n (pc' := 1) (i := 1) dJ5_append_cf1ce_0 rfl rfl rfl ?_
    refine me_ifnonnull (tgt := 9) dJ5_append_cf1ce_1 (by decide) ?_
    refine me_aload_n (pc' := 10) (i := 1) dJ5_append_cf1ce_9 rfl rfl rfl ?_
    refine me_callT (i := i) (As := []) (st := []) (F' := mm_K) (G' := mm_K) (F'' := mm_K) (pc' := 13) hi dJ5_append_cf1ce_10 rfl mfJ0_length_8abf5 rfl lkJ5_32 rfl ⟨Nat.le_of_ble_eq_true rfl, Nat.le_of_ble_eq_true rfl⟩ (Nat.le_of_ble_eq_true rfl) (fun z => z) (rJ0_length hi h) rfl (fun z => z) ?_
    show mm_E2 _ _ _ _ _ [.int (mm_sl i)] h _ _
    refine me_istore_n (pc' := 14) (i := 2) (L' := [some (.ref 352), some (.ref (mm_NN + 1 + i)), some (.int (mm_sl i))]) dJ5_append_cf1ce_13 rfl rfl (Nat.le_of_ble_eq_true rfl) (Nat.le_of_ble_eq_true rfl) rfl ?_
    refine me_aload_n (pc' := 15) (i := 0) dJ5_append_cf1ce_14 rfl rfl rfl ?_
    refine me_aload_n (pc' := 16) (i := 0) dJ5_append_cf1ce_15 rfl rfl rfl ?_
    refine me_getI (pc' := 19) dJ5_append_cf1ce_16 rfl fkJ5_79 (fun _ => sb_k W) (fun _ => sb_l W) rfl ?_
    rw [sb_n W]
    refine me_iload_n (pc' := 20) (i := 2) dJ5_append_cf1ce_19 rfl rfl rfl ?_
    refine me_iadd (pc' := 21) dJ5_append_cf1ce_20 rfl ?_
    rw [show (((nI n) + (mm_sl i)) : Int32) = nI (n + mm_sn i) from nI_add n (mm_sn i)]
    refine me_callU (b0 := prog_15_method_9_code) (m0 := 3) (r0 := (Option.none : Option Jvm.ClassFile.FieldType)) (x := ⟨"java/lang/AbstractStringBuilder", "ensureCapacityInternal", "(I)V"⟩) (As := [.int (nI (n + mm_sn i))]) (st := []) (F' := mm_K) (G' := mm_K) (F'' := mm_K) (pc' := 24) dJ5_append_cf1ce_21 rfl mfJ5_ensureCapacityInternal_d00df rfl (mm_gw_of (List.mem_of_getElem? (i := 1053) (by decide +kernel)) rfl) (mm_gw_of (List.mem_of_getElem? (i := 1312) (by decide +kernel)) rfl) ⟨(mm_gw_of (List.mem_of_getElem? (i := 1055) (by decide +kernel)) rfl), (mm_gw_of (List.mem_of_getElem? (i := 1056) (by decide +kernel)) rfl)⟩ (Or.inr ⟨rfl, (mm_gw_of (List.mem_of_getElem? (i := 1016) (by decide +kernel)) rfl), (List.mem_of_getElem? (i := 1054) (by decide +kernel))⟩) ⟨by decide, by decide +kernel⟩ (fun _ => sb_k W) rfl (fun _ => sb_l W) ⟨Nat.le_of_ble_eq_true rfl, Nat.le_of_ble_eq_true rfl⟩ (Nat.le_of_ble_eq_true rfl) (fun z => z) r1 rfl (fun z => z) ?_
    show mm_E2 _ _ _ _ _ [] h1 _ _
    refine me_aload_n (pc' := 25) (i := 0) dJ5_append_cf1ce_24 rfl rfl rfl ?_
    refine me_aload_n (pc' := 26) (i := 0) dJ5_append_cf1ce_25 rfl rfl rfl ?_
    refine me_getI (pc' := 29) dJ5_append_cf1ce_26 rfl fkJ5_79 (fun _ => sb_k W1) (fun _ => sb_l W1) rfl ?_
    rw [sb_n W1]
    refine me_aload_n (pc' := 30) (i := 1) dJ5_append_cf1ce_29 rfl rfl rfl ?_
    refine me_callU (b0 := prog_15_method_73_code) (m0 := 3) (r0 := (Option.none : Option Jvm.ClassFile.FieldType)) (x := ⟨"java/lang/AbstractStringBuilder", "putStringAt", "(ILjava/lang/String;)V"⟩) (As := [.int (nI n), .ref (mm_NN + 1 + i)]) (st := []) (F' := mm_K) (G' := mm_K) (F'' := mm_K) (pc' := 33) dJ5_append_cf1ce_30 rfl mfJ5_putStringAt_47b60 rfl (mm_gw_of (List.mem_of_getElem? (i := 1102) (by decide +kernel)) rfl) (mm_gw_of (List.mem_of_getElem? (i := 1314) (by decide +kernel)) rfl) ⟨(mm_gw_of (List.mem_of_getElem? (i := 1104) (by decide +kernel)) rfl), (mm_gw_of (List.mem_of_getElem? (i := 1105) (by decide +kernel)) rfl)⟩ (Or.inr ⟨rfl, (mm_gw_of (List.mem_of_getElem? (i := 1016) (by decide +kernel)) rfl), (List.mem_of_getElem? (i := 1103) (by decide +kernel))⟩) ⟨by decide, by decide +kernel⟩ (fun _ => sb_k W1) rfl (fun _ => sb_l W1) ⟨Nat.le_of_ble_eq_true rfl, Nat.le_of_ble_eq_true rfl⟩ (Nat.le_of_ble_eq_true rfl) (fun z => z) (rJ5_putStringAt hi W1 hm1) rfl (fun z => z) ?_
    show mm_E2 _ _ _ _ _ [] (ms_Y h1 (353 + g1) (va_cpy (mm_sbs i) (mh_I h1 (353 + g1)) 0 n (mm_sn i))) _ _
    refine me_aload_n (pc' := 34) (i := 0) dJ5_append_cf1ce_33 rfl rfl rfl ?_
    refine me_dup (pc' := 35) dJ5_append_cf1ce_34 rfl rfl ?_
    refine me_getI (pc' := 38) dJ5_append_cf1ce_35 rfl fkJ5_79 (fun _ => sb_k W2) (fun _ => sb_l W2) rfl ?_
    rw [sb_n W2]
    refine me_iload_n (pc' := 39) (i := 2) dJ5_append_cf1ce_38 rfl rfl rfl ?_
    refine me_iadd (pc' := 40) dJ5_append_cf1ce_39 rfl ?_
    rw [show (((nI n) + (mm_sl i)) : Int32) = nI (n + mm_sn i) from nI_add n (mm_sn i)]
    refine me_putI (F' := mm_K) (pc' := 43) dJ5_append_cf1ce_40 rfl fkJ5_79 (fun _ => sb_k W2) (fun _ => sb_l W2) rfl pgJ4_3 (fun z => z) ?_
    refine me_aload_n (pc' := 44) (i := 0) dJ5_append_cf1ce_43 rfl rfl rfl ?_
    exact me_aret dJ5_append_cf1ce_44 rfl (fun z => z) rfl
theorem rJ4_appendS {i : Nat} (hi : i < 17) (hT : sb_Lat (mm_sT i) (mm_sn i) (mm_sbs i)) (W : sb_W h0 g m n t h) (hs : mm_sn i ≤ 28) (hn : n + mm_sn i ≤ 300) : ∃ h' g' m', sb_W h0 g' m' (n + mm_sn i) (sb_cat t n (mm_sT i)) h' ∧ mm_R2 mm_K mm_K mJ4_append_15ec4 [.ref 352, .ref (mm_NN + 1 + i)] h (some (352, h')) lf_ae := by
  obtain ⟨h1, g1, m1, W1, r1⟩ := rJ5_appendS hi hT W hs hn
  refine ⟨h1, g1, m1, W1, ?_⟩
  refine mm_body (L := [some (.ref 352), some (.ref (mm_NN + 1 + i))]) rfl (by decide +kernel) (Nat.le_of_ble_eq_true rfl) rfl ?_
  refine me_aload_n (pc' := 1) (i := 0) dJ4_append_15ec4_0 rfl rfl rfl ?_
  refine me_aload_n (pc' := 2) (i := 1) dJ4_append_15ec4_1 rfl rfl rfl ?_
  refine me_callSU (As := [.ref (mm_NN + 1 + i)]) (st := []) (F' := mm_K) (G' := mm_K) (F'' := mm_K) (pc' := 5) dJ4_append_15ec4_2 rfl mfJ5_append_cf1ce rfl (mm_gw_of (List.mem_of_getElem? (i := 1046) (by decide +kernel)) rfl) (mm_gw_of (List.mem_of_getElem? (i := 1038) (by decide +kernel)) rfl) (mm_gw_of (List.mem_of_getElem? (i := 1047) (by decide +kernel)) rfl) (by decide) (fun _ => sb_k W) rfl (fun _ => sb_l W) ⟨Nat.le_of_ble_eq_true rfl, Nat.le_of_ble_eq_true rfl⟩ (Nat.le_of_ble_eq_true rfl) (fun z => z) r1 rfl (fun z => z) ?_
  show mm_E2 _ _ _ _ _ [.ref 352] h1 _ _
  refine me_pop (v := .ref 352) (pc' := 6) dJ4_append_15ec4_5 rfl rfl ?_
  refine me_aload_n (pc' := 7) (i := 0) dJ4_append_15ec4_6 rfl rfl rfl ?_
  exact me_aret dJ4_append_15ec4_7 rfl (fun z => z) rfl
theorem rJ4_appendB {i : Nat} (hi : i < 17) (hT : sb_Lat (mm_sT i) (mm_sn i) (mm_sbs i)) (W : sb_W h0 g m n t h) (hs : mm_sn i ≤ 28) (hn : n + mm_sn i ≤ 300) : ∃ h' g' m', sb_W h0 g' m' (n + mm_sn i) (sb_cat t n (mm_sT i)) h' ∧ mm_R2 mm_K mm_K mJ4_append_cf1ce [.ref 352, .ref (mm_NN + 1 + i)] h (some (352, h')) lf_ae := by
  obtain ⟨h1, g1, m1, W1, r1⟩ := rJ4_appendS hi hT W hs hn
  refine ⟨h1, g1, m1, W1, ?_⟩
  refine mm_body (L := [some (.ref 352), some (.ref (mm_NN + 1 + i))]) rfl (by decide +kernel) (Nat.le_of_ble_eq_true rfl) rfl ?_
  refine me_aload_n (pc' := 1) (i := 0) dJ4_append_cf1ce_0 rfl rfl rfl ?_
  refine me_aload_n (pc' := 2) (i := 1) dJ4_append_cf1ce_1 rfl rfl rfl ?_
  refine me_callVt (As := [.ref (mm_NN + 1 + i)]) (st := []) (F' := mm_K) (G' := mm_K) (F'' := mm_K) (pc' := 5) dJ4_append_cf1ce_2 rfl mfJ4_append_15ec4 rfl lkJ4_23 (fun _ => sb_k W) rfl (fun _ => sb_l W) ⟨Nat.le_of_ble_eq_true rfl, Nat.le_of_ble_eq_true rfl⟩ (Nat.le_of_ble_eq_true rfl) (fun z => z) r1 rfl (fun z => z) ?_
  show mm_E2 _ _ _ _ _ [.ref 352] h1 _ _
  exact me_aret dJ4_append_cf1ce_5 rfl (fun z => z) rfl
theorem rJ1_canEncode {c : Nat} (hc : c < 256) (h : mm_H) : mm_R2 F F mJ1_canEncode_fc78d [.int (nI c)] h (some 1) (lf_i h) := by
  refine mm_body (L := [some (.int (nI c))]) rfl (by decide +kernel) (Nat.le_of_ble_eq_true rfl) rfl ?_
  refine me_iload_n (pc' := 1) (i := 0) dJ1_canEncode_fc78d_0 rfl rfl rfl ?_
  refine me_sipush (pc' := 4) (v := 255) dJ1_canEncode_fc78d_1 rfl kc_s255 ?_
  refine mm_neg (c := (255 : Int32) < nI c) (o2 := none) (show ¬ nI 255 < nI c from nI_nlt (by omega) (by decide)) (me_icmp_gt (pc' := 7) (tgt := 11) dJ1_canEncode_fc78d_4 (by decide) rfl (fun c9 => absurd c9 (show ¬ nI 255 < nI c from nI_nlt (by omega) (by decide))) (fun _ => ?_))
  refine me_iconst (pc' := 8) (v := 1) dJ1_canEncode_fc78d_7 rfl kc_i1 ?_
  refine me_goto (tgt := 12) dJ1_canEncode_fc78d_8 (by decide) ?_
  exact me_nret (ty := .boolean) dJ1_canEncode_fc78d_12 rfl rfl (fun z => z) rfl
theorem sb_bb : ∀ c, c < 256 → vp_nar .byte ((nI c).toInt8.toInt32) = sb_b c := by decide +kernel
theorem rJ5_appendC {c : Nat} (hc : c < 256) (W : sb_W h0 g m n t h) (hn : n + 1 ≤ 300) : ∃ h' g' m', sb_W h0 g' m' (n + 1) (sb_cat t n (fun _ => c)) h' ∧ mm_R2 mm_K mm_K mJ5_append_3fe6f [.ref 352, .int (nI c)] h (some (352, h')) lf_ae := by
  obtain ⟨h1, g1, m1, W1, hm1, r1⟩ := rJ5_ensure (q := n + 1) W (by omega) hn
  have m7 := W1.2.1.2.1.2.2
  refine ⟨ms_I (ms_I h1 352 3 (nI (n + 1))) (353 + g1) n (sb_b c), g1, m1, ?_, ?_⟩
  · refine sb_swapI (f := sb_W h0 g1 m1 (n + 1) (sb_cat t n (fun _ => c))) (by omega) (sb_len (sb_put W1 (Nat.le_refl n) (sb_fitB c)) hm1 ?_)
    rw [sx_Ix]
    refine sb_latPut W1.2.1.2.2.1 (fun j hj => pk_un (by omega)) (fun j hj => ⟨hc, ?_⟩)
    rw [show n + j = n by omega]
    exact pk_us
  · skip
    refine mm_body (L := [some (.ref 352), some (.int (nI c))]) rfl (by decide +kernel) (Nat.le_of_ble_eq_true rfl) rfl ?_
    refine me_aload_n (pc' := 1) (i := 0) dJ5_append_3fe6f_0 rfl rfl rfl ?_
    refine me_aload_n (pc' := 2) (i := 0) dJ5_append_3fe6f_1 rfl rfl rfl ?_
    refine me_getI (pc' := 5) dJ5_append_3fe6f_2 rfl fkJ5_79 (fun _ => sb_k W) (fun _ => sb_l W) rfl ?_
    rw [sb_n W]
    refine me_iconst (pc' := 6) (v := 1) dJ5_append_3fe6f_5 rfl kc_i1 ?_
    refine me_iadd (pc' := 7) dJ5_append_3fe6f_6 rfl ?_
    rw [show (((nI n) + 1) : Int32) = nI (n + 1) from nI_add n 1]
    refine me_callU (b0 := prog_15_method_9_code) (m0 := 3) (r0 := (Option.none : Option Jvm.ClassFile.FieldType)) (x := ⟨"java/lang/AbstractStringBuilder", "ensureCapacityInternal", "(I)V"⟩) (As := [.int (nI (n + 1))]) (st := []) (F' := mm_K) (G' := mm_K) (F'' := mm_K) (pc' := 10) dJ5_append_3fe6f_7 rfl mfJ5_ensureCapacityInternal_d00df rfl (mm_gw_of (List.mem_of_getElem? (i := 1053) (by decide +kernel)) rfl) (mm_gw_of (List.mem_of_getElem? (i := 1312) (by decide +kernel)) rfl) ⟨(mm_gw_of (List.mem_of_getElem? (i := 1055) (by decide +kernel)) rfl), (mm_gw_of (List.mem_of_getElem? (i := 1056) (by decide +kernel)) rfl)⟩ (Or.inr ⟨rfl, (mm_gw_of (List.mem_of_getElem? (i := 1016) (by decide +kernel)) rfl), (List.mem_of_getElem? (i := 1054) (by decide +kernel))⟩) ⟨by decide, by decide +kernel⟩ (fun _ => sb_k W) rfl (fun _ => sb_l W) ⟨Nat.le_of_ble_eq_true rfl, Nat.le_of_ble_eq_true rfl⟩ (Nat.le_of_ble_eq_true rfl) (fun z => z) r1 rfl (fun z => z) ?_
    show mm_E2 _ _ _ _ _ [] h1 _ _
    refine me_aload_n (pc' := 11) (i := 0) dJ5_append_3fe6f_10 rfl rfl rfl ?_
    refine me_callU (b0 := prog_15_method_68_code) (m0 := 1) (r0 := (Option.some Jvm.ClassFile.FieldType.boolean)) (x := ⟨"java/lang/AbstractStringBuilder", "isLatin1", "()Z"⟩) (As := []) (st := []) (F' := mm_K) (G' := mm_K) (F'' := mm_K) (pc' := 14) dJ5_append_3fe6f_11 rfl mfJ5_isLatin1_aae02 rfl (mm_gw_of (List.mem_of_getElem? (i := 1081) (by decide +kernel)) rfl) (mm_gw_of (List.mem_of_getElem? (i := 1083) (by decide +kernel)) rfl) ⟨(mm_gw_of (List.mem_of_getElem? (i := 1082) (by decide +kernel)) rfl), (mm_gw_of (List.mem_of_getElem? (i := 1085) (by decide +kernel)) rfl)⟩ (Or.inl (mm_gw_of (List.mem_of_getElem? (i := 1084) (by decide +kernel)) rfl)) ⟨by decide, by decide +kernel⟩ (fun _ => sb_k W1) rfl (fun _ => sb_l W1) ⟨Nat.le_of_ble_eq_true rfl, Nat.le_of_ble_eq_true rfl⟩ (Nat.le_of_ble_eq_true rfl) (fun z => z) (rJ5_isLatin1 (sb_V_of W1)) rfl (fun z => z) ?_
    show mm_E2 _ _ _ _ _ [.int 1] h1 _ _
    refine mm_neg (c := (1 : Int32) = 0) (o2 := none) (by decide : ¬ (1 : Int32) = 0) (me_if_eq (pc' := 17) (tgt := 45) dJ5_append_3fe6f_14 (by decide) rfl (fun c9 => absurd c9 (by decide : ¬ (1 : Int32) = 0)) (fun _ => ?_))
    refine me_iload_n (pc' := 18) (i := 1) dJ5_append_3fe6f_17 rfl rfl rfl ?_
    refine me_callSt (As := [.int (nI c)]) (st := []) (F' := mm_K) (G' := mm_K) (F'' := mm_K) (pc' := 21) dJ5_append_3fe6f_18 rfl mfJ1_canEncode_fc78d rfl lkJ5_191 ⟨Nat.le_of_ble_eq_true rfl, Nat.le_of_ble_eq_true rfl⟩ (Nat.le_of_ble_eq_true rfl) (fun z => z) (rJ1_canEncode hc h1) rfl (fun z => z) ?_
    show mm_E2 _ _ _ _ _ [.int 1] h1 _ _
    refine mm_neg (c := (1 : Int32) = 0) (o2 := none) (by decide : ¬ (1 : Int32) = 0) (me_if_eq (pc' := 24) (tgt := 45) dJ5_append_3fe6f_21 (by decide) rfl (fun c9 => absurd c9 (by decide : ¬ (1 : Int32) = 0)) (fun _ => ?_))
    refine me_aload_n (pc' := 25) (i := 0) dJ5_append_3fe6f_24 rfl rfl rfl ?_
    refine me_getR (pc' := 28) (q' := (353 + g1)) dJ5_append_3fe6f_25 rfl fkJ5_15 (fun _ => sb_k W1) (fun _ => sb_l W1) rfl (fun _ => sb_r W1) ?_
    refine me_aload_n (pc' := 29) (i := 0) dJ5_append_3fe6f_28 rfl rfl rfl ?_
    refine me_dup (pc' := 30) dJ5_append_3fe6f_29 rfl rfl ?_
    refine me_getI (pc' := 33) dJ5_append_3fe6f_30 rfl fkJ5_79 (fun _ => sb_k W1) (fun _ => sb_l W1) rfl ?_
    rw [sb_n W1]
    refine me_dup_x1 (pc' := 34) dJ5_append_3fe6f_33 rfl rfl rfl ?_
    refine me_iconst (pc' := 35) (v := 1) dJ5_append_3fe6f_34 rfl kc_i1 ?_
    refine me_iadd (pc' := 36) dJ5_append_3fe6f_35 rfl ?_
    rw [show (((nI n) + 1) : Int32) = nI (n + 1) from nI_add n 1]
    refine me_putI (F' := mm_K) (pc' := 39) dJ5_append_3fe6f_36 rfl fkJ5_79 (fun _ => sb_k W1) (fun _ => sb_l W1) rfl pgJ4_3 (fun z => z) ?_
    refine me_iload_n (pc' := 40) (i := 1) dJ5_append_3fe6f_39 rfl rfl rfl ?_
    refine me_i2b (pc' := 41) dJ5_append_3fe6f_40 rfl ?_
    refine me_bast (F' := mm_K) (pc' := 42) (n := m1) (w := sb_b c) dJ5_append_3fe6f_41 rfl (fun _ => (sb_vk W1 : mm_kk h1 (353 + g1) = (3, m1))) (fun _ => (sb_vl W1 : 353 + g1 < mh_n h1)) (si_in (by omega) (by omega)) (sb_bb c hc) (fun z => z) ?_
    rw [nI_clamp (show n < 2 ^ 31 by omega)]
    refine me_goto (tgt := 75) dJ5_append_3fe6f_42 (by decide) ?_
    refine me_aload_n (pc' := 76) (i := 0) dJ5_append_3fe6f_75 rfl rfl rfl ?_
    exact me_aret dJ5_append_3fe6f_76 rfl (fun z => z) rfl
theorem rJ6_stringSize1 {v : Nat} (hv : v < 10) (h : mm_H) : mm_R2 F F mJ6_stringSize_0f7a4 [.int (nI v)] h (some (nI (sb_dg v))) (lf_i h) := by
  refine mm_body (L := [some (.int (nI v)), none, none, none]) rfl (by decide +kernel) (Nat.le_of_ble_eq_true rfl) rfl ?_
  refine me_iconst (pc' := 1) (v := 1) dJ6_stringSize_0f7a4_0 rfl kc_i1 ?_
  refine me_istore_n (pc' := 2) (i := 1) (L' := [some (.int (nI v)), some (.int 1), none, none]) dJ6_stringSize_0f7a4_1 rfl rfl (Nat.le_of_ble_eq_true rfl) (Nat.le_of_ble_eq_true rfl) rfl ?_
  refine me_iload_n (pc' := 3) (i := 0) dJ6_stringSize_0f7a4_2 rfl rfl rfl ?_
  refine mm_neg (c := nI v < 0) (o2 := none) (nI_pos (by omega)) (me_if_lt (pc' := 6) (tgt := 11) dJ6_stringSize_0f7a4_3 (by decide) rfl (fun c9 => absurd c9 (nI_pos (by omega))) (fun _ => ?_))
  refine me_iconst (pc' := 7) (v := 0) dJ6_stringSize_0f7a4_6 rfl kc_i0 ?_
  refine me_istore_n (pc' := 8) (i := 1) (L' := [some (.int (nI v)), some (.int 0), none, none]) dJ6_stringSize_0f7a4_7 rfl rfl (Nat.le_of_ble_eq_true rfl) (Nat.le_of_ble_eq_true rfl) rfl ?_
  refine me_iload_n (pc' := 9) (i := 0) dJ6_stringSize_0f7a4_8 rfl rfl rfl ?_
  refine me_ineg (pc' := 10) dJ6_stringSize_0f7a4_9 rfl ?_
  refine me_istore_n (pc' := 11) (i := 0) (L' := [some (.int (-(nI v))), some (.int 0), none, none]) dJ6_stringSize_0f7a4_10 rfl rfl (Nat.le_of_ble_eq_true rfl) (Nat.le_of_ble_eq_true rfl) rfl ?_
  refine me_bipush (pc' := 13) (v := (-10)) dJ6_stringSize_0f7a4_11 rfl kc_bm10 ?_
  refine me_istore_n (pc' := 14) (i := 2) (L' := [some (.int (-(nI v))), some (.int 0), some (.int (-10)), none]) dJ6_stringSize_0f7a4_13 rfl rfl (Nat.le_of_ble_eq_true rfl) (Nat.le_of_ble_eq_true rfl) rfl ?_
  refine me_iconst (pc' := 15) (v := 1) dJ6_stringSize_0f7a4_14 rfl kc_i1 ?_
  refine me_istore_n (pc' := 16) (i := 3) (L' := [some (.int (-(nI v))), some (.int 0), some (.int (-10)), some (.int 1)]) dJ6_stringSize_0f7a4_15 rfl rfl (Nat.le_of_ble_eq_true rfl) (Nat.le_of_ble_eq_true rfl) rfl ?_
  refine me_iload_n (pc' := 17) (i := 3) dJ6_stringSize_0f7a4_16 rfl rfl rfl ?_
  refine me_bipush (pc' := 19) (v := 10) dJ6_stringSize_0f7a4_17 rfl kc_b10 ?_
  refine mm_pos (c := (1 : Int32) < 10) (o2 := none) (by decide : (1 : Int32) < 10) (me_icmp_ge (pc' := 22) (tgt := 42) dJ6_stringSize_0f7a4_19 (by decide) rfl (fun c9 => absurd (by decide : (1 : Int32) < 10) c9) (fun _ => ?_))
  refine me_iload_n (pc' := 23) (i := 0) dJ6_stringSize_0f7a4_22 rfl rfl rfl ?_
  refine me_iload_n (pc' := 24) (i := 2) dJ6_stringSize_0f7a4_23 rfl rfl rfl ?_
  refine mm_pos (c := (-10 : Int32) < -(nI v)) (o2 := none) (show -nI 10 < -nI v from (sb_nlt (by decide) (by omega)).mpr (by omega)) (me_icmp_le (pc' := 27) (tgt := 31) dJ6_stringSize_0f7a4_24 (by decide) rfl (fun c9 => absurd (show -nI 10 < -nI v from (sb_nlt (by decide) (by omega)).mpr (by omega)) c9) (fun _ => ?_))
  refine me_iload_n (pc' := 28) (i := 3) dJ6_stringSize_0f7a4_27 rfl rfl rfl ?_
  refine me_iload_n (pc' := 29) (i := 1) dJ6_stringSize_0f7a4_28 rfl rfl rfl ?_
  refine me_iadd (pc' := 30) dJ6_stringSize_0f7a4_29 rfl ?_
  rw [show ((1 + 0) : Int32) = nI (sb_dg v) from by
    rw [sb_dg, if_pos hv]
    rfl]
  exact me_iret dJ6_stringSize_0f7a4_30 rfl (fun z => z) rfl
theorem rJ6_stringSize2 {v : Nat} (hv : 10 ≤ v ∧ v < 100) (h : mm_H) : mm_R2 F F mJ6_stringSize_0f7a4 [.int (nI v)] h (some (nI (sb_dg v))) (lf_i h) := by
  refine mm_body (L := [some (.int (nI v)), none, none, none]) rfl (by decide +kernel) (Nat.le_of_ble_eq_true rfl) rfl ?_
  refine me_iconst (pc' := 1) (v := 1) dJ6_stringSize_0f7a4_0 rfl kc_i1 ?_
  refine me_istore_n (pc' := 2) (i := 1) (L' := [some (.int (nI v)), some (.int 1), none, none]) dJ6_stringSize_0f7a4_1 rfl rfl (Nat.le_of_ble_eq_true rfl) (Nat.le_of_ble_eq_true rfl) rfl ?_
  refine me_iload_n (pc' := 3) (i := 0) dJ6_stringSize_0f7a4_2 rfl rfl rfl ?_
  refine mm_neg (c := nI v < 0) (o2 := none) (nI_pos (by omega)) (me_if_lt (pc' := 6) (tgt := 11) dJ6_stringSize_0f7a4_3 (by decide) rfl (fun c9 => absurd c9 (nI_pos (by omega))) (fun _ => ?_))
  refine me_iconst (pc' := 7) (v := 0) dJ6_stringSize_0f7a4_6 rfl kc_i0 ?_
  refine me_istore_n (pc' := 8) (i := 1) (L' := [some (.int (nI v)), some (.int 0), none, none]) dJ6_stringSize_0f7a4_7 rfl rfl (Nat.le_of_ble_eq_true rfl) (Nat.le_of_ble_eq_true rfl) rfl ?_
  refine me_iload_n (pc' := 9) (i := 0) dJ6_stringSize_0f7a4_8 rfl rfl rfl ?_
  refine me_ineg (pc' := 10) dJ6_stringSize_0f7a4_9 rfl ?_
  refine me_istore_n (pc' := 11) (i := 0) (L' := [some (.int (-(nI v))), some (.int 0), none, none]) dJ6_stringSize_0f7a4_10 rfl rfl (Nat.le_of_ble_eq_true rfl) (Nat.le_of_ble_eq_true rfl) rfl ?_
  refine me_bipush (pc' := 13) (v := (-10)) dJ6_stringSize_0f7a4_11 rfl kc_bm10 ?_
  refine me_istore_n (pc' := 14) (i := 2) (L' := [some (.int (-(nI v))), some (.int 0), some (.int (-10)), none]) dJ6_stringSize_0f7a4_13 rfl rfl (Nat.le_of_ble_eq_true rfl) (Nat.le_of_ble_eq_true rfl) rfl ?_
  refine me_iconst (pc' := 15) (v := 1) dJ6_stringSize_0f7a4_14 rfl kc_i1 ?_
  refine me_istore_n (pc' := 16) (i := 3) (L' := [some (.int (-(nI v))), some (.int 0), some (.int (-10)), some (.int 1)]) dJ6_stringSize_0f7a4_15 rfl rfl (Nat.le_of_ble_eq_true rfl) (Nat.le_of_ble_eq_true rfl) rfl ?_
  refine me_iload_n (pc' := 17) (i := 3) dJ6_stringSize_0f7a4_16 rfl rfl rfl ?_
  refine me_bipush (pc' := 19) (v := 10) dJ6_stringSize_0f7a4_17 rfl kc_b10 ?_
  refine mm_pos (c := (1 : Int32) < 10) (o2 := none) (by decide : (1 : Int32) < 10) (me_icmp_ge (pc' := 22) (tgt := 42) dJ6_stringSize_0f7a4_19 (by decide) rfl (fun c9 => absurd (by decide : (1 : Int32) < 10) c9) (fun _ => ?_))
  refine me_iload_n (pc' := 23) (i := 0) dJ6_stringSize_0f7a4_22 rfl rfl rfl ?_
  refine me_iload_n (pc' := 24) (i := 2) dJ6_stringSize_0f7a4_23 rfl rfl rfl ?_
  refine mm_neg (c := (-10 : Int32) < -(nI v)) (o2 := none) (show ¬ -nI 10 < -nI v from fun z9 => by have := (sb_nlt (by decide) (by omega)).mp z9; omega) (me_icmp_le (pc' := 27) (tgt := 31) dJ6_stringSize_0f7a4_24 (by decide) rfl (fun _ => ?_) (fun c9 => absurd c9 (show ¬ -nI 10 < -nI v from fun z9 => by have := (sb_nlt (by decide) (by omega)).mp z9; omega)))
  refine me_bipush (pc' := 33) (v := 10) dJ6_stringSize_0f7a4_31 rfl kc_b10 ?_
  refine me_iload_n (pc' := 34) (i := 2) dJ6_stringSize_0f7a4_33 rfl rfl rfl ?_
  refine me_imul (pc' := 35) dJ6_stringSize_0f7a4_34 rfl ?_
  rw [show ((10 * (-10)) : Int32) = (-100) from (by decide)]
  refine me_istore_n (pc' := 36) (i := 2) (L' := [some (.int (-(nI v))), some (.int 0), some (.int (-100)), some (.int 1)]) dJ6_stringSize_0f7a4_35 rfl rfl (Nat.le_of_ble_eq_true rfl) (Nat.le_of_ble_eq_true rfl) rfl ?_
  refine me_iinc (pc' := 39) (i := 3) (y := 2) (L' := [some (.int (-(nI v))), some (.int 0), some (.int (-100)), some (.int 2)]) dJ6_stringSize_0f7a4_36 rfl (Nat.le_of_ble_eq_true rfl) (Nat.le_of_ble_eq_true rfl) rfl rfl rfl ?_
  refine me_goto (tgt := 16) dJ6_stringSize_0f7a4_39 (by decide) ?_
  refine me_iload_n (pc' := 17) (i := 3) dJ6_stringSize_0f7a4_16 rfl rfl rfl ?_
  refine me_bipush (pc' := 19) (v := 10) dJ6_stringSize_0f7a4_17 rfl kc_b10 ?_
  refine mm_pos (c := (2 : Int32) < 10) (o2 := none) (by decide : (2 : Int32) < 10) (me_icmp_ge (pc' := 22) (tgt := 42) dJ6_stringSize_0f7a4_19 (by decide) rfl (fun c9 => absurd (by decide : (2 : Int32) < 10) c9) (fun _ => ?_))
  refine me_iload_n (pc' := 23) (i := 0) dJ6_stringSize_0f7a4_22 rfl rfl rfl ?_
  refine me_iload_n (pc' := 24) (i := 2) dJ6_stringSize_0f7a4_23 rfl rfl rfl ?_
  refine mm_pos (c := (-100 : Int32) < -(nI v)) (o2 := none) (show -nI 100 < -nI v from (sb_nlt (by decide) (by omega)).mpr (by omega)) (me_icmp_le (pc' := 27) (tgt := 31) dJ6_stringSize_0f7a4_24 (by decide) rfl (fun c9 => absurd (show -nI 100 < -nI v from (sb_nlt (by decide) (by omega)).mpr (by omega)) c9) (fun _ => ?_))
  refine me_iload_n (pc' := 28) (i := 3) dJ6_stringSize_0f7a4_27 rfl rfl rfl ?_
  refine me_iload_n (pc' := 29) (i := 1) dJ6_stringSize_0f7a4_28 rfl rfl rfl ?_
  refine me_iadd (pc' := 30) dJ6_stringSize_0f7a4_29 rfl ?_
  rw [show ((2 + 0) : Int32) = nI (sb_dg v) from by
    rw [sb_dg, if_neg (by omega), if_pos hv.2]
    rfl]
  exact me_iret dJ6_stringSize_0f7a4_30 rfl (fun z => z) rfl
end MMSB4

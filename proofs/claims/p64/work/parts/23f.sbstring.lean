section MMSB6
/-! toString (gen24f.py) -/
variable {F G F' : mm_H → Prop} {h h0 : mm_H} {g m n : Nat} {t : Nat → Nat}
theorem mm_kk_Y (h : mm_H) (o p : Nat) (f : Nat → Int32) : mm_kk (ms_Y h o f) p = mm_kk h p := rfl
theorem mm_n_Y (h : mm_H) (o : Nat) (f : Nat → Int32) : mh_n (ms_Y h o f) = mh_n h := rfl
theorem mm_K_Y {h : mm_H} {o : Nat} {f : Nat → Int32} (z : mm_K h) : mm_K (ms_Y h o f) := z
theorem mm_K_R {h : mm_H} {o k : Nat} {v : Option Nat} (z : mm_K h) : mm_K (ms_R h o k v) := z
theorem mm_K_K {h : mm_H} {N t a : Nat} (z : mm_K h) : mm_K (ms_K h N t a) := congrArg (· + 1) z
theorem mm_K_C {h : mm_H} {a m q : Nat} (z : mm_K h) : mm_K (ms_C h a m q) := congrArg (· + 1) z
theorem mm_kk_Co {h : mm_H} {a m q o : Nat} (ho : o ≠ mh_n h) : mm_kk (ms_C h a m q) o = mm_kk h o := (mm_kk_Y _ _ _ _).trans (mm_kk_Ko ho)
theorem rJ7_checkLength {n : Nat} (hn : n < 2 ^ 31) (h : mm_H) : mm_R2 F F mJ7_checkLength_df160 [.int 0, .int (nI n)] h (some h) lf_v := by
  refine mm_body (L := [some (.int 0), some (.int (nI n))]) rfl (by decide +kernel) (Nat.le_of_ble_eq_true rfl) rfl ?_
  refine me_iload_n (pc' := 1) (i := 1) dJ7_checkLength_df160_0 rfl rfl rfl ?_
  refine me_iload_n (pc' := 2) (i := 0) dJ7_checkLength_df160_1 rfl rfl rfl ?_
  refine mm_neg (c := nI n < 0) (o2 := none) (nI_pos hn) (me_icmp_ge (pc' := 5) (tgt := 37) dJ7_checkLength_df160_2 (by decide) rfl (fun _ => ?_) (fun c9 => absurd c9 (nI_pos hn)))
  exact me_vret dJ7_checkLength_df160_37 rfl (fun z => z) rfl
theorem rJ7_copyOfRangeByte {a m n : Nat} (hk : mm_kk h a = (3, m)) (ha : a < mh_n h) (h352 : 352 ≤ mh_n h) (hlt : mh_n h < mm_NN) (hmq : n ≤ m) (hq : m ≤ 60000) (hf : sb_Fit (mh_I h a)) : mm_R2 mm_K mm_K mJ7_copyOfRangeByte_39247 [.ref a, .int 0, .int (nI n)] h (some (mh_n h, ms_C h a n n)) lf_ae := by
  have e0 : ∀ x : Int32, x - 0 = x := fun x => Int32.sub_zero x
  refine mm_body (L := [some (.ref a), some (.int 0), some (.int (nI n)), none, none]) rfl (by decide +kernel) (Nat.le_of_ble_eq_true rfl) rfl ?_
  refine me_iload_n (pc' := 1) (i := 1) dJ7_copyOfRangeByte_39247_0 rfl rfl rfl ?_
  refine me_iload_n (pc' := 2) (i := 2) dJ7_copyOfRangeByte_39247_1 rfl rfl rfl ?_
  refine me_callSt (As := [.int 0, .int (nI n)]) (st := []) (F' := mm_K) (G' := mm_K) (F'' := mm_K) (pc' := 5) dJ7_copyOfRangeByte_39247_2 rfl mfJ7_checkLength_df160 rfl lkJ7_343 ⟨Nat.le_of_ble_eq_true rfl, Nat.le_of_ble_eq_true rfl⟩ (Nat.le_of_ble_eq_true rfl) (fun z => z) (rJ7_checkLength (by omega) h) rfl (fun z => z) ?_
  show mm_E2 _ _ _ _ _ [] h _ _
  refine me_iload_n (pc' := 6) (i := 2) dJ7_copyOfRangeByte_39247_5 rfl rfl rfl ?_
  refine me_iload_n (pc' := 7) (i := 1) dJ7_copyOfRangeByte_39247_6 rfl rfl rfl ?_
  refine me_isub (pc' := 8) dJ7_copyOfRangeByte_39247_7 rfl ?_
  rw [show (((nI n) - 0) : Int32) = nI n from e0 _]
  refine me_istore_n (pc' := 9) (i := 3) (L' := [some (.ref a), some (.int 0), some (.int (nI n)), some (.int (nI n)), none]) dJ7_copyOfRangeByte_39247_8 rfl rfl (Nat.le_of_ble_eq_true rfl) (Nat.le_of_ble_eq_true rfl) rfl ?_
  refine me_iload_n (pc' := 10) (i := 3) dJ7_copyOfRangeByte_39247_9 rfl rfl rfl ?_
  refine me_newaBK (F' := mm_K) (pc' := 12) (N := n) h352 hlt dJ7_copyOfRangeByte_39247_10 rfl (nI_pos (by omega)) (nI_clamp (by omega)) (by omega) (fun z => z) (fun z => congrArg (· + 1) z) ?_
  refine me_astore (pc' := 14) (i := 4) (L' := [some (.ref a), some (.int 0), some (.int (nI n)), some (.int (nI n)), some (.ref (mh_n h))]) dJ7_copyOfRangeByte_39247_12 rfl (Nat.le_of_ble_eq_true rfl) (Nat.le_of_ble_eq_true rfl) rfl ?_
  refine me_aload_n (pc' := 15) (i := 0) dJ7_copyOfRangeByte_39247_14 rfl rfl rfl ?_
  refine me_iload_n (pc' := 16) (i := 1) dJ7_copyOfRangeByte_39247_15 rfl rfl rfl ?_
  refine me_aload (pc' := 18) (i := 4) dJ7_copyOfRangeByte_39247_16 rfl rfl ?_
  refine me_iconst (pc' := 19) (v := 0) dJ7_copyOfRangeByte_39247_18 rfl kc_i0 ?_
  refine me_aload_n (pc' := 20) (i := 0) dJ7_copyOfRangeByte_39247_19 rfl rfl rfl ?_
  refine me_alen (pc' := 21) (v := nI m) dJ7_copyOfRangeByte_39247_20 rfl (fun _ => (mm_kk_Ko (by omega)).trans hk) (fun _ => Nat.lt_succ_of_lt ha) rfl ?_
  refine me_iload_n (pc' := 22) (i := 1) dJ7_copyOfRangeByte_39247_21 rfl rfl rfl ?_
  refine me_isub (pc' := 23) dJ7_copyOfRangeByte_39247_22 rfl ?_
  rw [show (((nI m) - 0) : Int32) = nI m from e0 _]
  refine me_iload_n (pc' := 24) (i := 3) dJ7_copyOfRangeByte_39247_23 rfl rfl rfl ?_
  refine me_mmin (pc' := 27) dJ7_copyOfRangeByte_39247_24 rfl ljJ7_304 ⟨Nat.le_of_ble_eq_true rfl, Nat.le_of_ble_eq_true rfl⟩ (Nat.le_of_ble_eq_true rfl) ?_
  rw [show ((if nI n < nI m then nI n else nI m) : Int32) = nI n from by
    by_cases hz : n < m
    · rw [if_pos (nI_lt hz (by omega))]
    · rw [if_neg (nI_nlt (by omega) (by omega)), show m = n by omega]]
  refine me_copyb (F' := mm_K) (pc' := 30) dJ7_copyOfRangeByte_39247_27 rfl ljJ7_150 (n0 := m) (n1 := n) (fun _ => (mm_kk_Ko (by omega)).trans hk) (fun _ => mm_kk_K h352) (fun _ => Nat.lt_succ_of_lt ha) (fun _ => Nat.lt_succ_self _) hf (by decide) (by decide) (nI_pos (by omega)) (by rw [sb_cl0, nI_clamp (by omega)]; omega) (by rw [sb_cl0, nI_clamp (by omega)]; omega) ⟨Nat.le_of_ble_eq_true rfl, Nat.le_of_ble_eq_true rfl⟩ (Nat.le_of_ble_eq_true rfl) (fun z => z) ?_
  rw [sb_cl0, nI_clamp (show n < 2 ^ 31 by omega)]
  refine me_aload (pc' := 32) (i := 4) dJ7_copyOfRangeByte_39247_30 rfl rfl ?_
  exact me_aretA dJ7_copyOfRangeByte_39247_32 rfl (fun z => z) rfl
theorem rJ7_copyOfRange {a m n : Nat} (hk : mm_kk h a = (3, m)) (ha : a < mh_n h) (h352 : 352 ≤ mh_n h) (hlt : mh_n h < mm_NN) (hmq : n ≤ m) (hq : m ≤ 60000) (hf : sb_Fit (mh_I h a)) : mm_R2 mm_K mm_K mJ7_copyOfRange_39247 [.ref a, .int 0, .int (nI n)] h (some (mh_n h, ms_C h a n n)) lf_ae := by
  by_cases hc : n = m
  · subst hc
    refine mm_body (L := [some (.ref a), some (.int 0), some (.int (nI n))]) rfl (by decide +kernel) (Nat.le_of_ble_eq_true rfl) rfl ?_
    refine me_iload_n (pc' := 1) (i := 1) dJ7_copyOfRange_39247_0 rfl rfl rfl ?_
    refine mm_pos (c := (0 : Int32) = 0) (o2 := none) (rfl : (0 : Int32) = 0) (me_if_ne (pc' := 4) (tgt := 10) dJ7_copyOfRange_39247_1 (by decide) rfl (fun c9 => absurd (rfl : (0 : Int32) = 0) c9) (fun _ => ?_))
    refine me_iload_n (pc' := 5) (i := 2) dJ7_copyOfRange_39247_4 rfl rfl rfl ?_
    refine me_aload_n (pc' := 6) (i := 0) dJ7_copyOfRange_39247_5 rfl rfl rfl ?_
    refine me_alen (pc' := 7) (v := nI n) dJ7_copyOfRange_39247_6 rfl (fun _ => hk) (fun _ => ha) rfl ?_
    refine mm_pos (c := nI n = nI n) (o2 := none) (rfl : nI n = nI n) (me_icmp_eq (pc' := 10) (tgt := 17) dJ7_copyOfRange_39247_7 (by decide) rfl (fun _ => ?_) (fun c9 => absurd (rfl : nI n = nI n) c9))
    refine me_aload_n (pc' := 18) (i := 0) dJ7_copyOfRange_39247_17 rfl rfl rfl ?_
    refine me_clone (F' := mm_K) (pc' := 21) h352 hlt dJ7_copyOfRange_39247_18 rfl (mm_gw_of (List.mem_of_getElem? (i := 1072) (by decide +kernel)) rfl) hk ha hf ⟨Nat.le_of_ble_eq_true rfl, Nat.le_of_ble_eq_true rfl⟩ (Nat.le_of_ble_eq_true rfl) (fun z => z) (fun z => mm_K_C z) ?_
    refine me_castB (n := n) (pc' := 24) dJ7_copyOfRange_39247_21 rfl (mm_gw_of (List.mem_of_getElem? (i := 1078) (by decide +kernel)) rfl) (fun _ => (mm_kk_Y _ _ _ _).trans (mm_kk_K h352)) (fun _ => Nat.lt_succ_self _) ?_
    exact me_aretA dJ7_copyOfRange_39247_24 rfl (fun z => z) rfl
  · skip
    refine mm_body (L := [some (.ref a), some (.int 0), some (.int (nI n))]) rfl (by decide +kernel) (Nat.le_of_ble_eq_true rfl) rfl ?_
    refine me_iload_n (pc' := 1) (i := 1) dJ7_copyOfRange_39247_0 rfl rfl rfl ?_
    refine mm_pos (c := (0 : Int32) = 0) (o2 := none) (rfl : (0 : Int32) = 0) (me_if_ne (pc' := 4) (tgt := 10) dJ7_copyOfRange_39247_1 (by decide) rfl (fun c9 => absurd (rfl : (0 : Int32) = 0) c9) (fun _ => ?_))
    refine me_iload_n (pc' := 5) (i := 2) dJ7_copyOfRange_39247_4 rfl rfl rfl ?_
    refine me_aload_n (pc' := 6) (i := 0) dJ7_copyOfRange_39247_5 rfl rfl rfl ?_
    refine me_alen (pc' := 7) (v := nI m) dJ7_copyOfRange_39247_6 rfl (fun _ => hk) (fun _ => ha) rfl ?_
    refine mm_neg (c := nI n = nI m) (o2 := none) (fun z9 => hc ((nI_eq (by omega) (by omega)).mp z9)) (me_icmp_eq (pc' := 10) (tgt := 17) dJ7_copyOfRange_39247_7 (by decide) rfl (fun c9 => absurd c9 (fun z9 => hc ((nI_eq (by omega) (by omega)).mp z9))) (fun _ => ?_))
    refine me_aload_n (pc' := 11) (i := 0) dJ7_copyOfRange_39247_10 rfl rfl rfl ?_
    refine me_iload_n (pc' := 12) (i := 1) dJ7_copyOfRange_39247_11 rfl rfl rfl ?_
    refine me_iload_n (pc' := 13) (i := 2) dJ7_copyOfRange_39247_12 rfl rfl rfl ?_
    refine me_callSt (As := [.ref a, .int 0, .int (nI n)]) (st := []) (F' := mm_K) (G' := mm_K) (F'' := mm_K) (pc' := 16) dJ7_copyOfRange_39247_13 rfl mfJ7_copyOfRangeByte_39247 rfl lkJ7_339 ⟨Nat.le_of_ble_eq_true rfl, Nat.le_of_ble_eq_true rfl⟩ (Nat.le_of_ble_eq_true rfl) (fun z => z) (rJ7_copyOfRangeByte hk ha h352 hlt hmq hq hf) rfl (fun z => z) ?_
    show mm_E2 _ _ _ _ _ [.ref (mh_n h)] (ms_C h a n n) _ _
    exact me_aretA dJ7_copyOfRange_39247_16 rfl (fun z => z) rfl
/-- a String, just made at 354 + g -/
theorem sb_VK (W : sb_W h0 g m n t h) : sb_V g m n (ms_K h 4 0 13) := by
  have hn := W.1.1.1
  exact ⟨⟨(mm_kk_Ko (by omega)).trans (sb_k W), show 352 < mh_n h + 1 by omega⟩, ⟨(mm_kk_Ko (by omega)).trans (sb_vk W), show 353 + g < mh_n h + 1 by omega⟩, (sb_c W : mh_I h 352 1 = 0), (sb_n W : mh_I h 352 3 = nI n), (sb_r W : mh_R h 352 0 = some (353 + g))⟩
theorem sb_SK (W : sb_W h0 g m n t h) : mm_kk (ms_K h 4 0 13) (354 + g) = (0, 13) ∧ mh_n (ms_K h 4 0 13) = 355 + g := by
  have hn := W.1.1.1
  have h1 := mm_kk_K (h := h) (N := 4) (t := 0) (a := 13) (by omega)
  rw [hn] at h1
  exact ⟨h1, show mh_n h + 1 = 355 + g by omega⟩
/-- the String of n letters at 354 + g, its bytes at 355 + g -/
def ms_Z (h : mm_H) (g n : Nat) : mm_H := ms_R (ms_C (ms_I (ms_K h 4 0 13) (354 + g) 1 0) (353 + g) n n) (354 + g) 0 (some (355 + g))
theorem rJ0_initA (W : sb_W h0 g m n t h) : mm_R2 mm_K mm_K mJ0_init_db425 [.ref (354 + g), .ref 352, .null] (ms_K h 4 0 13) (some (ms_Z h g n)) lf_v := by
  have V := sb_VK W
  obtain ⟨ks, hn⟩ := sb_SK W
  have g4 := sb_g4 W
  obtain ⟨nm, -, m7⟩ := W.2.1.2.1
  generalize hX : ms_K h 4 0 13 = X at *
  have hf : sb_Fit (mh_I (ms_I X (354 + g) 1 0) (353 + g)) := by
    rw [sx_Io X (354 + g) 1 (353 + g) 0 (by omega), ← hX]
    exact W.2.1.2.2.2
  have hnI : mh_n (ms_I X (354 + g) 1 0) = 355 + g := (mm_n_I X _ _ _).trans hn
  have hnI2 : mh_n (ms_I X (354 + g) 1 0) < mm_NN := by
    rw [hnI]
    show 355 + g < 400
    omega
  have kv : mm_kk (ms_I X (354 + g) 1 0) (353 + g) = (3, m) := (mm_kk_I X _ _ _ _).trans V.2.1.1
  have ks2 : mm_kk (ms_C (ms_I X (354 + g) 1 0) (353 + g) n n) (354 + g) = (0, 13) := (mm_kk_Co (by omega)).trans ((mm_kk_I X _ _ _ _).trans ks)
  have ns2 : 354 + g < mh_n (ms_C (ms_I X (354 + g) 1 0) (353 + g) n n) := by
    show 354 + g < mh_n (ms_I X (354 + g) 1 0) + 1
    omega
  have hZ : ms_Z h g n = ms_R (ms_C (ms_I X (354 + g) 1 0) (353 + g) n n) (354 + g) 0 (some (355 + g)) := by rw [← hX]; rfl
  rw [hZ]
  refine mm_body (L := [some (.ref (354 + g)), some (.ref 352), some (.null), none, none]) rfl (by decide +kernel) (Nat.le_of_ble_eq_true rfl) rfl ?_
  refine me_aload_n (pc' := 1) (i := 0) dJ0_init_db425_0 rfl rfl rfl ?_
  refine me_objInit (pc' := 4) dJ0_init_db425_1 rfl (mm_gw_of (List.mem_of_getElem? (i := 1201) (by decide +kernel)) rfl) ⟨Nat.le_of_ble_eq_true rfl, Nat.le_of_ble_eq_true rfl⟩ (Nat.le_of_ble_eq_true rfl) ?_
  refine me_aload_n (pc' := 5) (i := 1) dJ0_init_db425_4 rfl rfl rfl ?_
  refine me_callU (b0 := prog_15_method_64_code) (m0 := 1) (r0 := (Option.some (Jvm.ClassFile.FieldType.array Jvm.ClassFile.FieldType.byte))) (x := ⟨"java/lang/AbstractStringBuilder", "getValue", "()[B"⟩) (As := []) (st := []) (F' := mm_K) (G' := mm_K) (F'' := mm_K) (pc' := 8) dJ0_init_db425_5 rfl mfJ5_getValue_6d5f1 rfl (mm_gw_of (List.mem_of_getElem? (i := 1202) (by decide +kernel)) rfl) (mm_gw_of (List.mem_of_getElem? (i := 1204) (by decide +kernel)) rfl) ⟨(mm_gw_of (List.mem_of_getElem? (i := 1203) (by decide +kernel)) rfl), (mm_gw_of (List.mem_of_getElem? (i := 1206) (by decide +kernel)) rfl)⟩ (Or.inl (mm_gw_of (List.mem_of_getElem? (i := 1205) (by decide +kernel)) rfl)) ⟨by decide, by decide +kernel⟩ (fun _ => V.1.1) rfl (fun _ => V.1.2) ⟨Nat.le_of_ble_eq_true rfl, Nat.le_of_ble_eq_true rfl⟩ (Nat.le_of_ble_eq_true rfl) (fun z => z) (rJ5_getValue V) rfl (fun z => z) ?_
  show mm_E2 _ _ _ _ _ [.ref (353 + g)] X _ _
  refine me_astore_n (pc' := 9) (i := 3) (L' := [some (.ref (354 + g)), some (.ref 352), some (.null), some (.ref (353 + g)), none]) dJ0_init_db425_8 rfl rfl (Nat.le_of_ble_eq_true rfl) (Nat.le_of_ble_eq_true rfl) rfl ?_
  refine me_aload_n (pc' := 10) (i := 1) dJ0_init_db425_9 rfl rfl rfl ?_
  refine me_callU (b0 := prog_15_method_6_code) (m0 := 1) (r0 := (Option.some Jvm.ClassFile.FieldType.int)) (x := ⟨"java/lang/AbstractStringBuilder", "length", "()I"⟩) (As := []) (st := []) (F' := mm_K) (G' := mm_K) (F'' := mm_K) (pc' := 13) dJ0_init_db425_10 rfl mfJ4_length_8abf5 rfl (mm_gw_of (List.mem_of_getElem? (i := 1207) (by decide +kernel)) rfl) (mm_gw_of (List.mem_of_getElem? (i := 1209) (by decide +kernel)) rfl) ⟨(mm_gw_of (List.mem_of_getElem? (i := 1208) (by decide +kernel)) rfl), (mm_gw_of (List.mem_of_getElem? (i := 1214) (by decide +kernel)) rfl)⟩ (Or.inl (mm_gw_of (List.mem_of_getElem? (i := 1210) (by decide +kernel)) rfl)) ⟨by decide, by decide +kernel⟩ (fun _ => V.1.1) rfl (fun _ => V.1.2) ⟨Nat.le_of_ble_eq_true rfl, Nat.le_of_ble_eq_true rfl⟩ (Nat.le_of_ble_eq_true rfl) (fun z => z) (rJ4_length V) rfl (fun z => z) ?_
  show mm_E2 _ _ _ _ _ [.int (nI n)] X _ _
  refine me_istore (pc' := 15) (i := 4) (L' := [some (.ref (354 + g)), some (.ref 352), some (.null), some (.ref (353 + g)), some (.int (nI n))]) dJ0_init_db425_13 rfl (Nat.le_of_ble_eq_true rfl) (Nat.le_of_ble_eq_true rfl) rfl ?_
  refine me_aload_n (pc' := 16) (i := 1) dJ0_init_db425_15 rfl rfl rfl ?_
  refine me_callU (b0 := prog_15_method_68_code) (m0 := 1) (r0 := (Option.some Jvm.ClassFile.FieldType.boolean)) (x := ⟨"java/lang/AbstractStringBuilder", "isLatin1", "()Z"⟩) (As := []) (st := []) (F' := mm_K) (G' := mm_K) (F'' := mm_K) (pc' := 19) dJ0_init_db425_16 rfl mfJ5_isLatin1_aae02 rfl (mm_gw_of (List.mem_of_getElem? (i := 1215) (by decide +kernel)) rfl) (mm_gw_of (List.mem_of_getElem? (i := 1083) (by decide +kernel)) rfl) ⟨(mm_gw_of (List.mem_of_getElem? (i := 1082) (by decide +kernel)) rfl), (mm_gw_of (List.mem_of_getElem? (i := 1085) (by decide +kernel)) rfl)⟩ (Or.inl (mm_gw_of (List.mem_of_getElem? (i := 1084) (by decide +kernel)) rfl)) ⟨by decide, by decide +kernel⟩ (fun _ => V.1.1) rfl (fun _ => V.1.2) ⟨Nat.le_of_ble_eq_true rfl, Nat.le_of_ble_eq_true rfl⟩ (Nat.le_of_ble_eq_true rfl) (fun z => z) (rJ5_isLatin1 V) rfl (fun z => z) ?_
  show mm_E2 _ _ _ _ _ [.int 1] X _ _
  refine mm_neg (c := (1 : Int32) = 0) (o2 := none) (by decide : ¬ (1 : Int32) = 0) (me_if_eq (pc' := 22) (tgt := 41) dJ0_init_db425_19 (by decide) rfl (fun c9 => absurd c9 (by decide : ¬ (1 : Int32) = 0)) (fun _ => ?_))
  refine me_aload_n (pc' := 23) (i := 0) dJ0_init_db425_22 rfl rfl rfl ?_
  refine me_iconst (pc' := 24) (v := 0) dJ0_init_db425_23 rfl kc_i0 ?_
  refine me_putFC (F' := mm_K) (pc' := 27) dJ0_init_db425_24 rfl rfl rfl (fun _ => ks) (fun _ => (by omega : 354 + g < mh_n X)) (fun z => mm_K_I z) ?_
  refine me_aload_n (pc' := 28) (i := 0) dJ0_init_db425_27 rfl rfl rfl ?_
  refine me_aload_n (pc' := 29) (i := 3) dJ0_init_db425_28 rfl rfl rfl ?_
  refine me_iconst (pc' := 30) (v := 0) dJ0_init_db425_29 rfl kc_i0 ?_
  refine me_iload (pc' := 32) (i := 4) dJ0_init_db425_30 rfl rfl ?_
  refine me_callSt (As := [.ref (353 + g), .int 0, .int (nI n)]) (st := [.ref (354 + g)]) (F' := mm_K) (G' := mm_K) (F'' := mm_K) (pc' := 35) dJ0_init_db425_32 rfl mfJ7_copyOfRange_39247 rfl lkJ0_54 ⟨Nat.le_of_ble_eq_true rfl, Nat.le_of_ble_eq_true rfl⟩ (Nat.le_of_ble_eq_true rfl) (fun z => z) (rJ7_copyOfRange kv (by omega) (by omega) hnI2 nm (by omega) hf) rfl (fun z => z) ?_
  show mm_E2 _ _ _ _ _ [.ref (mh_n (ms_I X (354 + g) 1 0)), .ref (354 + g)] (ms_C (ms_I X (354 + g) 1 0) (353 + g) n n) _ _
  rw [hnI]
  refine me_putF (F' := mm_K) (pc' := 38) dJ0_init_db425_35 rfl foJ0_9 (fun _ => ks2) (fun _ => ns2) rfl rfl pfJ0_0 (fun z => mm_K_R z) ?_
  refine me_goto (tgt := 97) dJ0_init_db425_38 (by decide) ?_
  exact me_vret dJ0_init_db425_97 rfl (fun z => z) rfl
theorem rJ0_initS (W : sb_W h0 g m n t h) : mm_R2 mm_K mm_K mJ0_init_81219 [.ref (354 + g), .ref 352] (ms_K h 4 0 13) (some (ms_Z h g n)) lf_v := by
  refine mm_body (L := [some (.ref (354 + g)), some (.ref 352)]) rfl (by decide +kernel) (Nat.le_of_ble_eq_true rfl) rfl ?_
  refine me_aload_n (pc' := 1) (i := 0) dJ0_init_81219_0 rfl rfl rfl ?_
  refine me_aload_n (pc' := 2) (i := 1) dJ0_init_81219_1 rfl rfl rfl ?_
  refine me_null (pc' := 3) dJ0_init_81219_2 rfl ?_
  refine me_callIt (As := [.ref 352, .null]) (st := []) (F' := mm_K) (G' := mm_K) (F'' := mm_K) (pc' := 6) dJ0_init_81219_3 rfl mfJ0_init_db425 rfl lkJ0_489 ⟨Nat.le_of_ble_eq_true rfl, Nat.le_of_ble_eq_true rfl⟩ (Nat.le_of_ble_eq_true rfl) (fun z => z) (rJ0_initA W) rfl (fun z => z) ?_
  show mm_E2 _ _ _ _ _ [] (ms_Z h g n) _ _
  exact me_vret dJ0_init_81219_6 rfl (fun z => z) rfl
theorem rJ4_toString (W : sb_W h0 g m n t h) : mm_R2 mm_K mm_K mJ4_toString_0e30d [.ref 352] h (some (354 + g, ms_Z h g n)) lf_ae := by
  have hn : mh_n h = 354 + g := W.1.1.1
  have g4 := sb_g4 W
  refine mm_body (L := [some (.ref 352)]) rfl (by decide +kernel) (Nat.le_of_ble_eq_true rfl) rfl ?_
  refine me_newK (F' := mm_K) (pc' := 3) (N := 4) (by omega) (show mh_n h < 400 by omega) dJ4_toString_0e30d_0 rfl nkJ4_18 rfl (fun z => z) (fun z => mm_K_K z) ?_
  rw [hn]
  refine me_dup (pc' := 4) dJ4_toString_0e30d_3 rfl rfl ?_
  refine me_aload_n (pc' := 5) (i := 0) dJ4_toString_0e30d_4 rfl rfl rfl ?_
  refine me_callIt (As := [.ref 352]) (st := [.ref (354 + g)]) (F' := mm_K) (G' := mm_K) (F'' := mm_K) (pc' := 8) dJ4_toString_0e30d_5 rfl mfJ0_init_81219 rfl lkJ4_137 ⟨Nat.le_of_ble_eq_true rfl, Nat.le_of_ble_eq_true rfl⟩ (Nat.le_of_ble_eq_true rfl) (fun z => z) (rJ0_initS W) rfl (fun z => z) ?_
  show mm_E2 _ _ _ _ _ [.ref (354 + g)] (ms_Z h g n) _ _
  exact me_aret dJ4_toString_0e30d_8 rfl (fun z => z) rfl
end MMSB6

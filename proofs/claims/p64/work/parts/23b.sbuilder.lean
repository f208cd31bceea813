section MMSB2
theorem sx_I1 (h : mm_H) (o k : Nat) (v : Int32) : mh_I (ms_I h o k v) o k = v := if_pos ⟨rfl, rfl⟩
theorem sx_I2 (h : mm_H) (o k j : Nat) (v : Int32) (hj : j ≠ k) : mh_I (ms_I h o k v) o j = mh_I h o j := if_neg (fun z => hj z.2)
theorem sx_R1 (h : mm_H) (o k : Nat) (v : Option Nat) : mh_R (ms_R h o k v) o k = v := if_pos ⟨rfl, rfl⟩
theorem si_0lt {b : Nat} (h : 0 < b) (hb : b < 2 ^ 31) : (0 : Int32) < nI b := nI_lt (a := 0) h hb
/-! StringBuilder over the small machine: object 352, its bytes the last object (gen23.py) -/
/-- after g growths: capacity m, n letters t; the class's objects as at h0 -/
def sb_W (h0 : mm_H) (g m n : Nat) (t : Nat → Nat) (h : mm_H) : Prop :=
  ((mh_n h = 354 + g ∧ mh_c h = 354 + g ∧ mh_w h ≤ mh_w h0 + 4 + 2 * m) ∧ (mh_D h 352 0 = 0 ∧ mh_D h 352 1 = 12) ∧ mh_R h 352 0 = some (353 + g) ∧ mh_I h 352 1 = 0 ∧ mh_I h 352 3 = nI n) ∧
  ((mh_D h (353 + g) 0 = 3 ∧ mh_D h (353 + g) 1 = m) ∧ (n ≤ m ∧ 26 * 2 ^ g ≤ m ∧ m ≤ 700) ∧ sb_Lat t n (mh_I h (353 + g)) ∧ sb_Fit (mh_I h (353 + g))) ∧
  (∀ o, o < 352 → mh_I h o = mh_I h0 o ∧ mh_R h o = mh_R h0 o) ∧ (∀ k, mh_I h 400 k = mh_I h0 400 k) ∧ ∀ o, 354 + g ≤ o → o < 400 → ∀ k, mh_I h o k = 0
variable {F G F' : mm_H → Prop} {h h0 : mm_H} {g m n : Nat} {t : Nat → Nat}
theorem sb_k (W : sb_W h0 g m n t h) : mm_kk h 352 = (0, 12) := by
  unfold mm_kk
  rw [if_neg (by decide), W.1.2.1.1, W.1.2.1.2]
theorem sb_vk (W : sb_W h0 g m n t h) : mm_kk h (353 + g) = (3, m) := by
  unfold mm_kk
  rw [if_neg (by omega), W.2.1.1.1, W.2.1.1.2]
theorem sb_l (W : sb_W h0 g m n t h) : 352 < mh_n h := by rw [W.1.1.1]; omega
theorem sb_vl (W : sb_W h0 g m n t h) : 353 + g < mh_n h := by rw [W.1.1.1]; omega
theorem sb_c (W : sb_W h0 g m n t h) : mh_I h 352 1 = 0 := W.1.2.2.2.1
theorem sb_n (W : sb_W h0 g m n t h) : mh_I h 352 3 = nI n := W.1.2.2.2.2
theorem sb_r (W : sb_W h0 g m n t h) : mh_R h 352 0 = some (353 + g) := W.1.2.2.1
theorem sb_g4 (W : sb_W h0 g m n t h) : g ≤ 4 := by
  obtain ⟨-, h2, h3⟩ := W.2.1.2.1
  rcases Nat.lt_or_ge 4 g with h4 | h4
  · have h5 : 2 ^ 5 ≤ 2 ^ g := Nat.pow_le_pow_right (by decide) h4
    omega
  · exact h4
theorem sb_m26 (W : sb_W h0 g m n t h) : 26 ≤ m := by
  obtain ⟨-, h2, -⟩ := W.2.1.2.1
  have h5 : 0 < 2 ^ g := Nat.pow_pos (by decide)
  omega
theorem mm_kk_Ko {N t a o : Nat} (ho : o ≠ mh_n h) : mm_kk (ms_K h N t a) o = mm_kk h o := by
  unfold mm_kk
  have e1 : ∀ k, mh_D (ms_K h N t a) o k = mh_D h o k := fun k => if_neg ho
  rw [e1, e1]
/-- the count, behind letters that stand already -/
theorem sb_len {n' : Nat} {t' : Nat → Nat} (W : sb_W h0 g m n t h) (hn : n' ≤ m) (hL : sb_Lat t' n' (mh_I h (353 + g))) : sb_W h0 g m n' t' (ms_I h 352 3 (nI n')) := by
  obtain ⟨⟨w1, w2, w3, w4, w5⟩, ⟨w6, w7, w8, w9⟩, w10, w11, w12⟩ := W
  have e : ∀ o, o ≠ 352 → mh_I (ms_I h 352 3 (nI n')) o = mh_I h o := fun o ho => funext fun k => if_neg (fun z => ho z.1)
  refine ⟨⟨w1, w2, w3, ?_, sx_I1 h 352 3 (nI n')⟩, ⟨w6, ⟨hn, w7.2⟩, by rw [e _ (by omega)]; exact hL, by rw [e _ (by omega)]; exact w9⟩, fun o ho => ⟨by rw [e _ (by omega)]; exact (w10 o ho).1, (w10 o ho).2⟩, fun k => by rw [e _ (by decide)]; exact w11 k, fun o h1 h2 k => by rw [e _ (by omega)]; exact w12 o h1 h2 k⟩
  rw [sx_I2 h 352 3 1 _ (by decide)]
  exact w4
/-- a byte behind the letters -/
theorem sb_put {k : Nat} {v : Int32} (W : sb_W h0 g m n t h) (hk : n ≤ k) (hv : fits .byte (.int v) = true) : sb_W h0 g m n t (ms_I h (353 + g) k v) := by
  obtain ⟨⟨w1, w2, w3, w4, w5⟩, ⟨w6, w7, w8, w9⟩, w10, w11, w12⟩ := W
  have e : ∀ o, o ≠ 353 + g → mh_I (ms_I h (353 + g) k v) o = mh_I h o := fun o ho => funext fun k => if_neg (fun z => ho z.1)
  have e2 : mh_I (ms_I h (353 + g) k v) (353 + g) = upd (mh_I h (353 + g)) k v := by
    funext j
    show mm_up (mh_I h) (353 + g) k v (353 + g) j = _
    rw [mm_up_row]
    rfl
  have g4 := sb_g4 (h0 := h0) (g := g) (m := m) (n := n) (t := t) (h := h) ⟨⟨w1, w2, w3, w4, w5⟩, ⟨w6, w7, w8, w9⟩, w10, w11, w12⟩
  refine ⟨⟨w1, w2, w3, by rw [e _ (by omega)]; exact w4, by rw [e _ (by omega)]; exact w5⟩, ⟨w6, w7, ?_, ?_⟩, fun o ho => ⟨by rw [e _ (by omega)]; exact (w10 o ho).1, (w10 o ho).2⟩, fun k => by rw [e _ (by omega)]; exact w11 k, fun o h1 h2 k => by rw [e _ (by omega)]; exact w12 o h1 h2 k⟩
  · rw [e2]
    exact sb_latKeep w8 (fun j hj => pk_un (by omega))
  · rw [e2]
    exact sb_fitU w9 hv
/-- a text behind the letters -/
theorem sb_row {f : Nat → Int32} (W : sb_W h0 g m n t h) (hL : sb_Lat t n f) (hf : sb_Fit f) : sb_W h0 g m n t (ms_Y h (353 + g) f) := by
  have g4 := sb_g4 W
  obtain ⟨⟨w1, w2, w3, w4, w5⟩, ⟨w6, w7, w8, w9⟩, w10, w11, w12⟩ := W
  have e : ∀ o, o ≠ 353 + g → mh_I (ms_Y h (353 + g) f) o = mh_I h o := fun o ho => funext fun k => if_neg ho
  have e2 : mh_I (ms_Y h (353 + g) f) (353 + g) = f := funext fun j => if_pos rfl
  exact ⟨⟨w1, w2, w3, by rw [e _ (by omega)]; exact w4, by rw [e _ (by omega)]; exact w5⟩, ⟨w6, w7, by rw [e2]; exact hL, by rw [e2]; exact hf⟩, fun o ho => ⟨by rw [e _ (by omega)]; exact (w10 o ho).1, (w10 o ho).2⟩, fun k => by rw [e _ (by omega)]; exact w11 k, fun o h1 h2 k => by rw [e _ (by omega)]; exact w12 o h1 h2 k⟩
/-- an array of q bytes more, with the bytes of a; -/
def ms_C (h : mm_H) (a m q : Nat) : mm_H := ms_Y (ms_K h q 3 q) (mh_n h) (va_cpy (mh_I h a) (mh_I h (mh_n h)) 0 0 m)
/-- a growth -/
theorem sb_grow (W : sb_W h0 g m n t h) (hm : 2 * m + 2 ≤ 700) : sb_W h0 (g + 1) (2 * m + 2) n t (ms_R (ms_C h (353 + g) m (2 * m + 2)) 352 0 (some (354 + g))) := by
  have g4 := sb_g4 W
  obtain ⟨⟨⟨w1, w1', w1''⟩, w2, w3, w4, w5⟩, ⟨w6, w7, w8, w9⟩, w10, w11, w12⟩ := W
  have en : mh_n h = 353 + (g + 1) := by rw [w1]; omega
  have e : ∀ o, o ≠ 354 + g → mh_I (ms_C h (353 + g) m (2 * m + 2)) o = mh_I h o := fun o ho => funext fun k => if_neg (by rw [w1]; exact ho)
  have e2 : mh_I (ms_C h (353 + g) m (2 * m + 2)) (353 + (g + 1)) = va_cpy (mh_I h (353 + g)) (mh_I h (mh_n h)) 0 0 m := funext fun k => if_pos en.symm
  have d : ∀ o, o ≠ 354 + g → ∀ k, mh_D (ms_K h (2 * m + 2) 3 (2 * m + 2)) o k = mh_D h o k := fun o ho k => if_neg (by rw [w1]; exact ho)
  have d2 : mh_D (ms_K h (2 * m + 2) 3 (2 * m + 2)) (353 + (g + 1)) 0 = 3 ∧ mh_D (ms_K h (2 * m + 2) 3 (2 * m + 2)) (353 + (g + 1)) 1 = 2 * m + 2 := by
    rw [← en]
    constructor
    · show (if mh_n h = mh_n h then (if 0 = 0 then 3 else _) else _) = 3
      rw [if_pos rfl, if_pos rfl]
    · show (if mh_n h = mh_n h then (if 1 = 0 then 3 else if 1 = 1 then 2 * m + 2 else 0) else _) = 2 * m + 2
      rw [if_pos rfl, if_neg (by decide), if_pos rfl]
  have z : ∀ k, mh_I h (mh_n h) k = 0 := fun k => w12 _ (by omega) (by omega) k
  refine ⟨⟨⟨?_, ?_, ?_⟩, ⟨(d 352 (by omega) 0).trans w2.1, (d 352 (by omega) 1).trans w2.2⟩, (sx_R1 _ 352 0 (some (354 + g))).trans (congrArg some (show 354 + g = 353 + (g + 1) by omega)), (congrFun (e 352 (by omega)) 1).trans w4, (congrFun (e 352 (by omega)) 3).trans w5⟩, ⟨d2, ⟨?_, ?_, hm⟩, ?_, ?_⟩, fun o ho => ⟨(e o (by omega)).trans (w10 o ho).1, ?_⟩, fun k => (congrFun (e 400 (by omega)) k).trans (w11 k), fun o h1 h2 k => (congrFun (e o (by omega)) k).trans (w12 o (by omega) h2 k)⟩
  · show mh_n h + 1 = 354 + (g + 1)
    omega
  · show mh_c h + 1 = 354 + (g + 1)
    omega
  · show mh_w h + (2 * m + 2) ≤ mh_w h0 + 4 + 2 * (2 * m + 2)
    omega
  · omega
  · rw [Nat.pow_succ]
    omega
  · show sb_Lat t n (mh_I (ms_C h (353 + g) m (2 * m + 2)) (353 + (g + 1)))
    rw [e2]
    exact sb_latKeep w8 (fun j hj => sb_cpy0 (by omega))
  · show sb_Fit (mh_I (ms_C h (353 + g) m (2 * m + 2)) (353 + (g + 1)))
    rw [e2]
    refine sb_fitC w9 (fun j => ?_)
    rw [z j]
    exact sb_fit0 j
  · show mm_up (mh_R h) 352 0 (some (354 + g)) o = _
    rw [show mm_up (mh_R h) 352 0 (some (354 + g)) o = mh_R h o from funext fun j => if_neg (fun z => by omega)]
    exact (w10 o ho).2
theorem rJ8_newLength {a b c : Nat} (hbc : b ≤ c) (h0 : 0 < a + c) (hac : a + c < 2 ^ 20) : mm_R2 F F mJ8_newLength_cabcc [.int (nI a), .int (nI b), .int (nI c)] h (some (nI (a + c))) (lf_i h) := by
  refine mm_body (L := [some (.int (nI a)), some (.int (nI b)), some (.int (nI c)), none]) rfl (by decide +kernel) (Nat.le_of_ble_eq_true rfl) rfl ?_
  refine me_iload_n (pc' := 1) (i := 0) dJ8_newLength_cabcc_0 rfl rfl rfl ?_
  refine me_iload_n (pc' := 2) (i := 1) dJ8_newLength_cabcc_1 rfl rfl rfl ?_
  refine me_iload_n (pc' := 3) (i := 2) dJ8_newLength_cabcc_2 rfl rfl rfl ?_
  refine me_mmax (pc' := 6) dJ8_newLength_cabcc_3 rfl ljJ8_194 ⟨Nat.le_of_ble_eq_true rfl, Nat.le_of_ble_eq_true rfl⟩ (Nat.le_of_ble_eq_true rfl) ?_
  rw [show ((if nI b < nI c then nI c else nI b) : Int32) = nI c from by
    by_cases hz : b < c
    · rw [if_pos (nI_lt hz (by omega))]
    · rw [if_neg (nI_nlt (by omega) (by omega)), show b = c by omega]]
  refine me_iadd (pc' := 7) dJ8_newLength_cabcc_6 rfl ?_
  rw [show (((nI a) + (nI c)) : Int32) = nI (a + c) from nI_add a c]
  refine me_istore_n (pc' := 8) (i := 3) (L' := [some (.int (nI a)), some (.int (nI b)), some (.int (nI c)), some (.int (nI (a + c)))]) dJ8_newLength_cabcc_7 rfl rfl (Nat.le_of_ble_eq_true rfl) (Nat.le_of_ble_eq_true rfl) rfl ?_
  refine me_iconst (pc' := 9) (v := 0) dJ8_newLength_cabcc_8 rfl kc_i0 ?_
  refine me_iload_n (pc' := 10) (i := 3) dJ8_newLength_cabcc_9 rfl rfl rfl ?_
  refine mm_pos (c := (0 : Int32) < nI (a + c)) (o2 := none) (si_0lt h0 (by omega)) (me_icmp_ge (pc' := 13) (tgt := 21) dJ8_newLength_cabcc_10 (by decide) rfl (fun c9 => absurd (si_0lt h0 (by omega)) c9) (fun _ => ?_))
  refine me_iload_n (pc' := 14) (i := 3) dJ8_newLength_cabcc_13 rfl rfl rfl ?_
  refine me_ldcI (pc' := 16) (v := 2147483639) dJ8_newLength_cabcc_14 rfl (mm_gw_of (List.mem_of_getElem? (i := 1065) (by decide +kernel)) rfl) ?_
  refine mm_neg (c := (2147483639 : Int32) < nI (a + c)) (o2 := none) (show ¬ nI 2147483639 < nI (a + c) from nI_nlt (by omega) (by decide)) (me_icmp_gt (pc' := 19) (tgt := 21) dJ8_newLength_cabcc_16 (by decide) rfl (fun c9 => absurd c9 (show ¬ nI 2147483639 < nI (a + c) from nI_nlt (by omega) (by decide))) (fun _ => ?_))
  refine me_iload_n (pc' := 20) (i := 3) dJ8_newLength_cabcc_19 rfl rfl rfl ?_
  exact me_iret dJ8_newLength_cabcc_20 rfl (fun z => z) rfl
theorem rJ5_newCapacity {q : Nat} (W : sb_W h0 g m n t h) (hq : m < q) (hq2 : q ≤ m + 28) : mm_R2 mm_K mm_K mJ5_newCapacity_0f7a4 [.ref 352, .int (nI q)] h (some (nI (m + (m + 2)))) (lf_i h) := by
  have m26 := sb_m26 W
  have m7 := W.2.1.2.1.2.2
  refine mm_body (L := [some (.ref 352), some (.int (nI q)), none, none, none, none]) rfl (by decide +kernel) (Nat.le_of_ble_eq_true rfl) rfl ?_
  refine me_aload_n (pc' := 1) (i := 0) dJ5_newCapacity_0f7a4_0 rfl rfl rfl ?_
  refine me_getR (pc' := 4) (q' := (353 + g)) dJ5_newCapacity_0f7a4_1 rfl fkJ5_15 (fun _ => sb_k W) (fun _ => sb_l W) rfl (fun _ => sb_r W) ?_
  refine me_alen (pc' := 5) (v := nI m) dJ5_newCapacity_0f7a4_4 rfl (fun _ => sb_vk W) (fun _ => sb_vl W) rfl ?_
  refine me_istore_n (pc' := 6) (i := 2) (L' := [some (.ref 352), some (.int (nI q)), some (.int (nI m)), none, none, none]) dJ5_newCapacity_0f7a4_5 rfl rfl (Nat.le_of_ble_eq_true rfl) (Nat.le_of_ble_eq_true rfl) rfl ?_
  refine me_iload_n (pc' := 7) (i := 1) dJ5_newCapacity_0f7a4_6 rfl rfl rfl ?_
  refine me_aload_n (pc' := 8) (i := 0) dJ5_newCapacity_0f7a4_7 rfl rfl rfl ?_
  refine me_getI (pc' := 11) dJ5_newCapacity_0f7a4_8 rfl fkJ5_22 (fun _ => sb_k W) (fun _ => sb_l W) rfl ?_
  rw [sb_c W]
  refine me_ishl (pc' := 12) dJ5_newCapacity_0f7a4_11 rfl ?_
  rw [show (((nI q) <<< ((0 : Int32) &&& 31)) : Int32) = nI q from sb_shl0 (nI q)]
  refine me_istore_n (pc' := 13) (i := 3) (L' := [some (.ref 352), some (.int (nI q)), some (.int (nI m)), some (.int (nI q)), none, none]) dJ5_newCapacity_0f7a4_12 rfl rfl (Nat.le_of_ble_eq_true rfl) (Nat.le_of_ble_eq_true rfl) rfl ?_
  refine me_iload_n (pc' := 14) (i := 3) dJ5_newCapacity_0f7a4_13 rfl rfl rfl ?_
  refine me_iload_n (pc' := 15) (i := 2) dJ5_newCapacity_0f7a4_14 rfl rfl rfl ?_
  refine me_isub (pc' := 16) dJ5_newCapacity_0f7a4_15 rfl ?_
  rw [show (((nI q) - (nI m)) : Int32) = nI (q - m) from pk_sub (by omega)]
  refine me_istore (pc' := 18) (i := 4) (L' := [some (.ref 352), some (.int (nI q)), some (.int (nI m)), some (.int (nI q)), some (.int (nI (q - m))), none]) dJ5_newCapacity_0f7a4_16 rfl (Nat.le_of_ble_eq_true rfl) (Nat.le_of_ble_eq_true rfl) rfl ?_
  refine me_iload_n (pc' := 19) (i := 2) dJ5_newCapacity_0f7a4_18 rfl rfl rfl ?_
  refine me_iload (pc' := 21) (i := 4) dJ5_newCapacity_0f7a4_19 rfl rfl ?_
  refine me_iload_n (pc' := 22) (i := 2) dJ5_newCapacity_0f7a4_21 rfl rfl rfl ?_
  refine me_iconst (pc' := 23) (v := 2) dJ5_newCapacity_0f7a4_22 rfl kc_i2 ?_
  refine me_aload_n (pc' := 24) (i := 0) dJ5_newCapacity_0f7a4_23 rfl rfl rfl ?_
  refine me_getI (pc' := 27) dJ5_newCapacity_0f7a4_24 rfl fkJ5_22 (fun _ => sb_k W) (fun _ => sb_l W) rfl ?_
  rw [sb_c W]
  refine me_ishl (pc' := 28) dJ5_newCapacity_0f7a4_27 rfl ?_
  rw [show (((2 : Int32) <<< ((0 : Int32) &&& 31)) : Int32) = 2 from sb_shl0 2]
  refine me_iadd (pc' := 29) dJ5_newCapacity_0f7a4_28 rfl ?_
  rw [show (((nI m) + 2) : Int32) = nI (m + 2) from nI_add m 2]
  refine me_callSt (As := [.int (nI m), .int (nI (q - m)), .int (nI (m + 2))]) (st := []) (F' := mm_K) (G' := mm_K) (F'' := mm_K) (pc' := 32) dJ5_newCapacity_0f7a4_29 rfl mfJ8_newLength_cabcc rfl lkJ5_114 ⟨Nat.le_of_ble_eq_true rfl, Nat.le_of_ble_eq_true rfl⟩ (Nat.le_of_ble_eq_true rfl) (fun z => z) (rJ8_newLength (by omega) (by omega) (by omega)) rfl (fun z => z) ?_
  show mm_E2 _ _ _ _ _ [.int (nI (m + (m + 2)))] h _ _
  refine me_istore (pc' := 34) (i := 5) (L' := [some (.ref 352), some (.int (nI q)), some (.int (nI m)), some (.int (nI q)), some (.int (nI (q - m))), some (.int (nI (m + (m + 2))))]) dJ5_newCapacity_0f7a4_32 rfl (Nat.le_of_ble_eq_true rfl) (Nat.le_of_ble_eq_true rfl) rfl ?_
  refine me_iload (pc' := 36) (i := 5) dJ5_newCapacity_0f7a4_34 rfl rfl ?_
  refine me_ldcI (pc' := 38) (v := 2147483647) dJ5_newCapacity_0f7a4_36 rfl (mm_gw_of (List.mem_of_getElem? (i := 1027) (by decide +kernel)) rfl) ?_
  refine mm_neg (c := nI (m + (m + 2)) = (2147483647 : Int32)) (o2 := none) (fun z9 => by have := (nI_eq (by omega) (by decide)).mp (show nI (m + (m + 2)) = nI 2147483647 from z9); omega) (me_icmp_ne (pc' := 41) (tgt := 51) dJ5_newCapacity_0f7a4_38 (by decide) rfl (fun _ => ?_) (fun c9 => absurd c9 (fun z9 => by have := (nI_eq (by omega) (by decide)).mp (show nI (m + (m + 2)) = nI 2147483647 from z9); omega)))
  refine me_iload (pc' := 53) (i := 5) dJ5_newCapacity_0f7a4_51 rfl rfl ?_
  refine me_aload_n (pc' := 54) (i := 0) dJ5_newCapacity_0f7a4_53 rfl rfl rfl ?_
  refine me_getI (pc' := 57) dJ5_newCapacity_0f7a4_54 rfl fkJ5_22 (fun _ => sb_k W) (fun _ => sb_l W) rfl ?_
  rw [sb_c W]
  refine me_ishr (pc' := 58) dJ5_newCapacity_0f7a4_57 rfl ?_
  rw [show (((nI (m + (m + 2))) >>> ((0 : Int32) &&& 31)) : Int32) = nI (m + (m + 2)) from sb_shr0 _]
  exact me_iret dJ5_newCapacity_0f7a4_58 rfl (fun z => z) rfl
theorem rJ7_copyOf {a m q : Nat} (hk : mm_kk h a = (3, m)) (ha : a < mh_n h) (h352 : 352 ≤ mh_n h) (hlt : mh_n h < mm_NN) (hmq : m < q) (hq : q ≤ 60000) (hf : sb_Fit (mh_I h a)) : mm_R2 mm_K mm_K mJ7_copyOf_9075b [.ref a, .int (nI q)] h (some (mh_n h, ms_C h a m q)) lf_ae := by
  refine mm_body (L := [some (.ref a), some (.int (nI q)), none]) rfl (by decide +kernel) (Nat.le_of_ble_eq_true rfl) rfl ?_
  refine me_iload_n (pc' := 1) (i := 1) dJ7_copyOf_9075b_0 rfl rfl rfl ?_
  refine me_aload_n (pc' := 2) (i := 0) dJ7_copyOf_9075b_1 rfl rfl rfl ?_
  refine me_alen (pc' := 3) (v := nI m) dJ7_copyOf_9075b_2 rfl (fun _ => hk) (fun _ => ha) rfl ?_
  refine mm_neg (c := nI q = nI m) (o2 := none) (fun z9 => by have := (nI_eq (by omega) (by omega)).mp z9; omega) (me_icmp_ne (pc' := 6) (tgt := 14) dJ7_copyOf_9075b_3 (by decide) rfl (fun _ => ?_) (fun c9 => absurd c9 (fun z9 => by have := (nI_eq (by omega) (by omega)).mp z9; omega)))
  refine me_iload_n (pc' := 15) (i := 1) dJ7_copyOf_9075b_14 rfl rfl rfl ?_
  refine me_newaBK (F' := mm_K) (pc' := 17) (N := q) h352 hlt dJ7_copyOf_9075b_15 rfl (nI_pos (by omega)) (nI_clamp (by omega)) hq (fun z => z) (fun z => congrArg (· + 1) z) ?_
  refine me_astore_n (pc' := 18) (i := 2) (L' := [some (.ref a), some (.int (nI q)), some (.ref (mh_n h))]) dJ7_copyOf_9075b_17 rfl rfl (Nat.le_of_ble_eq_true rfl) (Nat.le_of_ble_eq_true rfl) rfl ?_
  refine me_aload_n (pc' := 19) (i := 0) dJ7_copyOf_9075b_18 rfl rfl rfl ?_
  refine me_iconst (pc' := 20) (v := 0) dJ7_copyOf_9075b_19 rfl kc_i0 ?_
  refine me_aload_n (pc' := 21) (i := 2) dJ7_copyOf_9075b_20 rfl rfl rfl ?_
  refine me_iconst (pc' := 22) (v := 0) dJ7_copyOf_9075b_21 rfl kc_i0 ?_
  refine me_aload_n (pc' := 23) (i := 0) dJ7_copyOf_9075b_22 rfl rfl rfl ?_
  refine me_alen (pc' := 24) (v := nI m) dJ7_copyOf_9075b_23 rfl (fun _ => (mm_kk_Ko (by omega)).trans hk) (fun _ => Nat.lt_succ_of_lt ha) rfl ?_
  refine me_iload_n (pc' := 25) (i := 1) dJ7_copyOf_9075b_24 rfl rfl rfl ?_
  refine me_mmin (pc' := 28) dJ7_copyOf_9075b_25 rfl ljJ7_304 ⟨Nat.le_of_ble_eq_true rfl, Nat.le_of_ble_eq_true rfl⟩ (Nat.le_of_ble_eq_true rfl) ?_
  rw [show ((if nI q < nI m then nI q else nI m) : Int32) = nI m from if_neg (nI_nlt (by omega) (by omega))]
  refine me_copyb (F' := mm_K) (pc' := 31) dJ7_copyOf_9075b_28 rfl ljJ7_150 (n0 := m) (n1 := q) (fun _ => (mm_kk_Ko (by omega)).trans hk) (fun _ => mm_kk_K h352) (fun _ => Nat.lt_succ_of_lt ha) (fun _ => Nat.lt_succ_self _) hf (by decide) (by decide) (nI_pos (by omega)) (by rw [sb_cl0, nI_clamp (by omega)]; omega) (by rw [sb_cl0, nI_clamp (by omega)]; omega) ⟨Nat.le_of_ble_eq_true rfl, Nat.le_of_ble_eq_true rfl⟩ (Nat.le_of_ble_eq_true rfl) (fun z => z) ?_
  rw [sb_cl0, nI_clamp (show m < 2 ^ 31 by omega)]
  refine me_aload_n (pc' := 32) (i := 2) dJ7_copyOf_9075b_31 rfl rfl rfl ?_
  exact me_aretA dJ7_copyOf_9075b_32 rfl (fun z => z) rfl
/-- the field value of StringBuilder -/
theorem me_putVal {τ : Type} {M : mm_M} {pc pc' q' idx : Nat} {L : List (Option Value)} {st : List Value} {o : Option τ} {lf : τ → mm_O} (hk : mm_kk h 352 = (0, 12)) (hn : 352 < mh_n h) (d : decode (my_b M) pc = .ok (.putfield idx, 3)) (hp : pc + 3 = pc') (hf : mm_fk (my_y M).cls idx 12 0) (hF' : F h → F' (ms_R h 352 0 (some q'))) (K : mm_E2 F' G M pc' L st (ms_R h 352 0 (some q')) o lf) : mm_E2 F G M pc L (.ref q' :: .ref 352 :: st) h o lf := by
  subst hp
  refine mm_liftH (st' := st) (h' := ms_R h 352 0 (some q')) hF' rfl rfl (fun X hF hP => mm_Pr_R hn hP) (fun X p l e R s m args below meth c H locs ls cells slots Q hC hP hS hL hF kk => ?_) K
  obtain ⟨hl, hx, hb, hr, hml, hown, hlk, hts, hE, hte, hin0, hRf, hRl⟩ := hC
  obtain ⟨C, T, N, hc, hN, hin, hkN, hw⟩ := hf
  cases hc
  show W p l e R s m args below meth c H locs cells slots Q (F0 m pc ls (.ref (mx_ad X q') :: .ref (mx_ad X 352) :: st.map (mx_cv X)))
  rw [mx_ad_lt (o := 352) (Nat.lt_of_lt_of_le hn hP.2.1)]
  have he : (mm_ws X h)[352]? = some (mx_base X + 352, .inr (12, mm_fs X h 352 12)) := by rw [mm_ws_get hn, mm_cell_o hk]
  have hset : (mm_ws X h).set 352 (mx_base X + 352, .inr (12, (mm_fs X h 352 12).set 0 (.ref (mx_ad X q')))) = mm_ws X (ms_R h 352 0 (some q')) := by
    have hfs : (mm_fs X h 352 12).set 0 (.ref (mx_ad X q')) = mm_fs X (ms_R h 352 0 (some q')) 352 12 := by
      refine mm_fs_set ?_ (fun j _ => rfl) (fun j hj => if_neg (fun z => hj z.2))
      show va_rf ((mm_up (mh_R h) 352 0 (some q') 352 0).map (mx_ad X)) = _
      rw [mm_up_row]
      rfl
    rw [hfs, ← mm_cell_o (X := X) (h := ms_R h 352 0 (some q')) hk]
    exact mm_ws_set hn rfl (fun p hp => mm_ne_R p hp)
  rcases hw with hw | ⟨host, hw⟩
  · exact va_put (ty := .array .byte) hx hb hts hin tyJ4 tyJ4_ok nmJ4 hown hE.2.2.1 hP.1 (mm_wsD X h) hS 352 he rfl 0 hkN (hts _ hw) (fun _ h9 => h9) rfl (by decide +kernel) rfl rfl (by rw [mm_fs_len, hN]; exact hkN) d (fun H1 locs1 hP1 _ hS1 => kk H1 locs1 (hset ▸ hP1) hS1)
  · exact va_putN (ty := .array .byte) hx hb hts hin tyJ4 tyJ4_ok nmJ4 hown hE.2.2.1 hP.1 (mm_wsD X h) hS 352 he rfl 0 hkN (va_Nw.use rfl (hE.2.2.2.2.2.2.1 _ hw rfl)) (fun _ h9 => h9) rfl (by decide +kernel) rfl rfl (by rw [mm_fs_len, hN]; exact hkN) d (fun H1 locs1 hP1 _ hS1 => kk H1 locs1 (hset ▸ hP1) hS1)
theorem rJ5_ensure {q : Nat} (W : sb_W h0 g m n t h) (hq : q ≤ n + 28) (hq3 : q ≤ 300) : ∃ h' g' m', sb_W h0 g' m' n t h' ∧ q ≤ m' ∧ mm_R2 mm_K mm_K mJ5_ensureCapacityInternal_d00df [.ref 352, .int (nI q)] h (some h') lf_v := by
  have m26 := sb_m26 W
  have g4 := sb_g4 W
  obtain ⟨nm, -, m7⟩ := W.2.1.2.1
  by_cases hc : q ≤ m
  · refine ⟨h, g, m, W, hc, ?_⟩
    refine mm_body (L := [some (.ref 352), some (.int (nI q)), none]) rfl (by decide +kernel) (Nat.le_of_ble_eq_true rfl) rfl ?_
    refine me_aload_n (pc' := 1) (i := 0) dJ5_ensureCapacityInternal_d00df_0 rfl rfl rfl ?_
    refine me_getR (pc' := 4) (q' := (353 + g)) dJ5_ensureCapacityInternal_d00df_1 rfl fkJ5_15 (fun _ => sb_k W) (fun _ => sb_l W) rfl (fun _ => sb_r W) ?_
    refine me_alen (pc' := 5) (v := nI m) dJ5_ensureCapacityInternal_d00df_4 rfl (fun _ => sb_vk W) (fun _ => sb_vl W) rfl ?_
    refine me_aload_n (pc' := 6) (i := 0) dJ5_ensureCapacityInternal_d00df_5 rfl rfl rfl ?_
    refine me_getI (pc' := 9) dJ5_ensureCapacityInternal_d00df_6 rfl fkJ5_22 (fun _ => sb_k W) (fun _ => sb_l W) rfl ?_
    rw [sb_c W]
    refine me_ishr (pc' := 10) dJ5_ensureCapacityInternal_d00df_9 rfl ?_
    rw [show (((nI m) >>> ((0 : Int32) &&& 31)) : Int32) = nI m from sb_shr0 _]
    refine me_istore_n (pc' := 11) (i := 2) (L' := [some (.ref 352), some (.int (nI q)), some (.int (nI m))]) dJ5_ensureCapacityInternal_d00df_10 rfl rfl (Nat.le_of_ble_eq_true rfl) (Nat.le_of_ble_eq_true rfl) rfl ?_
    refine me_iload_n (pc' := 12) (i := 1) dJ5_ensureCapacityInternal_d00df_11 rfl rfl rfl ?_
    refine me_iload_n (pc' := 13) (i := 2) dJ5_ensureCapacityInternal_d00df_12 rfl rfl rfl ?_
    refine me_isub (pc' := 14) dJ5_ensureCapacityInternal_d00df_13 rfl ?_
    refine mm_neg (c := (0 : Int32) < nI q - nI m) (o2 := none) (fun z9 => by have e9 : (nI q - nI m).toInt = (q : Int) - m := pk_sub_toInt (by omega) (by omega); rw [Int32.lt_iff_toInt_lt, e9, Int32.toInt_zero] at z9; omega) (me_if_le (pc' := 17) (tgt := 38) dJ5_ensureCapacityInternal_d00df_14 (by decide) rfl (fun _ => ?_) (fun c9 => absurd c9 (fun z9 => by have e9 : (nI q - nI m).toInt = (q : Int) - m := pk_sub_toInt (by omega) (by omega); rw [Int32.lt_iff_toInt_lt, e9, Int32.toInt_zero] at z9; omega)))
    exact me_vret dJ5_ensureCapacityInternal_d00df_38 rfl (fun z => z) rfl
  · have hm3 : m < 300 := by omega
    have hn9 : mh_n h = 354 + g := W.1.1.1
    refine ⟨ms_R (ms_C h (353 + g) m (2 * m + 2)) 352 0 (some (354 + g)), g + 1, 2 * m + 2, sb_grow W (by omega), by omega, ?_⟩
    refine mm_body (L := [some (.ref 352), some (.int (nI q)), none]) rfl (by decide +kernel) (Nat.le_of_ble_eq_true rfl) rfl ?_
    refine me_aload_n (pc' := 1) (i := 0) dJ5_ensureCapacityInternal_d00df_0 rfl rfl rfl ?_
    refine me_getR (pc' := 4) (q' := (353 + g)) dJ5_ensureCapacityInternal_d00df_1 rfl fkJ5_15 (fun _ => sb_k W) (fun _ => sb_l W) rfl (fun _ => sb_r W) ?_
    refine me_alen (pc' := 5) (v := nI m) dJ5_ensureCapacityInternal_d00df_4 rfl (fun _ => sb_vk W) (fun _ => sb_vl W) rfl ?_
    refine me_aload_n (pc' := 6) (i := 0) dJ5_ensureCapacityInternal_d00df_5 rfl rfl rfl ?_
    refine me_getI (pc' := 9) dJ5_ensureCapacityInternal_d00df_6 rfl fkJ5_22 (fun _ => sb_k W) (fun _ => sb_l W) rfl ?_
    rw [sb_c W]
    refine me_ishr (pc' := 10) dJ5_ensureCapacityInternal_d00df_9 rfl ?_
    rw [show (((nI m) >>> ((0 : Int32) &&& 31)) : Int32) = nI m from sb_shr0 _]
    refine me_istore_n (pc' := 11) (i := 2) (L' := [some (.ref 352), some (.int (nI q)), some (.int (nI m))]) dJ5_ensureCapacityInternal_d00df_10 rfl rfl (Nat.le_of_ble_eq_true rfl) (Nat.le_of_ble_eq_true rfl) rfl ?_
    refine me_iload_n (pc' := 12) (i := 1) dJ5_ensureCapacityInternal_d00df_11 rfl rfl rfl ?_
    refine me_iload_n (pc' := 13) (i := 2) dJ5_ensureCapacityInternal_d00df_12 rfl rfl rfl ?_
    refine me_isub (pc' := 14) dJ5_ensureCapacityInternal_d00df_13 rfl ?_
    refine mm_pos (c := (0 : Int32) < nI q - nI m) (o2 := none) (show (0 : Int32) < nI q - nI m from by rw [show nI q - nI m = nI (q - m) from pk_sub (by omega)]; exact si_0lt (by omega) (by omega)) (me_if_le (pc' := 17) (tgt := 38) dJ5_ensureCapacityInternal_d00df_14 (by decide) rfl (fun c9 => absurd (show (0 : Int32) < nI q - nI m from by rw [show nI q - nI m = nI (q - m) from pk_sub (by omega)]; exact si_0lt (by omega) (by omega)) c9) (fun _ => ?_))
    refine me_aload_n (pc' := 18) (i := 0) dJ5_ensureCapacityInternal_d00df_17 rfl rfl rfl ?_
    refine me_aload_n (pc' := 19) (i := 0) dJ5_ensureCapacityInternal_d00df_18 rfl rfl rfl ?_
    refine me_getR (pc' := 22) (q' := (353 + g)) dJ5_ensureCapacityInternal_d00df_19 rfl fkJ5_15 (fun _ => sb_k W) (fun _ => sb_l W) rfl (fun _ => sb_r W) ?_
    refine me_aload_n (pc' := 23) (i := 0) dJ5_ensureCapacityInternal_d00df_22 rfl rfl rfl ?_
    refine me_iload_n (pc' := 24) (i := 1) dJ5_ensureCapacityInternal_d00df_23 rfl rfl rfl ?_
    refine me_callU (b0 := prog_15_method_10_code) (m0 := 6) (r0 := (Option.some Jvm.ClassFile.FieldType.int)) (x := ⟨"java/lang/AbstractStringBuilder", "newCapacity", "(I)I"⟩) (As := [.int (nI q)]) (st := [.ref (353 + g), .ref 352]) (F' := mm_K) (G' := mm_K) (F'' := mm_K) (pc' := 27) dJ5_ensureCapacityInternal_d00df_24 rfl mfJ5_newCapacity_0f7a4 rfl (mm_gw_of (List.mem_of_getElem? (i := 1057) (by decide +kernel)) rfl) (mm_gw_of (List.mem_of_getElem? (i := 1313) (by decide +kernel)) rfl) ⟨(mm_gw_of (List.mem_of_getElem? (i := 1059) (by decide +kernel)) rfl), (mm_gw_of (List.mem_of_getElem? (i := 1060) (by decide +kernel)) rfl)⟩ (Or.inr ⟨rfl, (mm_gw_of (List.mem_of_getElem? (i := 1016) (by decide +kernel)) rfl), (List.mem_of_getElem? (i := 1058) (by decide +kernel))⟩) ⟨by decide, by decide +kernel⟩ (fun _ => sb_k W) rfl (fun _ => sb_l W) ⟨Nat.le_of_ble_eq_true rfl, Nat.le_of_ble_eq_true rfl⟩ (Nat.le_of_ble_eq_true rfl) (fun z => z) (rJ5_newCapacity W (by omega) (by omega)) rfl (fun z => z) ?_
    show mm_E2 _ _ _ _ _ [.int (nI (m + (m + 2))), .ref (353 + g), .ref 352] h _ _
    rw [show ((nI (m + (m + 2))) : Int32) = nI (2 * m + 2) from by rw [show m + (m + 2) = 2 * m + 2 by omega]]
    refine me_aload_n (pc' := 28) (i := 0) dJ5_ensureCapacityInternal_d00df_27 rfl rfl rfl ?_
    refine me_getI (pc' := 31) dJ5_ensureCapacityInternal_d00df_28 rfl fkJ5_22 (fun _ => sb_k W) (fun _ => sb_l W) rfl ?_
    rw [sb_c W]
    refine me_ishl (pc' := 32) dJ5_ensureCapacityInternal_d00df_31 rfl ?_
    rw [show (((nI (2 * m + 2)) <<< ((0 : Int32) &&& 31)) : Int32) = nI (2 * m + 2) from sb_shl0 (nI (2 * m + 2))]
    refine me_callSt (As := [.ref (353 + g), .int (nI (2 * m + 2))]) (st := [.ref 352]) (F' := mm_K) (G' := mm_K) (F'' := mm_K) (pc' := 35) dJ5_ensureCapacityInternal_d00df_32 rfl mfJ7_copyOf_9075b rfl lkJ5_108 ⟨Nat.le_of_ble_eq_true rfl, Nat.le_of_ble_eq_true rfl⟩ (Nat.le_of_ble_eq_true rfl) (fun z => z) (rJ7_copyOf (sb_vk W) (sb_vl W) (by omega) (show mh_n h < 400 by omega) (by omega) (by omega) W.2.1.2.2.2) rfl (fun z => z) ?_
    show mm_E2 _ _ _ _ _ [.ref (mh_n h), .ref 352] (ms_C h (353 + g) m (2 * m + 2)) _ _
    rw [hn9]
    refine me_putVal (F' := mm_K) (pc' := 38) (show mm_kk (ms_K h (2 * m + 2) 3 (2 * m + 2)) 352 = (0, 12) from (mm_kk_Ko (by omega)).trans (sb_k W)) (show 352 < mh_n h + 1 by omega) dJ5_ensureCapacityInternal_d00df_35 rfl fkJ5_15 (fun z => z) ?_
    exact me_vret dJ5_ensureCapacityInternal_d00df_38 rfl (fun z => z) rfl
end MMSB2

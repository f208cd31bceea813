section MMS
/-! String.length() and charAt(k) of the claim's literals (gen17.py) -/
theorem flJ0_9 : Cond.fieldLink "java/lang/String" 9 "java/lang/String" "value" "[B" ∈ mm_gw := (mm_gw_of (List.mem_of_getElem? (i := 1235) (by decide +kernel)) rfl)
theorem flJ0_15 : Cond.fieldLink "java/lang/String" 15 "java/lang/String" "coder" "B" ∈ mm_gw := (mm_gw_of (List.mem_of_getElem? (i := 1236) (by decide +kernel)) rfl)
theorem flJ0_38 : Cond.fieldLink "java/lang/String" 38 "java/lang/String" "COMPACT_STRINGS" "Z" ∈ mm_gw := (mm_gw_of (List.mem_of_getElem? (i := 333) (by decide +kernel)) rfl)
theorem flJ0_1053 : Cond.fieldLink "java/lang/String" 1053 "jdk/internal/util/Preconditions" "SIOOBE_FORMATTER" "Ljava/util/function/BiFunction;" ∈ mm_gw := (mm_gw_of (List.mem_of_getElem? (i := 349) (by decide +kernel)) rfl)

variable {τ : Type} {F G : mm_H → Prop} {M : mm_M} {pc pc' : Nat} {L : List (Option Value)} {st : List Value} {h : mm_H} {o : Option τ} {lf : τ → mm_O}
theorem me_strV {i : Nat} (hi : i < 17) (hy : (my_y M).cls = "java/lang/String") (d : decode (my_b M) pc = .ok (.getfield 9, 3)) (hp : pc + 3 = pc') (K : mm_E2 F G M pc' L (.ref (mm_NN + 101 + i) :: st) h o lf) : mm_E2 F G M pc L (.ref (mm_NN + 1 + i) :: st) h o lf := by
  subst hp
  refine mm_lift (st' := .ref (mm_NN + 101 + i) :: st) (fun X p l e R s m args below meth c H locs ls cells slots Q hC hP hS hL hF hc hs9 kk => ?_) K
  obtain ⟨hl, hx, hb, hr, hml, hown, hlk, hts, hE, hte, hin0, hRf, hRl⟩ := hC
  rw [hy] at hown
  have kk' : W p l e R s m args below meth c H locs cells slots Q (F0 m (pc + 3) ls (.ref (mx_ad X (mm_NN + 101 + i)) :: st.map (mx_cv X))) := kk
  show W p l e R s m args below meth c H locs cells slots Q (F0 m pc ls (.ref (mx_ad X (mm_NN + 1 + i)) :: st.map (mx_cv X)))
  rw [mx_ad_val X hi] at kk'
  rw [mx_ad_str X hi]
  exact vk_getf hx hb (hE.2.2.2.1 i hi).2.2.1 hS hown (hts _ flJ0_9) (fun _ h9 => h9) d kk'
theorem me_strC {i : Nat} (hi : i < 17) (hy : (my_y M).cls = "java/lang/String") (d : decode (my_b M) pc = .ok (.getfield 15, 3)) (hp : pc + 3 = pc') (K : mm_E2 F G M pc' L (.int 0 :: st) h o lf) : mm_E2 F G M pc L (.ref (mm_NN + 1 + i) :: st) h o lf := by
  subst hp
  refine mm_lift (st' := .int 0 :: st) (fun X p l e R s m args below meth c H locs ls cells slots Q hC hP hS hL hF hc hs9 kk => ?_) K
  obtain ⟨hl, hx, hb, hr, hml, hown, hlk, hts, hE, hte, hin0, hRf, hRl⟩ := hC
  rw [hy] at hown
  show W p l e R s m args below meth c H locs cells slots Q (F0 m pc ls (.ref (mx_ad X (mm_NN + 1 + i)) :: st.map (mx_cv X)))
  rw [mx_ad_str X hi]
  exact vk_getf hx hb (hE.2.2.2.1 i hi).2.1 hS hown (hts _ flJ0_15) (fun _ h9 => h9) d kk
theorem me_strS (hy : (my_y M).cls = "java/lang/String") (d : decode (my_b M) pc = .ok (.getstatic 38, 3)) (hp : pc + 3 = pc') (K : mm_E2 F G M pc' L (.int 1 :: st) h o lf) : mm_E2 F G M pc L st h o lf := by
  subst hp
  refine mm_lift (st' := .int 1 :: st) (fun X p l e R s m args below meth c H locs ls cells slots Q hC hP hS hL hF hc hs9 kk => ?_) K
  obtain ⟨hl, hx, hb, hr, hml, hown, hlk, hts, hE, hte, hin0, hRf, hRl⟩ := hC
  rw [hy] at hown
  exact va_gets hx hb hE.2.2.2.2.2.2.2.2.1.1 hS hown (hts _ flJ0_38) (fun _ h9 => h9) d kk
theorem me_strF (hy : (my_y M).cls = "java/lang/String") (d : decode (my_b M) pc = .ok (.getstatic 1053, 3)) (hp : pc + 3 = pc') (K : ∀ w : Value, w.category = 1 → mm_E2 F G M pc' L (w :: st) h o lf) : mm_E2 F G M pc L st h o lf := by
  subst hp
  intro x hx hF
  obtain ⟨k1, k2, k3⟩ := K .null rfl x hx hF
  obtain ⟨-, -, k4⟩ := K (.ref (mm_NN + 201 + 0)) rfl x hx hF
  refine ⟨k1, k2, fun X p l e R s m args below meth c hC k0 w0 h0 h1 h2 h3 h4 H locs ls hP hS hL => ?_⟩
  have z3 := k3 X p l e R s m args below meth c hC k0 w0 h0 h1 h2 h3 h4 H locs ls hP hS hL
  have z4 := k4 X p l e R s m args below meth c hC k0 w0 h0 h1 h2 h3 h4 H locs ls hP hS hL
  obtain ⟨hl, hx9, hb, hr, hml, hown, hlk, hts, hE, hte, hin0, hRf, hRl⟩ := hC
  rw [hy] at hown
  rcases hE.2.2.2.2.2.2.2.2.1.2.1 with hZ | hZ
  · exact va_gets hx9 hb hZ hS hown (hts _ flJ0_1053) (fun _ h9 => h9) d z3
  · have z4' : W p l e R s m args below meth c H locs (mh_c h - k0) (mh_w h - w0) (vx_MQ below (mm_Q X (lf x)) (mm_V X (lf x)) args s (mh_c (lf x).2 - k0) (mh_w (lf x).2 - w0) (mm_A X)) (F0 m (pc + 3) ls (.ref (mx_ad X (mm_NN + 201 + 0)) :: st.map (mx_cv X))) := z4
    rw [mx_ad_fmt X 0] at z4'
    exact va_gets hx9 hb hZ hS hown (hts _ flJ0_1053) (fun _ h9 => h9) d z4'
theorem me_strA {i : Nat} (hi : i < 17) (d : decode (my_b M) pc = .ok (.arraylength, 1)) (hp : pc + 1 = pc') (K : mm_E2 F G M pc' L (.int (mm_sl i) :: st) h o lf) : mm_E2 F G M pc L (.ref (mm_NN + 101 + i) :: st) h o lf := by
  subst hp
  refine mm_lift (st' := .int (mm_sl i) :: st) (fun X p l e R s m args below meth c H locs ls cells slots Q hC hP hS hL hF hc hs9 kk => ?_) K
  obtain ⟨hl, hx, hb, hr, hml, hown, hlk, hts, hE, hte, hin0, hRf, hRl⟩ := hC
  show W p l e R s m args below meth c H locs cells slots Q (F0 m pc ls (.ref (mx_ad X (mm_NN + 101 + i)) :: st.map (mx_cv X)))
  rw [mx_ad_val X hi]
  exact va_tlen hx hb (hE.2.2.2.1 i hi).2.2.2 hS rfl d kk
theorem me_strB {i : Nat} {k : Int32} (hi : i < 17) (hk : vp_in k (mm_sn i)) (d : decode (my_b M) pc = .ok (.baload, 1)) (hp : pc + 1 = pc') (K : mm_E2 F G M pc' L (.int ((mm_sbyt.getD i []).getD k.toNatClampNeg 0) :: st) h o lf) : mm_E2 F G M pc L (.int k :: .ref (mm_NN + 101 + i) :: st) h o lf := by
  subst hp
  refine mm_lift (st' := .int ((mm_sbyt.getD i []).getD k.toNatClampNeg 0) :: st) (fun X p l e R s m args below meth c H locs ls cells slots Q hC hP hS hL hF hc hs9 kk => ?_) K
  obtain ⟨hl, hx, hb, hr, hml, hown, hlk, hts, hE, hte, hin0, hRf, hRl⟩ := hC
  show W p l e R s m args below meth c H locs cells slots Q (F0 m pc ls (.int k :: .ref (mx_ad X (mm_NN + 101 + i)) :: st.map (mx_cv X)))
  rw [mx_ad_val X hi]
  exact va_tb hx hb (hE.2.2.2.1 i hi).2.2.2 hS hk rfl d kk
theorem me_i2c {x v : Int32} (d : decode (my_b M) pc = .ok (.i2c, 1)) (hp : pc + 1 = pc') (hv : (x.toUInt32 % 65536).toInt32 = v) (k : mm_E2 F G M pc' L (.int v :: st) h o lf) : mm_E2 F G M pc L (.int x :: st) h o lf := by
  subst hp
  exact mm_lift (fun X p l e R s m args below meth c H locs ls cells slots Q hC hP hS hL hF _ _ kk => lv_i2c hC.2.1 hC.2.2.1 d hv kk) k
theorem me_nret {x : τ} {v : Int32} {ty : FieldType} (d : decode (my_b M) pc = .ok (.ireturn, 1)) (hr : my_r M = some ty) (hn : narrow ty (.int v) = .int v) (hFG : F h → G h) (hlf : lf x = (.inl (some (.int v)), h)) : mm_E2 F G M pc L [.int v] h (some x) lf := by
  intro y hy hF
  cases hy
  rw [hlf]
  refine ⟨mm_le_refl h, hFG hF, fun X p l e R s m args below meth c hC k0 w0 h0 h1 h2 h3 h4 H locs ls hP hS hL => ?_⟩
  obtain ⟨hl, hx, hb, hr', hml, hown, hlk, hts, hE, hte, hin0, hRf, hRl⟩ := hC
  exact vx_ret (W.zret hx hb (hr'.trans hr) hn (fun t ht hW => ⟨⟨_, rfl, rfl⟩, by rw [ht]; exact hP, hS.F ht⟩) hS.2.2 d hlk)
variable {N : mm_M} {F' G' F'' : mm_H → Prop} {σ : Type} {lN : σ → mm_O} {As : List Value} {idx n : Nat} {x : σ} {v : Option Value} {h1 : mm_H}
/-- a call of a String's method -/
theorem me_callT {i : Nat} (hi : i < 17) (d : decode (my_b M) pc = .ok (.invokevirtual idx, 3)) (hp : pc + 3 = pc') (hm : mm_mV N n) (hln : As.length = n) (hk : mm_lk (my_y M).cls idx N) (hcn : (my_y N).cls = "java/lang/String")
    (hfr : my_f N + 1 ≤ my_f M ∧ 8 + (my_L N + 11) + my_w N ≤ my_w M) (hcat : (st.map fun v => v.category).sum ≤ 8) (hF' : F h → F' h) (hR : mm_R2 F' G' N (.ref (mm_NN + 1 + i) :: As) h (some x) lN) (hl : lN x = (.inl v, h1)) (hg : G' h1 → F'' h1) (K : mm_E2 F'' G M pc' L (v.toList ++ st) h1 o lf) : mm_E2 F G M pc L (As.reverse ++ .ref (mm_NN + 1 + i) :: st) h o lf := by
  refine mm_call (kN := fun _ => o) (oN := some x) hp hF' hR (fun r X p l e R s m args below meth c H locs ls cells slots hC hP hS hL hF hsz hM hrm => ?_) (fun y hy => by cases hy; exact Or.inl ⟨v, h1, hl, hg, K⟩)
  obtain ⟨hl, hx, hb, hr', hml, hown, hlk, hts, hE, hte, hin0, hRf, hRl⟩ := hC
  have hrc : ∃ cell : Cell, H[mx_ad X (mm_NN + 1 + i)]? = some cell ∧ cell.vm.isStatics = false ∧ s.vm.findClass (my_y N).cls = some cell.cls := by
    rw [mx_ad_str X hi, hcn]
    obtain ⟨cell, q1, q2, q3, -⟩ := (hE.2.2.2.1 i hi).1.kept hS.2.1
    exact ⟨cell, q1, q2, q3⟩
  have hpay := pay_in hts (mm_good hm.1)
  refine ⟨(Value.ref (mx_ad X (mm_NN + 1 + i)) :: As.map (mx_cv X)).toArray, ?_⟩
  rcases hk with hk | ⟨host, hk⟩
  · exact vx_runV (As := As.map (mx_cv X)) (Ts := mm_gw) ⟨hx, hb, hml, hown, hts⟩ hM ⟨⟨rfl, rfl, by show my_f N + 1 ≤ _; omega, by show 8 + (my_L N + 11) + my_w N ≤ _; omega, hpay, mm_code_in hm.1, hts _ hm.1.2.1, hts _ hm.1.2.2.1, hm.1.2.2.2.1, mm_plen hm.1, hts _ hk⟩, hts _ hm.2.1, hts _ hm.2.2⟩
      ⟨mm_Pc_blind, hrc, mm_Pc_at hE hP hS hsz⟩ rfl (by rw [List.length_map]; exact hln) hL.1 (by rw [List.map_append, List.map_reverse]; rfl) (by show 2 * 0 + _ ≤ 8; rw [mx_cats]; omega) d hrm
  · exact vx_runVN (As := As.map (mx_cv X)) (Ts := mm_gw) ⟨hx, hb, hml, hown, hts⟩ hM ⟨⟨⟨rfl, rfl, by show my_f N + 1 ≤ _; omega, by show 8 + (my_L N + 11) + my_w N ≤ _; omega, hpay, mm_code_in hm.1⟩, hts _ hm.1.2.1, hts _ hm.1.2.2.1, hm.1.2.2.2.1, mm_plen hm.1, va_Nw.use rfl (hE.2.2.2.2.2.2.1 _ hk rfl)⟩, hts _ hm.2.1, hts _ hm.2.2⟩
      ⟨mm_Pc_blind, hrc, mm_Pc_at hE hP hS hsz⟩ rfl (by rw [List.length_map]; exact hln) hL.1 (by rw [List.map_append, List.map_reverse]; rfl) (by show 2 * 0 + _ ≤ 8; rw [mx_cats]; omega) d hrm
theorem mm_pos {c : Prop} {_ : Decidable c} {o2 : Option τ} (hc : c) (k : mm_E2 F G M pc L st h (if c then o else o2) lf) : mm_E2 F G M pc L st h o lf := by rw [if_pos hc] at k; exact k
theorem mm_neg {c : Prop} {_ : Decidable c} {o2 : Option τ} (hc : ¬ c) (k : mm_E2 F G M pc L st h (if c then o2 else o) lf) : mm_E2 F G M pc L st h o lf := by rw [if_neg hc] at k; exact k
theorem mm_lt_nI {k : Int32} {n : Nat} (h1 : ¬ k < 0) (h2 : k.toNatClampNeg < n) (hn : n < 2 ^ 31) : k < nI n := by
  obtain ⟨j, hj, rfl⟩ := nI_of h1
  rw [nI_clamp hj] at h2
  exact nI_lt h2 hn
theorem rJ0_coder {i : Nat} (hi : i < 17) (h : mm_H) : mm_R2 F F mJ0_coder_7d493 [.ref (mm_NN + 1 + i)] h (some 0) (lf_i h) := by
  refine mm_body (L := [some (.ref (mm_NN + 1 + i))]) rfl (by decide +kernel) (Nat.le_of_ble_eq_true rfl) rfl ?_
  refine me_strS (pc' := 3) rfl dJ0_coder_7d493_0 rfl ?_
  refine mm_neg (c := (1 : Int32) = 0) (o2 := none) (by decide) (me_if_eq (pc' := 6) (tgt := 13) dJ0_coder_7d493_3 (by decide) rfl (fun c => absurd c (by decide)) (fun _ => ?_))
  refine me_aload_n (pc' := 7) (i := 0) dJ0_coder_7d493_6 rfl rfl rfl ?_
  refine me_strC (pc' := 10) hi rfl dJ0_coder_7d493_7 rfl ?_
  refine me_goto (tgt := 14) dJ0_coder_7d493_10 (by decide) ?_
  exact me_nret (ty := .byte) dJ0_coder_7d493_14 rfl rfl (fun z => z) rfl
theorem rJ0_isLatin1 {i : Nat} (hi : i < 17) (h : mm_H) : mm_R2 F F mJ0_isLatin1_aae02 [.ref (mm_NN + 1 + i)] h (some true) (lf_z h) := by
  refine mm_body (L := [some (.ref (mm_NN + 1 + i))]) rfl (by decide +kernel) (Nat.le_of_ble_eq_true rfl) rfl ?_
  refine me_strS (pc' := 3) rfl dJ0_isLatin1_aae02_0 rfl ?_
  refine mm_neg (c := (1 : Int32) = 0) (o2 := none) (by decide) (me_if_eq (pc' := 6) (tgt := 17) dJ0_isLatin1_aae02_3 (by decide) rfl (fun c => absurd c (by decide)) (fun _ => ?_))
  refine me_aload_n (pc' := 7) (i := 0) dJ0_isLatin1_aae02_6 rfl rfl rfl ?_
  refine me_strC (pc' := 10) hi rfl dJ0_isLatin1_aae02_7 rfl ?_
  refine mm_pos (c := (0 : Int32) = 0) (o2 := none) rfl (me_if_ne (pc' := 13) (tgt := 17) dJ0_isLatin1_aae02_10 (by decide) rfl (fun c => absurd rfl c) (fun _ => ?_))
  refine me_iconst (pc' := 14) (v := 1) dJ0_isLatin1_aae02_13 rfl kc_i1 ?_
  refine me_goto (tgt := 18) dJ0_isLatin1_aae02_14 (by decide) ?_
  exact me_zret (b := true) dJ0_isLatin1_aae02_18 rfl (fun z => z) rfl
theorem rJ0_length {i : Nat} (hi : i < 17) (h : mm_H) : mm_R2 F F mJ0_length_8abf5 [.ref (mm_NN + 1 + i)] h (some (mm_sl i)) (lf_i h) := by
  refine mm_body (L := [some (.ref (mm_NN + 1 + i))]) rfl (by decide +kernel) (Nat.le_of_ble_eq_true rfl) rfl ?_
  refine me_aload_n (pc' := 1) (i := 0) dJ0_length_8abf5_0 rfl rfl rfl ?_
  refine me_strV (pc' := 4) hi rfl dJ0_length_8abf5_1 rfl ?_
  refine me_strA (pc' := 5) hi dJ0_length_8abf5_4 rfl ?_
  refine me_aload_n (pc' := 6) (i := 0) dJ0_length_8abf5_5 rfl rfl rfl ?_
  refine me_callT (As := []) (st := [.int (mm_sl i)]) (F' := F) (G' := F) (F'' := F) (pc' := 9) hi dJ0_length_8abf5_6 rfl mfJ0_coder_7d493 rfl lkJ0_335 rfl ⟨Nat.le_of_ble_eq_true rfl, Nat.le_of_ble_eq_true rfl⟩ (Nat.le_of_ble_eq_true rfl) (fun z => z) (rJ0_coder hi h) rfl (fun z => z) ?_
  refine me_ishr (pc' := 10) dJ0_length_8abf5_9 rfl ?_
  rw [show (mm_sl i) >>> ((0 : Int32) &&& 31) = mm_sl i by rw [show ((0 : Int32) &&& 31) = 0 by decide]; simp]
  exact me_iret dJ0_length_8abf5_10 rfl (fun z => z) rfl
theorem rJ3_checkIndex {k : Int32} {n : Nat} {w : Value} (hw : w.category = 1) (hk : vp_in k n) (hn : n < 2 ^ 31) (h : mm_H) : mm_R2 F F mJ3_checkIndex_8e157 [.int k, .int (nI n), w] h (some k) (lf_i h) := by
  have h1 : ¬ k < 0 := fun z => hk (Or.inl z)
  have h2 : k < nI n := by
    have h3 : ¬ n ≤ k.toNatClampNeg := fun z => hk (Or.inr z)
    exact mm_lt_nI h1 (by omega) hn
  have e1 : mm_en [.int k, .int (nI n), w] = [some (.int k), some (.int (nI n)), some w] := by
    rw [mm_en, if_neg (by show ¬ (1 : Nat) = 2; decide), mm_en, if_neg (by show ¬ (1 : Nat) = 2; decide), mm_en, if_neg (by rw [hw]; decide), mm_en]
  refine mm_body (L := [some (.int k), some (.int (nI n)), some w]) rfl (by decide +kernel) (by rw [e1]; exact Nat.le_of_ble_eq_true rfl) (by rw [mm_L0, e1]; rfl) ?_
  refine me_iload_n (pc' := 1) (i := 0) dJ3_checkIndex_8e157_0 rfl rfl rfl ?_
  refine mm_neg (o2 := none) h1 (me_if_lt (pc' := 4) (tgt := 9) dJ3_checkIndex_8e157_1 (by decide) rfl (fun c => absurd c h1) (fun _ => ?_))
  refine me_iload_n (pc' := 5) (i := 0) dJ3_checkIndex_8e157_4 rfl rfl rfl ?_
  refine me_iload_n (pc' := 6) (i := 1) dJ3_checkIndex_8e157_5 rfl rfl rfl ?_
  refine mm_pos (o2 := none) h2 (me_icmp_lt (pc' := 9) (tgt := 16) dJ3_checkIndex_8e157_6 (by decide) rfl (fun _ => ?_) (fun c => absurd h2 c))
  refine me_iload_n (pc' := 17) (i := 0) dJ3_checkIndex_8e157_16 rfl rfl rfl ?_
  exact me_iret dJ3_checkIndex_8e157_17 rfl (fun z => z) rfl
theorem rJ0_checkIndex {k : Int32} {n : Nat} (hk : vp_in k n) (hn : n < 2 ^ 31) (h : mm_H) : mm_R2 F F mJ0_checkIndex_df160 [.int k, .int (nI n)] h (some h) lf_v := by
  refine mm_body (L := [some (.int k), some (.int (nI n))]) rfl (by decide +kernel) (Nat.le_of_ble_eq_true rfl) rfl ?_
  refine me_iload_n (pc' := 1) (i := 0) dJ0_checkIndex_df160_0 rfl rfl rfl ?_
  refine me_iload_n (pc' := 2) (i := 1) dJ0_checkIndex_df160_1 rfl rfl rfl ?_
  refine me_strF (pc' := 5) rfl dJ0_checkIndex_df160_2 rfl (fun w hw => ?_)
  refine me_callSt (As := [.int k, .int (nI n), w]) (st := []) (F' := F) (G' := F) (F'' := F) (pc' := 8) dJ0_checkIndex_df160_5 rfl mfJ3_checkIndex_8e157 rfl lkJ0_1059 ⟨Nat.le_of_ble_eq_true rfl, Nat.le_of_ble_eq_true rfl⟩ (Nat.le_of_ble_eq_true rfl) (fun z => z) (rJ3_checkIndex hw hk hn h) rfl (fun z => z) ?_
  refine me_pop (v := .int k) (pc' := 9) dJ0_checkIndex_df160_8 rfl rfl ?_
  exact me_vret dJ0_checkIndex_df160_9 rfl (fun z => z) rfl
theorem mm_sn_lt {i : Nat} : mm_sn i < 2 ^ 31 := by
  rcases Nat.lt_or_ge i 17 with h | h
  · have h9 : ∀ i, i < 17 → mm_sn i < 2 ^ 31 := by decide +kernel
    exact h9 i h
  · unfold mm_sn
    rw [List.getD_eq_getElem?_getD, List.getElem?_eq_none (by have h3 : mm_slen.length = 17 := by decide +kernel
                                                              omega)]
    decide
theorem rJ1_charAt {i : Nat} {k : Int32} (hi : i < 17) (hk : vp_in k (mm_sn i)) (h : mm_H) : mm_R2 F F mJ1_charAt_3b067 [.ref (mm_NN + 101 + i), .int k] h (some (mm_sc i k)) (lf_i h) := by
  refine mm_body (L := [some (.ref (mm_NN + 101 + i)), some (.int k)]) rfl (by decide +kernel) (Nat.le_of_ble_eq_true rfl) rfl ?_
  refine me_iload_n (pc' := 1) (i := 1) dJ1_charAt_3b067_0 rfl rfl rfl ?_
  refine me_aload_n (pc' := 2) (i := 0) dJ1_charAt_3b067_1 rfl rfl rfl ?_
  refine me_strA (pc' := 3) hi dJ1_charAt_3b067_2 rfl ?_
  refine me_callSt (As := [.int k, .int (mm_sl i)]) (st := []) (F' := F) (G' := F) (F'' := F) (pc' := 6) dJ1_charAt_3b067_3 rfl mfJ0_checkIndex_df160 rfl lkJ1_9 ⟨Nat.le_of_ble_eq_true rfl, Nat.le_of_ble_eq_true rfl⟩ (Nat.le_of_ble_eq_true rfl) (fun z => z) (rJ0_checkIndex hk mm_sn_lt h) rfl (fun z => z) ?_
  refine me_aload_n (pc' := 7) (i := 0) dJ1_charAt_3b067_6 rfl rfl rfl ?_
  refine me_iload_n (pc' := 8) (i := 1) dJ1_charAt_3b067_7 rfl rfl rfl ?_
  refine me_strB (pc' := 9) hi hk dJ1_charAt_3b067_8 rfl ?_
  refine me_sipush (pc' := 12) (v := 255) dJ1_charAt_3b067_9 rfl (by decide) ?_
  refine me_iand (pc' := 13) dJ1_charAt_3b067_12 rfl ?_
  refine me_i2c (pc' := 14) (v := mm_sc i k) dJ1_charAt_3b067_13 rfl (sc_c2 _) ?_
  exact me_nret (ty := .char) dJ1_charAt_3b067_14 rfl (sc_nar _) (fun z => z) rfl
theorem rJ0_charAt {i : Nat} {k : Int32} (hi : i < 17) (hk : vp_in k (mm_sn i)) (h : mm_H) : mm_R2 F F mJ0_charAt_5068e [.ref (mm_NN + 1 + i), .int k] h (some (mm_sc i k)) (lf_i h) := by
  refine mm_body (L := [some (.ref (mm_NN + 1 + i)), some (.int k)]) rfl (by decide +kernel) (Nat.le_of_ble_eq_true rfl) rfl ?_
  refine me_aload_n (pc' := 1) (i := 0) dJ0_charAt_5068e_0 rfl rfl rfl ?_
  refine me_callT (As := []) (st := []) (F' := F) (G' := F) (F'' := F) (pc' := 4) hi dJ0_charAt_5068e_1 rfl mfJ0_isLatin1_aae02 rfl lkJ0_492 rfl ⟨Nat.le_of_ble_eq_true rfl, Nat.le_of_ble_eq_true rfl⟩ (Nat.le_of_ble_eq_true rfl) (fun z => z) (rJ0_isLatin1 hi h) rfl (fun z => z) ?_
  show mm_E2 F F _ _ _ [.int (mx_bi true)] h _ _
  refine mm_pos (c := true = true) (o2 := none) rfl (me_ifB_eq (pc' := 7) (tgt := 16) dJ0_charAt_5068e_4 (by decide) rfl (fun c => absurd rfl c) (fun _ => ?_))
  refine me_aload_n (pc' := 8) (i := 0) dJ0_charAt_5068e_7 rfl rfl rfl ?_
  refine me_strV (pc' := 11) hi rfl dJ0_charAt_5068e_8 rfl ?_
  refine me_iload_n (pc' := 12) (i := 1) dJ0_charAt_5068e_11 rfl rfl rfl ?_
  refine me_callSt (As := [.ref (mm_NN + 101 + i), .int k]) (st := []) (F' := F) (G' := F) (F'' := F) (pc' := 15) dJ0_charAt_5068e_12 rfl mfJ1_charAt_3b067 rfl lkJ0_495 ⟨Nat.le_of_ble_eq_true rfl, Nat.le_of_ble_eq_true rfl⟩ (Nat.le_of_ble_eq_true rfl) (fun z => z) (rJ1_charAt hi hk h) rfl (fun z => z) ?_
  exact me_nret (ty := .char) dJ0_charAt_5068e_15 rfl (sc_nar _) (fun z => z) rfl
/-- length() and charAt(k), as one instruction -/
theorem me_slen {i : Nat} (d : decode (my_b M) pc = .ok (.invokevirtual idx, 3)) (hp : pc + 3 = pc') (hk : mm_lk (my_y M).cls idx mJ0_length_8abf5) (hi : i < 17) (hfr : 3 ≤ my_f M ∧ 40 ≤ my_w M) (hcat : (st.map fun v => v.category).sum ≤ 8) (K : mm_E2 F G M pc' L (.int (mm_sl i) :: st) h o lf) : mm_E2 F G M pc L (.ref (401 + i) :: st) h o lf :=
  me_callT (As := []) (F' := F) (G' := F) (F'' := F) hi d hp mfJ0_length_8abf5 rfl hk rfl hfr hcat (fun z => z) (rJ0_length hi h) rfl (fun z => z) K
theorem me_schar {i : Nat} {k : Int32} (d : decode (my_b M) pc = .ok (.invokevirtual idx, 3)) (hp : pc + 3 = pc') (hk : mm_lk (my_y M).cls idx mJ0_charAt_5068e) (hi : i < 17) (hin : vp_in k (mm_sn i)) (hfr : 5 ≤ my_f M ∧ 85 ≤ my_w M) (hcat : (st.map fun v => v.category).sum ≤ 8) (K : mm_E2 F G M pc' L (.int (mm_sc i k) :: st) h o lf) : mm_E2 F G M pc L (.int k :: .ref (401 + i) :: st) h o lf :=
  me_callT (As := [.int k]) (F' := F) (G' := F) (F'' := F) hi d hp mfJ0_charAt_5068e rfl hk rfl hfr hcat (fun z => z) (rJ0_charAt hi hin h) rfl (fun z => z) K

theorem ljX1_37 : mm_lk RX1 37 mJ0_length_8abf5 := Or.inl (mm_gw_of (List.mem_of_getElem? (i := 325) (by decide +kernel)) rfl)
theorem ljX1_43 : mm_lk RX1 43 mJ0_charAt_5068e := Or.inl (mm_gw_of (List.mem_of_getElem? (i := 335) (by decide +kernel)) rfl)
theorem ljX9_63 : mm_lk RX9 63 mJ0_length_8abf5 := Or.inl (mm_gw_of (List.mem_of_getElem? (i := 496) (by decide +kernel)) rfl)
theorem ljX9_67 : mm_lk RX9 67 mJ0_charAt_5068e := Or.inl (mm_gw_of (List.mem_of_getElem? (i := 497) (by decide +kernel)) rfl)
theorem ljL_8 : mm_lk RL 8 mJ0_length_8abf5 := Or.inl (mm_gw_of (List.mem_of_getElem? (i := 994) (by decide +kernel)) rfl)
theorem ljL_14 : mm_lk RL 14 mJ0_charAt_5068e := Or.inl (mm_gw_of (List.mem_of_getElem? (i := 998) (by decide +kernel)) rfl)
theorem ljJ5_32 : mm_lk RJ5 32 mJ0_length_8abf5 := Or.inl (mm_gw_of (List.mem_of_getElem? (i := 1025) (by decide +kernel)) rfl)
end MMS

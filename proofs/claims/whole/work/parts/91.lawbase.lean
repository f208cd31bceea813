section MML
/-! the law's own instructions, and contracts for it -/
variable {τ : Type} {F G : mm_H → Prop} {M N : mm_M} {pc pc' : Nat} {L : List (Option Value)} {st as : List Value} {h : mm_H} {o : Option τ} {lf : τ → mm_O}
def mm_SQ (h : mm_H) : Prop := ∃ t, mm_Sq (360, t) h
theorem mm_ltQ {o t n : Nat} (hk : mm_kd o = (t, n)) (hn : ¬ t = 9 := by decide) : mm_SQ h → o < mh_n h := fun ⟨_, hs⟩ => mm_ltw hk (Nat.le_refl _) hn hs
theorem mm_RQ (H : ∀ t, mm_R2 (mm_Sq (360, t)) (mm_Sq (360, t)) N as h o lf) : mm_R2 mm_SQ mm_SQ N as h o lf := by
  intro x hx ⟨t, ht⟩
  obtain ⟨a, b, c⟩ := H t x hx ht
  exact ⟨a, ⟨t, b⟩, c⟩
theorem mm_RQ1 (H : ∀ t, mm_R2 (mm_Sq (360, t)) (mm_Sq (360, 1)) N as h o lf) : mm_R2 mm_SQ mm_SQ N as h o lf := by
  intro x hx ⟨t, ht⟩
  obtain ⟨a, b, c⟩ := H t x hx ht
  exact ⟨a, ⟨1, b⟩, c⟩
/-- calls of methods with handlers -/
def mm_mSX (N : mm_M) (n : Nat) : Prop := my_h N ≠ [] ∧ Cond.codeWith (my_y N) (my_b N) (my_L N) (my_r N) (my_h N) ∈ mm_gw ∧ Cond.initialized (my_y N).cls ∈ mm_gw ∧ ((my_y N).cls ≠ "java/lang/invoke/MethodHandle" ∧ (my_y N).cls ≠ "java/lang/invoke/VarHandle") ∧ (parseMethodDescriptor (my_y N).desc).map (fun d => d.parameters.length) = some n ∧ Cond.static (my_y N) ∈ mm_gw
theorem mm_wsX {N : mm_M} (hh : my_h N ≠ []) : my_ws N = Cond.codeWith (my_y N) (my_b N) (my_L N) (my_r N) (my_h N) :: mm_gw := by
  unfold my_ws
  cases hq : my_h N with
  | nil => exact absurd hq hh
  | cons a t => rfl
theorem mm_goodX {N : mm_M} {n : Nat} (hm : mm_mSX N n) : ∀ w ∈ my_ws N, w ∈ mm_gw ∧ ((w.onTables && w.keeps) = true ∨ ∃ ty, w = .arrayClass ty) := by
  intro w hw
  have h1 : w ∈ mm_gw := by
    rw [mm_wsX hm.1] at hw
    rcases List.mem_cons.mp hw with rfl | hw
    · exact hm.2.1
    · exact hw
  exact ⟨h1, good_of_word (List.mem_filter.mp h1).2⟩
theorem mm_plenX {N : mm_M} {n : Nat} (hm : mm_mSX N n) : ∀ sig, parseMethodDescriptor (my_y N).desc = some sig → n = sig.parameters.length := by
  intro sig hs
  have h2 := hm.2.2.2.2.1
  rw [hs] at h2
  exact (Option.some.inj h2).symm
theorem me_callSX {F' G' F'' : mm_H → Prop} {σ : Type} {oN : Option σ} {lN : σ → mm_O} {kN : σ → Option τ} {As : List Value} {idx n : Nat} (d : decode (my_b M) pc = .ok (.invokestatic idx, 3)) (hp : pc + 3 = pc') (hm : mm_mSX N n) (hln : As.length = n) (hk : Cond.methodLink (my_y M).cls idx (my_y N) ∈ mm_gw)
    (hfr : my_f N + 1 ≤ my_f M ∧ 8 + (my_L N + 11) + my_w N ≤ my_w M) (hcat : (st.map fun v => v.category).sum ≤ 8) (hF' : F h → F' h) (hR : mm_R2 F' G' N As h oN lN)
    (hv : ∀ x, oN = some x → (∃ v h1, lN x = (.inl v, h1) ∧ (G' h1 → F'' h1) ∧ mm_E2 F'' G M pc' L (v.toList ++ st) h1 (kN x) lf) ∨
      (∃ E h1, lN x = (.inr E, h1) ∧ my_h M = [] ∧ (G' h1 → G h1) ∧ ∀ y, kN x = some y → lf y = (.inr E, h1))) : mm_E2 F G M pc L (As.reverse ++ st) h (oN.bind kN) lf := by
  refine mm_call hp hF' hR (fun r X p l e R s m args below meth c H locs ls cells slots hC hP hS hL hF hsz hM hrm => ?_) hv
  obtain ⟨hl, hx, hb, hr', hml, hown, hlk, hts, hE, hte, hin0, hRf, hRl⟩ := hC
  have hpay := pay_in hts (mm_goodX hm)
  refine ⟨(As.map (mx_cv X)).toArray, ?_⟩
  exact vx_runSX (As := As.map (mx_cv X)) (Ts := mm_gw) ⟨hx, hb, hml, hown, hts⟩ hM ⟨⟨rfl, rfl, by show my_f N + 1 ≤ _; omega, by show 8 + (my_L N + 11) + my_w N ≤ _; omega, hpay, by rw [mm_wsX hm.1]; exact List.mem_cons_self⟩, hts _ hm.2.1, hts _ hm.2.2.1, hm.2.2.2.1, mm_plenX hm, hts _ hk, hts _ hm.2.2.2.2.2⟩
      ⟨mm_Pc_blind, mm_Pc_at hE hP hS hsz⟩ rfl (by rw [List.length_map]; exact hln) hL.1 (by rw [List.map_append, List.map_reverse]) (by show 2 * 0 + _ ≤ 8; rw [mx_cats]; omega) d hrm
theorem mx_ad_scr (X : mm_X) : mx_ad X 360 = mx_b X := by
  unfold mx_ad
  rw [if_neg (by show ¬ 360 < 360; omega), if_pos (show 360 = mm_NN from rfl)]
theorem me_sclen (d : decode (my_b M) pc = .ok (.arraylength, 1)) (hp : pc + 1 = pc') (K : mm_E2 F G M pc' L (.int (mh_I h 360 0) :: st) h o lf) : mm_E2 F G M pc L (.ref 360 :: st) h o lf := by
  subst hp
  refine mm_lift (st' := .int (mh_I h 360 0) :: st) (fun X p l e R s m args below meth c H locs ls cells slots Q hC hP hS hL hF _ _ kk => ?_) K
  obtain ⟨hl, hx, hb, hr, hml, hown, hlk, hts, hE, hte, hin0, hRf, hRl⟩ := hC
  show W p l e R s m args below meth c H locs cells slots Q (F0 m pc ls (.ref (mx_ad X 360) :: st.map (mx_cv X)))
  rw [mx_ad_scr]
  have e1 : mh_I h 360 0 = nI (mx_L X) := hP.2.2.1.1
  have kk2 : W p l e R s m args below meth c H locs cells slots Q (F0 m (pc + 1) ls (.int (mh_I h 360 0) :: st.map (mx_cv X))) := kk
  rw [e1] at kk2
  exact va_slen hx hb hE.2.1 (Nat.lt_of_lt_of_le hE.1.1 hE.1.2.2) (show ¬ mx_base X ≤ mx_b X from Nat.not_le.mpr hE.1.1) hS d kk2
def mm_isb (i n : Int32) : Bool := decide (¬ i < 0 ∧ i < n)
theorem me_scld {i : Int32} (d : decode (my_b M) pc = .ok (.iaload, 1)) (hp : pc + 1 = pc') (hi : mm_isb i (mh_I h 360 0) = true) (K : mm_E2 F G M pc' L (.int (mh_I h 360 (Int32.toNatClampNeg i + 1)) :: st) h o lf) : mm_E2 F G M pc L (.int i :: .ref 360 :: st) h o lf := by
  subst hp
  refine mm_lift (st' := .int (mh_I h 360 (Int32.toNatClampNeg i + 1)) :: st) (fun X p l e R s m args below meth c H locs ls cells slots Q hC hP hS hL hF _ _ kk => ?_) K
  obtain ⟨hl, hx, hb, hr, hml, hown, hlk, hts, hE, hte, hin0, hRf, hRl⟩ := hC
  show W p l e R s m args below meth c H locs cells slots Q (F0 m pc ls (.int i :: .ref (mx_ad X 360) :: st.map (mx_cv X)))
  rw [mx_ad_scr]
  have hL9 := hE.1.2.1
  obtain ⟨i1, i2⟩ := of_decide_eq_true (p := ¬ i < 0 ∧ i < mh_I h 360 0) hi
  have e1 : mh_I h 360 0 = nI (mx_L X) := hP.2.2.1.1
  rw [e1] at i2
  obtain ⟨j, hj, rfl⟩ := nI_of i1
  have hjL : j < mx_L X := (nI_ltI hj (by omega)).mp i2
  have e2 : mh_I h 360 (j + 1) = mx_xs X j := hP.2.2.1.2 j hjL
  have kk2 : W p l e R s m args below meth c H locs cells slots Q (F0 m (pc + 1) ls (.int (mh_I h 360 (Int32.toNatClampNeg (nI j) + 1)) :: st.map (mx_cv X))) := kk
  rw [nI_clamp hj, e2] at kk2
  refine va_sld hx hb hE.2.1 (Nat.lt_of_lt_of_le hE.1.1 hE.1.2.2) (show ¬ mx_base X ≤ mx_b X from Nat.not_le.mpr hE.1.1) hS (vp_in_nI hjL (by omega)) d ?_
  rw [nI_clamp hj]
  exact kk2
theorem mm_out60 {x : Int32} (c0 : ¬ x = 0) (c1 : ¬ x = 1) (c2 : ¬ x = 2) (c3 : ¬ x = 3) (c4 : ¬ x = 4) (c5 : ¬ x = 5) (c6 : ¬ x = 6) (c7 : ¬ x = 7) (c8 : ¬ x = 8) (c9 : ¬ x = 9) (c10 : ¬ x = 10) (c11 : ¬ x = 11) (c12 : ¬ x = 12) (c13 : ¬ x = 13) (c14 : ¬ x = 14) (c15 : ¬ x = 15) (c16 : ¬ x = 16) (c17 : ¬ x = 17) (c18 : ¬ x = 18) (c19 : ¬ x = 19) (c20 : ¬ x = 20) (c21 : ¬ x = 21) (c22 : ¬ x = 22) (c23 : ¬ x = 23) (c24 : ¬ x = 24) (c25 : ¬ x = 25) (c26 : ¬ x = 26) (c27 : ¬ x = 27) (c28 : ¬ x = 28) (c29 : ¬ x = 29) (c30 : ¬ x = 30) (c31 : ¬ x = 31) (c32 : ¬ x = 32) (c33 : ¬ x = 33) (c34 : ¬ x = 34) (c35 : ¬ x = 35) (c36 : ¬ x = 36) (c37 : ¬ x = 37) (c38 : ¬ x = 38) (c39 : ¬ x = 39) (c40 : ¬ x = 40) (c41 : ¬ x = 41) (c42 : ¬ x = 42) (c43 : ¬ x = 43) (c44 : ¬ x = 44) (c45 : ¬ x = 45) (c46 : ¬ x = 46) (c47 : ¬ x = 47) (c48 : ¬ x = 48) (c49 : ¬ x = 49) (c50 : ¬ x = 50) (c51 : ¬ x = 51) (c52 : ¬ x = 52) (c53 : ¬ x = 53) (c54 : ¬ x = 54) (c55 : ¬ x = 55) (c56 : ¬ x = 56) (c57 : ¬ x = 57) (c58 : ¬ x = 58) (c59 : ¬ x = 59) (c60 : ¬ x = 60) : x.toInt < 0 ∨ 60 < x.toInt := by
  by_cases h1 : x.toInt < 0
  · exact Or.inl h1
  · by_cases h2 : 60 < x.toInt
    · exact Or.inr h2
    · exfalso
      obtain ⟨k, hk⟩ : ∃ k : Nat, x.toInt = (k : Int) := ⟨x.toInt.toNat, by omega⟩
      have hx : x = nI k := mm_i32 (by omega) hk
      have hk61 : k < 61 := by omega
      match k, hk61, hx with
      | 0, _, hx => exact c0 hx
      | 1, _, hx => exact c1 hx
      | 2, _, hx => exact c2 hx
      | 3, _, hx => exact c3 hx
      | 4, _, hx => exact c4 hx
      | 5, _, hx => exact c5 hx
      | 6, _, hx => exact c6 hx
      | 7, _, hx => exact c7 hx
      | 8, _, hx => exact c8 hx
      | 9, _, hx => exact c9 hx
      | 10, _, hx => exact c10 hx
      | 11, _, hx => exact c11 hx
      | 12, _, hx => exact c12 hx
      | 13, _, hx => exact c13 hx
      | 14, _, hx => exact c14 hx
      | 15, _, hx => exact c15 hx
      | 16, _, hx => exact c16 hx
      | 17, _, hx => exact c17 hx
      | 18, _, hx => exact c18 hx
      | 19, _, hx => exact c19 hx
      | 20, _, hx => exact c20 hx
      | 21, _, hx => exact c21 hx
      | 22, _, hx => exact c22 hx
      | 23, _, hx => exact c23 hx
      | 24, _, hx => exact c24 hx
      | 25, _, hx => exact c25 hx
      | 26, _, hx => exact c26 hx
      | 27, _, hx => exact c27 hx
      | 28, _, hx => exact c28 hx
      | 29, _, hx => exact c29 hx
      | 30, _, hx => exact c30 hx
      | 31, _, hx => exact c31 hx
      | 32, _, hx => exact c32 hx
      | 33, _, hx => exact c33 hx
      | 34, _, hx => exact c34 hx
      | 35, _, hx => exact c35 hx
      | 36, _, hx => exact c36 hx
      | 37, _, hx => exact c37 hx
      | 38, _, hx => exact c38 hx
      | 39, _, hx => exact c39 hx
      | 40, _, hx => exact c40 hx
      | 41, _, hx => exact c41 hx
      | 42, _, hx => exact c42 hx
      | 43, _, hx => exact c43 hx
      | 44, _, hx => exact c44 hx
      | 45, _, hx => exact c45 hx
      | 46, _, hx => exact c46 hx
      | 47, _, hx => exact c47 hx
      | 48, _, hx => exact c48 hx
      | 49, _, hx => exact c49 hx
      | 50, _, hx => exact c50 hx
      | 51, _, hx => exact c51 hx
      | 52, _, hx => exact c52 hx
      | 53, _, hx => exact c53 hx
      | 54, _, hx => exact c54 hx
      | 55, _, hx => exact c55 hx
      | 56, _, hx => exact c56 hx
      | 57, _, hx => exact c57 hx
      | 58, _, hx => exact c58 hx
      | 59, _, hx => exact c59 hx
      | 60, _, hx => exact c60 hx
      | n + 61, hn, _ => omega
theorem mfL_append : mm_mSX mL_append 7 := ⟨by decide, (mm_gw_of (List.mem_of_getElem? (i := 653) (by decide +kernel)) rfl), (mm_gw_of (List.mem_of_getElem? (i := 105) (by decide +kernel)) rfl), by decide +kernel, by decide +kernel, (mm_gw_of (List.mem_of_getElem? (i := 652) (by decide +kernel)) rfl)⟩
theorem mfL_truncate : mm_mSX mL_truncate 3 := ⟨by decide, (mm_gw_of (List.mem_of_getElem? (i := 737) (by decide +kernel)) rfl), (mm_gw_of (List.mem_of_getElem? (i := 105) (by decide +kernel)) rfl), by decide +kernel, by decide +kernel, (mm_gw_of (List.mem_of_getElem? (i := 736) (by decide +kernel)) rfl)⟩
theorem mfL_load : mm_mSX mL_load 2 := ⟨by decide, (mm_gw_of (List.mem_of_getElem? (i := 772) (by decide +kernel)) rfl), (mm_gw_of (List.mem_of_getElem? (i := 105) (by decide +kernel)) rfl), by decide +kernel, by decide +kernel, (mm_gw_of (List.mem_of_getElem? (i := 771) (by decide +kernel)) rfl)⟩
theorem mfL_nameByte : mm_mSX mL_nameByte 4 := ⟨by decide, (mm_gw_of (List.mem_of_getElem? (i := 906) (by decide +kernel)) rfl), (mm_gw_of (List.mem_of_getElem? (i := 105) (by decide +kernel)) rfl), by decide +kernel, by decide +kernel, (mm_gw_of (List.mem_of_getElem? (i := 905) (by decide +kernel)) rfl)⟩
theorem mfL_findProduct : mm_mSX mL_findProduct 2 := ⟨by decide, (mm_gw_of (List.mem_of_getElem? (i := 943) (by decide +kernel)) rfl), (mm_gw_of (List.mem_of_getElem? (i := 105) (by decide +kernel)) rfl), by decide +kernel, by decide +kernel, (mm_gw_of (List.mem_of_getElem? (i := 942) (by decide +kernel)) rfl)⟩
theorem mfL_minimumStock : mm_mSX mL_minimumStock 3 := ⟨by decide, (mm_gw_of (List.mem_of_getElem? (i := 968) (by decide +kernel)) rfl), (mm_gw_of (List.mem_of_getElem? (i := 105) (by decide +kernel)) rfl), by decide +kernel, by decide +kernel, (mm_gw_of (List.mem_of_getElem? (i := 967) (by decide +kernel)) rfl)⟩
theorem mfL_onHand : mm_mSX mL_onHand 3 := ⟨by decide, (mm_gw_of (List.mem_of_getElem? (i := 975) (by decide +kernel)) rfl), (mm_gw_of (List.mem_of_getElem? (i := 105) (by decide +kernel)) rfl), by decide +kernel, by decide +kernel, (mm_gw_of (List.mem_of_getElem? (i := 974) (by decide +kernel)) rfl)⟩
theorem mfL_reserved : mm_mSX mL_reserved 3 := ⟨by decide, (mm_gw_of (List.mem_of_getElem? (i := 982) (by decide +kernel)) rfl), (mm_gw_of (List.mem_of_getElem? (i := 105) (by decide +kernel)) rfl), by decide +kernel, by decide +kernel, (mm_gw_of (List.mem_of_getElem? (i := 981) (by decide +kernel)) rfl)⟩
theorem mfL_availableOn : mm_mSX mL_availableOn 4 := ⟨by decide, (mm_gw_of (List.mem_of_getElem? (i := 993) (by decide +kernel)) rfl), (mm_gw_of (List.mem_of_getElem? (i := 105) (by decide +kernel)) rfl), by decide +kernel, by decide +kernel, (mm_gw_of (List.mem_of_getElem? (i := 992) (by decide +kernel)) rfl)⟩
theorem mfL_expired : mm_mSX mL_expired 3 := ⟨by decide, (mm_gw_of (List.mem_of_getElem? (i := 1000) (by decide +kernel)) rfl), (mm_gw_of (List.mem_of_getElem? (i := 105) (by decide +kernel)) rfl), by decide +kernel, by decide +kernel, (mm_gw_of (List.mem_of_getElem? (i := 999) (by decide +kernel)) rfl)⟩
theorem mfL_expiringWithin : mm_mSX mL_expiringWithin 4 := ⟨by decide, (mm_gw_of (List.mem_of_getElem? (i := 1011) (by decide +kernel)) rfl), (mm_gw_of (List.mem_of_getElem? (i := 105) (by decide +kernel)) rfl), by decide +kernel, by decide +kernel, (mm_gw_of (List.mem_of_getElem? (i := 1010) (by decide +kernel)) rfl)⟩
theorem mfL_stockValue : mm_mSX mL_stockValue 3 := ⟨by decide, (mm_gw_of (List.mem_of_getElem? (i := 1018) (by decide +kernel)) rfl), (mm_gw_of (List.mem_of_getElem? (i := 105) (by decide +kernel)) rfl), by decide +kernel, by decide +kernel, (mm_gw_of (List.mem_of_getElem? (i := 1017) (by decide +kernel)) rfl)⟩
theorem mfL_reorderQuantity : mm_mSX mL_reorderQuantity 3 := ⟨by decide, (mm_gw_of (List.mem_of_getElem? (i := 1025) (by decide +kernel)) rfl), (mm_gw_of (List.mem_of_getElem? (i := 105) (by decide +kernel)) rfl), by decide +kernel, by decide +kernel, (mm_gw_of (List.mem_of_getElem? (i := 1024) (by decide +kernel)) rfl)⟩
theorem mfL_productOf : mm_mSX mL_productOf 3 := ⟨by decide, (mm_gw_of (List.mem_of_getElem? (i := 1032) (by decide +kernel)) rfl), (mm_gw_of (List.mem_of_getElem? (i := 105) (by decide +kernel)) rfl), by decide +kernel, by decide +kernel, (mm_gw_of (List.mem_of_getElem? (i := 1031) (by decide +kernel)) rfl)⟩
theorem mfL_quantity : mm_mSX mL_quantity 3 := ⟨by decide, (mm_gw_of (List.mem_of_getElem? (i := 1048) (by decide +kernel)) rfl), (mm_gw_of (List.mem_of_getElem? (i := 105) (by decide +kernel)) rfl), by decide +kernel, by decide +kernel, (mm_gw_of (List.mem_of_getElem? (i := 1047) (by decide +kernel)) rfl)⟩
theorem mfL_reservedOf : mm_mSX mL_reservedOf 3 := ⟨by decide, (mm_gw_of (List.mem_of_getElem? (i := 1055) (by decide +kernel)) rfl), (mm_gw_of (List.mem_of_getElem? (i := 105) (by decide +kernel)) rfl), by decide +kernel, by decide +kernel, (mm_gw_of (List.mem_of_getElem? (i := 1054) (by decide +kernel)) rfl)⟩
theorem mfL_expiryDay : mm_mSX mL_expiryDay 3 := ⟨by decide, (mm_gw_of (List.mem_of_getElem? (i := 1062) (by decide +kernel)) rfl), (mm_gw_of (List.mem_of_getElem? (i := 105) (by decide +kernel)) rfl), by decide +kernel, by decide +kernel, (mm_gw_of (List.mem_of_getElem? (i := 1061) (by decide +kernel)) rfl)⟩
theorem mfL_unitCost : mm_mSX mL_unitCost 3 := ⟨by decide, (mm_gw_of (List.mem_of_getElem? (i := 1069) (by decide +kernel)) rfl), (mm_gw_of (List.mem_of_getElem? (i := 105) (by decide +kernel)) rfl), by decide +kernel, by decide +kernel, (mm_gw_of (List.mem_of_getElem? (i := 1068) (by decide +kernel)) rfl)⟩
theorem mfL_isExpired : mm_mSX mL_isExpired 3 := ⟨by decide, (mm_gw_of (List.mem_of_getElem? (i := 1076) (by decide +kernel)) rfl), (mm_gw_of (List.mem_of_getElem? (i := 105) (by decide +kernel)) rfl), by decide +kernel, by decide +kernel, (mm_gw_of (List.mem_of_getElem? (i := 1075) (by decide +kernel)) rfl)⟩
theorem mfL_issueOrder : mm_mSX mL_issueOrder 4 := ⟨by decide, (mm_gw_of (List.mem_of_getElem? (i := 1084) (by decide +kernel)) rfl), (mm_gw_of (List.mem_of_getElem? (i := 105) (by decide +kernel)) rfl), by decide +kernel, by decide +kernel, (mm_gw_of (List.mem_of_getElem? (i := 1083) (by decide +kernel)) rfl)⟩
theorem mfL_costOfIssue : mm_mSX mL_costOfIssue 4 := ⟨by decide, (mm_gw_of (List.mem_of_getElem? (i := 1105) (by decide +kernel)) rfl), (mm_gw_of (List.mem_of_getElem? (i := 105) (by decide +kernel)) rfl), by decide +kernel, by decide +kernel, (mm_gw_of (List.mem_of_getElem? (i := 1104) (by decide +kernel)) rfl)⟩
theorem mfL_reservedProduct : mm_mSX mL_reservedProduct 3 := ⟨by decide, (mm_gw_of (List.mem_of_getElem? (i := 1117) (by decide +kernel)) rfl), (mm_gw_of (List.mem_of_getElem? (i := 105) (by decide +kernel)) rfl), by decide +kernel, by decide +kernel, (mm_gw_of (List.mem_of_getElem? (i := 1116) (by decide +kernel)) rfl)⟩
theorem mfL_reservedQuantity : mm_mSX mL_reservedQuantity 3 := ⟨by decide, (mm_gw_of (List.mem_of_getElem? (i := 1133) (by decide +kernel)) rfl), (mm_gw_of (List.mem_of_getElem? (i := 105) (by decide +kernel)) rfl), by decide +kernel, by decide +kernel, (mm_gw_of (List.mem_of_getElem? (i := 1132) (by decide +kernel)) rfl)⟩
theorem mfL_isOpen : mm_mSX mL_isOpen 3 := ⟨by decide, (mm_gw_of (List.mem_of_getElem? (i := 1140) (by decide +kernel)) rfl), (mm_gw_of (List.mem_of_getElem? (i := 105) (by decide +kernel)) rfl), by decide +kernel, by decide +kernel, (mm_gw_of (List.mem_of_getElem? (i := 1139) (by decide +kernel)) rfl)⟩
theorem mfL_missing : mm_mSX mL_missing 3 := ⟨by decide, (mm_gw_of (List.mem_of_getElem? (i := 1148) (by decide +kernel)) rfl), (mm_gw_of (List.mem_of_getElem? (i := 105) (by decide +kernel)) rfl), by decide +kernel, by decide +kernel, (mm_gw_of (List.mem_of_getElem? (i := 1147) (by decide +kernel)) rfl)⟩
theorem mfL_allocation : mm_mSX mL_allocation 4 := ⟨by decide, (mm_gw_of (List.mem_of_getElem? (i := 1163) (by decide +kernel)) rfl), (mm_gw_of (List.mem_of_getElem? (i := 105) (by decide +kernel)) rfl), by decide +kernel, by decide +kernel, (mm_gw_of (List.mem_of_getElem? (i := 1162) (by decide +kernel)) rfl)⟩
theorem mfL_whyNotShipped : mm_mSX mL_whyNotShipped 3 := ⟨by decide, (mm_gw_of (List.mem_of_getElem? (i := 1171) (by decide +kernel)) rfl), (mm_gw_of (List.mem_of_getElem? (i := 105) (by decide +kernel)) rfl), by decide +kernel, by decide +kernel, (mm_gw_of (List.mem_of_getElem? (i := 1170) (by decide +kernel)) rfl)⟩
theorem mfL_receivedUnits : mm_mSX mL_receivedUnits 3 := ⟨by decide, (mm_gw_of (List.mem_of_getElem? (i := 1183) (by decide +kernel)) rfl), (mm_gw_of (List.mem_of_getElem? (i := 105) (by decide +kernel)) rfl), by decide +kernel, by decide +kernel, (mm_gw_of (List.mem_of_getElem? (i := 1182) (by decide +kernel)) rfl)⟩
theorem mfL_deliveredUnits : mm_mSX mL_deliveredUnits 3 := ⟨by decide, (mm_gw_of (List.mem_of_getElem? (i := 1190) (by decide +kernel)) rfl), (mm_gw_of (List.mem_of_getElem? (i := 105) (by decide +kernel)) rfl), by decide +kernel, by decide +kernel, (mm_gw_of (List.mem_of_getElem? (i := 1189) (by decide +kernel)) rfl)⟩
theorem mfL_writtenOffUnits : mm_mSX mL_writtenOffUnits 3 := ⟨by decide, (mm_gw_of (List.mem_of_getElem? (i := 1197) (by decide +kernel)) rfl), (mm_gw_of (List.mem_of_getElem? (i := 105) (by decide +kernel)) rfl), by decide +kernel, by decide +kernel, (mm_gw_of (List.mem_of_getElem? (i := 1196) (by decide +kernel)) rfl)⟩
theorem mfL_adjustment : mm_mSX mL_adjustment 3 := ⟨by decide, (mm_gw_of (List.mem_of_getElem? (i := 1204) (by decide +kernel)) rfl), (mm_gw_of (List.mem_of_getElem? (i := 105) (by decide +kernel)) rfl), by decide +kernel, by decide +kernel, (mm_gw_of (List.mem_of_getElem? (i := 1203) (by decide +kernel)) rfl)⟩
theorem mfL_meanCost : mm_mSX mL_meanCost 3 := ⟨by decide, (mm_gw_of (List.mem_of_getElem? (i := 1211) (by decide +kernel)) rfl), (mm_gw_of (List.mem_of_getElem? (i := 105) (by decide +kernel)) rfl), by decide +kernel, by decide +kernel, (mm_gw_of (List.mem_of_getElem? (i := 1210) (by decide +kernel)) rfl)⟩
theorem mfL_wasteShare : mm_mSX mL_wasteShare 3 := ⟨by decide, (mm_gw_of (List.mem_of_getElem? (i := 1218) (by decide +kernel)) rfl), (mm_gw_of (List.mem_of_getElem? (i := 105) (by decide +kernel)) rfl), by decide +kernel, by decide +kernel, (mm_gw_of (List.mem_of_getElem? (i := 1217) (by decide +kernel)) rfl)⟩
theorem mfL_daysUntilShortage : mm_mSX mL_daysUntilShortage 4 := ⟨by decide, (mm_gw_of (List.mem_of_getElem? (i := 1225) (by decide +kernel)) rfl), (mm_gw_of (List.mem_of_getElem? (i := 105) (by decide +kernel)) rfl), by decide +kernel, by decide +kernel, (mm_gw_of (List.mem_of_getElem? (i := 1224) (by decide +kernel)) rfl)⟩
theorem mfL_wasteWithDemand : mm_mSX mL_wasteWithDemand 5 := ⟨by decide, (mm_gw_of (List.mem_of_getElem? (i := 1245) (by decide +kernel)) rfl), (mm_gw_of (List.mem_of_getElem? (i := 105) (by decide +kernel)) rfl), by decide +kernel, by decide +kernel, (mm_gw_of (List.mem_of_getElem? (i := 1244) (by decide +kernel)) rfl)⟩
theorem mfL_demandWithoutWaste : mm_mSX mL_demandWithoutWaste 3 := ⟨by decide, (mm_gw_of (List.mem_of_getElem? (i := 1260) (by decide +kernel)) rfl), (mm_gw_of (List.mem_of_getElem? (i := 105) (by decide +kernel)) rfl), by decide +kernel, by decide +kernel, (mm_gw_of (List.mem_of_getElem? (i := 1259) (by decide +kernel)) rfl)⟩
theorem mfL_receive : mm_mSX mL_receive 6 := ⟨by decide, (mm_gw_of (List.mem_of_getElem? (i := 1271) (by decide +kernel)) rfl), (mm_gw_of (List.mem_of_getElem? (i := 105) (by decide +kernel)) rfl), by decide +kernel, by decide +kernel, (mm_gw_of (List.mem_of_getElem? (i := 1270) (by decide +kernel)) rfl)⟩
theorem mfL_issue : mm_mSX mL_issue 4 := ⟨by decide, (mm_gw_of (List.mem_of_getElem? (i := 1287) (by decide +kernel)) rfl), (mm_gw_of (List.mem_of_getElem? (i := 105) (by decide +kernel)) rfl), by decide +kernel, by decide +kernel, (mm_gw_of (List.mem_of_getElem? (i := 1286) (by decide +kernel)) rfl)⟩
theorem mfL_reserve : mm_mSX mL_reserve 5 := ⟨by decide, (mm_gw_of (List.mem_of_getElem? (i := 1303) (by decide +kernel)) rfl), (mm_gw_of (List.mem_of_getElem? (i := 105) (by decide +kernel)) rfl), by decide +kernel, by decide +kernel, (mm_gw_of (List.mem_of_getElem? (i := 1302) (by decide +kernel)) rfl)⟩
theorem mfL_ship : mm_mSX mL_ship 3 := ⟨by decide, (mm_gw_of (List.mem_of_getElem? (i := 1322) (by decide +kernel)) rfl), (mm_gw_of (List.mem_of_getElem? (i := 105) (by decide +kernel)) rfl), by decide +kernel, by decide +kernel, (mm_gw_of (List.mem_of_getElem? (i := 1321) (by decide +kernel)) rfl)⟩
theorem mfL_cancel : mm_mSX mL_cancel 3 := ⟨by decide, (mm_gw_of (List.mem_of_getElem? (i := 1341) (by decide +kernel)) rfl), (mm_gw_of (List.mem_of_getElem? (i := 105) (by decide +kernel)) rfl), by decide +kernel, by decide +kernel, (mm_gw_of (List.mem_of_getElem? (i := 1340) (by decide +kernel)) rfl)⟩
theorem mfL_refill : mm_mSX mL_refill 3 := ⟨by decide, (mm_gw_of (List.mem_of_getElem? (i := 1356) (by decide +kernel)) rfl), (mm_gw_of (List.mem_of_getElem? (i := 105) (by decide +kernel)) rfl), by decide +kernel, by decide +kernel, (mm_gw_of (List.mem_of_getElem? (i := 1355) (by decide +kernel)) rfl)⟩
theorem mfL_takeStock : mm_mSX mL_takeStock 4 := ⟨by decide, (mm_gw_of (List.mem_of_getElem? (i := 1364) (by decide +kernel)) rfl), (mm_gw_of (List.mem_of_getElem? (i := 105) (by decide +kernel)) rfl), by decide +kernel, by decide +kernel, (mm_gw_of (List.mem_of_getElem? (i := 1363) (by decide +kernel)) rfl)⟩
theorem mfL_passDays : mm_mSX mL_passDays 3 := ⟨by decide, (mm_gw_of (List.mem_of_getElem? (i := 1379) (by decide +kernel)) rfl), (mm_gw_of (List.mem_of_getElem? (i := 105) (by decide +kernel)) rfl), by decide +kernel, by decide +kernel, (mm_gw_of (List.mem_of_getElem? (i := 1378) (by decide +kernel)) rfl)⟩
theorem mfL_runScript : mm_mSX mL_runScript 2 := ⟨by decide, (mm_gw_of (List.mem_of_getElem? (i := 1394) (by decide +kernel)) rfl), (mm_gw_of (List.mem_of_getElem? (i := 105) (by decide +kernel)) rfl), by decide +kernel, by decide +kernel, (mm_gw_of (List.mem_of_getElem? (i := 1393) (by decide +kernel)) rfl)⟩
theorem mfL_undo : mm_mSX mL_undo 2 := ⟨by decide, (mm_gw_of (List.mem_of_getElem? (i := 1458) (by decide +kernel)) rfl), (mm_gw_of (List.mem_of_getElem? (i := 105) (by decide +kernel)) rfl), by decide +kernel, by decide +kernel, (mm_gw_of (List.mem_of_getElem? (i := 1457) (by decide +kernel)) rfl)⟩
theorem mfL_save : mm_mSX mL_save 3 := ⟨by decide, (mm_gw_of (List.mem_of_getElem? (i := 1474) (by decide +kernel)) rfl), (mm_gw_of (List.mem_of_getElem? (i := 105) (by decide +kernel)) rfl), by decide +kernel, by decide +kernel, (mm_gw_of (List.mem_of_getElem? (i := 1473) (by decide +kernel)) rfl)⟩
theorem mfL_restore : mm_mSX mL_restore 3 := ⟨by decide, (mm_gw_of (List.mem_of_getElem? (i := 1486) (by decide +kernel)) rfl), (mm_gw_of (List.mem_of_getElem? (i := 105) (by decide +kernel)) rfl), by decide +kernel, by decide +kernel, (mm_gw_of (List.mem_of_getElem? (i := 1485) (by decide +kernel)) rfl)⟩
theorem mfL_writeBatches : mm_mSX mL_writeBatches 3 := ⟨by decide, (mm_gw_of (List.mem_of_getElem? (i := 1500) (by decide +kernel)) rfl), (mm_gw_of (List.mem_of_getElem? (i := 105) (by decide +kernel)) rfl), by decide +kernel, by decide +kernel, (mm_gw_of (List.mem_of_getElem? (i := 1499) (by decide +kernel)) rfl)⟩
theorem mfL_outputByte : mm_mSX mL_outputByte 3 := ⟨by decide, (mm_gw_of (List.mem_of_getElem? (i := 1517) (by decide +kernel)) rfl), (mm_gw_of (List.mem_of_getElem? (i := 105) (by decide +kernel)) rfl), by decide +kernel, by decide +kernel, (mm_gw_of (List.mem_of_getElem? (i := 1516) (by decide +kernel)) rfl)⟩
theorem lx_180 : Cond.methodLink RL 180 yL_append ∈ mm_gw := (mm_gw_of (List.mem_of_getElem? (i := 651) (by decide +kernel)) rfl)
theorem lx_189 : Cond.methodLink RL 189 yL_truncate ∈ mm_gw := (mm_gw_of (List.mem_of_getElem? (i := 735) (by decide +kernel)) rfl)
theorem lx_193 : Cond.methodLink RL 193 yL_load ∈ mm_gw := (mm_gw_of (List.mem_of_getElem? (i := 770) (by decide +kernel)) rfl)
theorem lx_213 : Cond.methodLink RL 213 yL_nameByte ∈ mm_gw := (mm_gw_of (List.mem_of_getElem? (i := 904) (by decide +kernel)) rfl)
theorem lx_217 : Cond.methodLink RL 217 yL_findProduct ∈ mm_gw := (mm_gw_of (List.mem_of_getElem? (i := 941) (by decide +kernel)) rfl)
theorem lx_220 : Cond.methodLink RL 220 yL_minimumStock ∈ mm_gw := (mm_gw_of (List.mem_of_getElem? (i := 966) (by decide +kernel)) rfl)
theorem lx_223 : Cond.methodLink RL 223 yL_onHand ∈ mm_gw := (mm_gw_of (List.mem_of_getElem? (i := 973) (by decide +kernel)) rfl)
theorem lx_226 : Cond.methodLink RL 226 yL_reserved ∈ mm_gw := (mm_gw_of (List.mem_of_getElem? (i := 980) (by decide +kernel)) rfl)
theorem lx_229 : Cond.methodLink RL 229 yL_availableOn ∈ mm_gw := (mm_gw_of (List.mem_of_getElem? (i := 991) (by decide +kernel)) rfl)
theorem lx_232 : Cond.methodLink RL 232 yL_expired ∈ mm_gw := (mm_gw_of (List.mem_of_getElem? (i := 998) (by decide +kernel)) rfl)
theorem lx_235 : Cond.methodLink RL 235 yL_expiringWithin ∈ mm_gw := (mm_gw_of (List.mem_of_getElem? (i := 1009) (by decide +kernel)) rfl)
theorem lx_238 : Cond.methodLink RL 238 yL_stockValue ∈ mm_gw := (mm_gw_of (List.mem_of_getElem? (i := 1016) (by decide +kernel)) rfl)
theorem lx_245 : Cond.methodLink RL 245 yL_reorderQuantity ∈ mm_gw := (mm_gw_of (List.mem_of_getElem? (i := 1023) (by decide +kernel)) rfl)
theorem lx_256 : Cond.methodLink RL 256 yL_productOf ∈ mm_gw := (mm_gw_of (List.mem_of_getElem? (i := 1030) (by decide +kernel)) rfl)
theorem lx_259 : Cond.methodLink RL 259 yL_quantity ∈ mm_gw := (mm_gw_of (List.mem_of_getElem? (i := 1046) (by decide +kernel)) rfl)
theorem lx_262 : Cond.methodLink RL 262 yL_reservedOf ∈ mm_gw := (mm_gw_of (List.mem_of_getElem? (i := 1053) (by decide +kernel)) rfl)
theorem lx_265 : Cond.methodLink RL 265 yL_expiryDay ∈ mm_gw := (mm_gw_of (List.mem_of_getElem? (i := 1060) (by decide +kernel)) rfl)
theorem lx_268 : Cond.methodLink RL 268 yL_unitCost ∈ mm_gw := (mm_gw_of (List.mem_of_getElem? (i := 1067) (by decide +kernel)) rfl)
theorem lx_271 : Cond.methodLink RL 271 yL_isExpired ∈ mm_gw := (mm_gw_of (List.mem_of_getElem? (i := 1074) (by decide +kernel)) rfl)
theorem lx_274 : Cond.methodLink RL 274 yL_issueOrder ∈ mm_gw := (mm_gw_of (List.mem_of_getElem? (i := 1082) (by decide +kernel)) rfl)
theorem lx_277 : Cond.methodLink RL 277 yL_costOfIssue ∈ mm_gw := (mm_gw_of (List.mem_of_getElem? (i := 1103) (by decide +kernel)) rfl)
theorem lx_284 : Cond.methodLink RL 284 yL_reservedProduct ∈ mm_gw := (mm_gw_of (List.mem_of_getElem? (i := 1115) (by decide +kernel)) rfl)
theorem lx_287 : Cond.methodLink RL 287 yL_reservedQuantity ∈ mm_gw := (mm_gw_of (List.mem_of_getElem? (i := 1131) (by decide +kernel)) rfl)
theorem lx_290 : Cond.methodLink RL 290 yL_isOpen ∈ mm_gw := (mm_gw_of (List.mem_of_getElem? (i := 1138) (by decide +kernel)) rfl)
theorem lx_293 : Cond.methodLink RL 293 yL_missing ∈ mm_gw := (mm_gw_of (List.mem_of_getElem? (i := 1146) (by decide +kernel)) rfl)
theorem lx_296 : Cond.methodLink RL 296 yL_allocation ∈ mm_gw := (mm_gw_of (List.mem_of_getElem? (i := 1161) (by decide +kernel)) rfl)
theorem lx_299 : Cond.methodLink RL 299 yL_whyNotShipped ∈ mm_gw := (mm_gw_of (List.mem_of_getElem? (i := 1169) (by decide +kernel)) rfl)
theorem lx_306 : Cond.methodLink RL 306 yL_receivedUnits ∈ mm_gw := (mm_gw_of (List.mem_of_getElem? (i := 1181) (by decide +kernel)) rfl)
theorem lx_309 : Cond.methodLink RL 309 yL_deliveredUnits ∈ mm_gw := (mm_gw_of (List.mem_of_getElem? (i := 1188) (by decide +kernel)) rfl)
theorem lx_312 : Cond.methodLink RL 312 yL_writtenOffUnits ∈ mm_gw := (mm_gw_of (List.mem_of_getElem? (i := 1195) (by decide +kernel)) rfl)
theorem lx_315 : Cond.methodLink RL 315 yL_adjustment ∈ mm_gw := (mm_gw_of (List.mem_of_getElem? (i := 1202) (by decide +kernel)) rfl)
theorem lx_318 : Cond.methodLink RL 318 yL_meanCost ∈ mm_gw := (mm_gw_of (List.mem_of_getElem? (i := 1209) (by decide +kernel)) rfl)
theorem lx_322 : Cond.methodLink RL 322 yL_wasteShare ∈ mm_gw := (mm_gw_of (List.mem_of_getElem? (i := 1216) (by decide +kernel)) rfl)
theorem lx_329 : Cond.methodLink RL 329 yL_daysUntilShortage ∈ mm_gw := (mm_gw_of (List.mem_of_getElem? (i := 1223) (by decide +kernel)) rfl)
theorem lx_332 : Cond.methodLink RL 332 yL_wasteWithDemand ∈ mm_gw := (mm_gw_of (List.mem_of_getElem? (i := 1243) (by decide +kernel)) rfl)
theorem lx_336 : Cond.methodLink RL 336 yL_demandWithoutWaste ∈ mm_gw := (mm_gw_of (List.mem_of_getElem? (i := 1258) (by decide +kernel)) rfl)
theorem lx_339 : Cond.methodLink RL 339 yL_receive ∈ mm_gw := (mm_gw_of (List.mem_of_getElem? (i := 1269) (by decide +kernel)) rfl)
theorem lx_343 : Cond.methodLink RL 343 yL_issue ∈ mm_gw := (mm_gw_of (List.mem_of_getElem? (i := 1285) (by decide +kernel)) rfl)
theorem lx_346 : Cond.methodLink RL 346 yL_reserve ∈ mm_gw := (mm_gw_of (List.mem_of_getElem? (i := 1301) (by decide +kernel)) rfl)
theorem lx_349 : Cond.methodLink RL 349 yL_ship ∈ mm_gw := (mm_gw_of (List.mem_of_getElem? (i := 1320) (by decide +kernel)) rfl)
theorem lx_352 : Cond.methodLink RL 352 yL_cancel ∈ mm_gw := (mm_gw_of (List.mem_of_getElem? (i := 1339) (by decide +kernel)) rfl)
theorem lx_355 : Cond.methodLink RL 355 yL_refill ∈ mm_gw := (mm_gw_of (List.mem_of_getElem? (i := 1354) (by decide +kernel)) rfl)
theorem lx_358 : Cond.methodLink RL 358 yL_takeStock ∈ mm_gw := (mm_gw_of (List.mem_of_getElem? (i := 1362) (by decide +kernel)) rfl)
theorem lx_365 : Cond.methodLink RL 365 yL_passDays ∈ mm_gw := (mm_gw_of (List.mem_of_getElem? (i := 1377) (by decide +kernel)) rfl)
theorem lx_368 : Cond.methodLink RL 368 yL_runScript ∈ mm_gw := (mm_gw_of (List.mem_of_getElem? (i := 1392) (by decide +kernel)) rfl)
theorem lx_371 : Cond.methodLink RL 371 yL_undo ∈ mm_gw := (mm_gw_of (List.mem_of_getElem? (i := 1456) (by decide +kernel)) rfl)
theorem lx_374 : Cond.methodLink RL 374 yL_save ∈ mm_gw := (mm_gw_of (List.mem_of_getElem? (i := 1472) (by decide +kernel)) rfl)
theorem lx_377 : Cond.methodLink RL 377 yL_restore ∈ mm_gw := (mm_gw_of (List.mem_of_getElem? (i := 1484) (by decide +kernel)) rfl)
theorem lx_380 : Cond.methodLink RL 380 yL_writeBatches ∈ mm_gw := (mm_gw_of (List.mem_of_getElem? (i := 1498) (by decide +kernel)) rfl)
theorem lx_383 : Cond.methodLink RL 383 yL_outputByte ∈ mm_gw := (mm_gw_of (List.mem_of_getElem? (i := 1515) (by decide +kernel)) rfl)
end MML

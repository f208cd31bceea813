section MMSB5
/-! numbers into a StringBuilder, its making, toString (gen24e.py) -/
variable {F G F' : mm_H → Prop} {h h0 : mm_H} {g m n : Nat} {t : Nat → Nat}
section
variable {τ σ : Type} {F G F' G' F'' : mm_H → Prop} {M N : mm_M} {pc pc' idx n q : Nat} {L : List (Option Value)} {st As : List Value} {h h1 : mm_H} {o : Option τ} {lf : τ → mm_O} {lN : σ → mm_O} {v : Option Value} {z : σ}
theorem me_callIt (d : decode (my_b M) pc = .ok (.invokespecial idx, 3)) (hp : pc + 3 = pc') (hm : mm_mI N n) (hln : As.length = n) (hk : mm_lk (my_y M).cls idx N) (hfr : my_f N + 1 ≤ my_f M ∧ 8 + (my_L N + 11) + my_w N ≤ my_w M) (hcat : (st.map fun v => v.category).sum ≤ 8) (hF' : F h → F' h) (hR : mm_R2 F' G' N (.ref q :: As) h (some z) lN) (hl : lN z = (.inl v, h1)) (hg : G' h1 → F'' h1) (K : mm_E2 F'' G M pc' L (v.toList ++ st) h1 o lf) : mm_E2 F G M pc L (As.reverse ++ .ref q :: st) h o lf :=
  me_callI (kN := fun _ => o) d hp hm hln hk hfr hcat hF' hR (fun x hx => by cases hx; exact Or.inl ⟨v, h1, hl, hg, K⟩)
end
theorem sb_dg1 {v : Nat} (hv : v < 10) : sb_dg v = 1 ∧ sb_dec v 0 = v % 10 + 48 := by
  have e : sb_dg v = 1 := by rw [sb_dg, if_pos hv]
  refine ⟨e, ?_⟩
  unfold sb_dec
  rw [e]
  simp
  omega
theorem sb_dg2 {v : Nat} (hv : 10 ≤ v ∧ v < 100) : sb_dg v = 2 ∧ sb_dec v 0 = v / 10 + 48 ∧ sb_dec v 1 = v % 10 + 48 := by
  have e : sb_dg v = 2 := by rw [sb_dg, if_neg (by omega), if_pos hv.2]
  refine ⟨e, ?_, ?_⟩ <;> unfold sb_dec <;> rw [e] <;> simp <;> omega
theorem mm_kk_I (h : mm_H) (o k p : Nat) (v : Int32) : mm_kk (ms_I h o k v) p = mm_kk h p := rfl
theorem mm_n_I (h : mm_H) (o k : Nat) (v : Int32) : mh_n (ms_I h o k v) = mh_n h := rfl
theorem mm_K_I {h : mm_H} {o k : Nat} {v : Int32} (z : mm_K h) : mm_K (ms_I h o k v) := z
theorem sb_bd : ∀ c, c < 100 → vp_nar .byte (nI (c % 10 + 48)) = sb_b (c % 10 + 48) ∧ vp_nar .byte (nI (c / 10 + 48)) = sb_b (c / 10 + 48) := by decide +kernel
theorem rJ6_getChars1 {v p b : Nat} (hv : v < 10) (hk : mm_kk h b = (3, m)) (hb : b < mh_n h) (hp : p + 1 ≤ m) (hm : m < 2 ^ 30) : mm_R2 mm_K mm_K mJ6_getChars_ba4f3 [.int (nI v), .int (nI (p + 1)), .ref b] h (some (nI p, ms_I h b p (sb_b (v % 10 + 48)))) lf_ie := by
  refine mm_body (L := [some (.int (nI v)), some (.int (nI (p + 1))), some (.ref b), none, none, none, none]) rfl (by decide +kernel) (Nat.le_of_ble_eq_true rfl) rfl ?_
  refine me_iload_n (pc' := 1) (i := 1) dJ6_getChars_ba4f3_0 rfl rfl rfl ?_
  refine me_istore (pc' := 3) (i := 5) (L' := [some (.int (nI v)), some (.int (nI (p + 1))), some (.ref b), none, none, some (.int (nI (p + 1))), none]) dJ6_getChars_ba4f3_1 rfl (Nat.le_of_ble_eq_true rfl) (Nat.le_of_ble_eq_true rfl) rfl ?_
  refine me_iload_n (pc' := 4) (i := 0) dJ6_getChars_ba4f3_3 rfl rfl rfl ?_
  refine mm_neg (c := nI v < 0) (o2 := none) (nI_pos (by omega)) (me_if_ge (pc' := 7) (tgt := 11) dJ6_getChars_ba4f3_4 (by decide) rfl (fun _ => ?_) (fun c9 => absurd c9 (nI_pos (by omega))))
  refine me_iconst (pc' := 12) (v := 0) dJ6_getChars_ba4f3_11 rfl kc_i0 ?_
  refine me_istore (pc' := 14) (i := 6) (L' := [some (.int (nI v)), some (.int (nI (p + 1))), some (.ref b), none, none, some (.int (nI (p + 1))), some (.int 0)]) dJ6_getChars_ba4f3_12 rfl (Nat.le_of_ble_eq_true rfl) (Nat.le_of_ble_eq_true rfl) rfl ?_
  refine me_iload (pc' := 16) (i := 6) dJ6_getChars_ba4f3_14 rfl rfl ?_
  refine mm_pos (c := (0 : Int32) = 0) (o2 := none) (rfl : (0 : Int32) = 0) (me_if_ne (pc' := 19) (tgt := 22) dJ6_getChars_ba4f3_16 (by decide) rfl (fun c9 => absurd (rfl : (0 : Int32) = 0) c9) (fun _ => ?_))
  refine me_iload_n (pc' := 20) (i := 0) dJ6_getChars_ba4f3_19 rfl rfl rfl ?_
  refine me_ineg (pc' := 21) dJ6_getChars_ba4f3_20 rfl ?_
  refine me_istore_n (pc' := 22) (i := 0) (L' := [some (.int (-(nI v))), some (.int (nI (p + 1))), some (.ref b), none, none, some (.int (nI (p + 1))), some (.int 0)]) dJ6_getChars_ba4f3_21 rfl rfl (Nat.le_of_ble_eq_true rfl) (Nat.le_of_ble_eq_true rfl) rfl ?_
  refine me_iload_n (pc' := 23) (i := 0) dJ6_getChars_ba4f3_22 rfl rfl rfl ?_
  refine me_bipush (pc' := 25) (v := (-100)) dJ6_getChars_ba4f3_23 rfl kc_bm100 ?_
  refine mm_pos (c := (-100 : Int32) < -(nI v)) (o2 := none) (show -nI 100 < -nI v from (sb_nlt (by decide) (by omega)).mpr (by omega)) (me_icmp_gt (pc' := 28) (tgt := 72) dJ6_getChars_ba4f3_25 (by decide) rfl (fun _ => ?_) (fun c9 => absurd (show -nI 100 < -nI v from (sb_nlt (by decide) (by omega)).mpr (by omega)) c9))
  refine me_aload_n (pc' := 73) (i := 2) dJ6_getChars_ba4f3_72 rfl rfl rfl ?_
  refine me_iinc (pc' := 76) (i := 5) (y := (nI (p + 0))) (L' := [some (.int (-(nI v))), some (.int (nI (p + 1))), some (.ref b), none, none, some (.int (nI (p + 0))), some (.int 0)]) dJ6_getChars_ba4f3_73 rfl (Nat.le_of_ble_eq_true rfl) (Nat.le_of_ble_eq_true rfl) rfl (show nI (p + 1) + Int32.ofInt (-1) = nI (p + 0) from sb_m1 (p := p + 1) (by omega)) rfl ?_
  refine me_iload (pc' := 78) (i := 5) dJ6_getChars_ba4f3_76 rfl rfl ?_
  refine me_digits (pc' := 81) (a := 1) (q := 602) (Or.inl rfl) rfl (mm_gw_of (List.mem_of_getElem? (i := 1175) (by decide +kernel)) rfl) dJ6_getChars_ba4f3_78 rfl ?_
  refine me_iload_n (pc' := 82) (i := 0) dJ6_getChars_ba4f3_81 rfl rfl rfl ?_
  refine me_ineg (pc' := 83) dJ6_getChars_ba4f3_82 rfl ?_
  rw [show ((-(-(nI v))) : Int32) = nI v from Int32.neg_neg]
  refine me_digit (a := 1) (q := 602) (pc' := 84) (Or.inl rfl) rfl (si_in (show v < 100 by omega) (by omega)) dJ6_getChars_ba4f3_83 rfl ?_
  rw [show nI (if 1 = 1 then (nI v).toNatClampNeg % 10 + 48 else (nI v).toNatClampNeg / 10 + 48) = nI (v % 10 + 48) from by rw [if_pos rfl, nI_clamp (show v < 2 ^ 31 by omega)]]
  refine me_bast (F' := mm_K) (pc' := 85) (n := m) (w := sb_b (v % 10 + 48)) dJ6_getChars_ba4f3_84 rfl (fun _ => hk) (fun _ => hb) (si_in (show p + 0 < m by omega) (by omega)) (sb_bd v (by omega)).1 (fun z => mm_K_I z) ?_
  rw [nI_clamp (show p + 0 < 2 ^ 31 by omega)]
  refine me_iload_n (pc' := 86) (i := 0) dJ6_getChars_ba4f3_85 rfl rfl rfl ?_
  refine me_bipush (pc' := 88) (v := (-9)) dJ6_getChars_ba4f3_86 rfl kc_bm9 ?_
  refine mm_neg (c := -(nI v) < (-9 : Int32)) (o2 := none) (show ¬ -nI v < -nI 9 from fun z9 => by have := (sb_nlt (by omega) (by decide)).mp z9; omega) (me_icmp_ge (pc' := 91) (tgt := 104) dJ6_getChars_ba4f3_88 (by decide) rfl (fun _ => ?_) (fun c9 => absurd c9 (show ¬ -nI v < -nI 9 from fun z9 => by have := (sb_nlt (by omega) (by decide)).mp z9; omega)))
  refine me_iload (pc' := 106) (i := 6) dJ6_getChars_ba4f3_104 rfl rfl ?_
  refine mm_pos (c := (0 : Int32) = 0) (o2 := none) (rfl : (0 : Int32) = 0) (me_if_eq (pc' := 109) (tgt := 118) dJ6_getChars_ba4f3_106 (by decide) rfl (fun _ => ?_) (fun c9 => absurd (rfl : (0 : Int32) = 0) c9))
  refine me_iload (pc' := 120) (i := 5) dJ6_getChars_ba4f3_118 rfl rfl ?_
  exact me_iret dJ6_getChars_ba4f3_120 rfl (fun z => z) rfl
theorem rJ6_getChars2 {v p b : Nat} (hv : 10 ≤ v ∧ v < 100) (hk : mm_kk h b = (3, m)) (hb : b < mh_n h) (hp : p + 2 ≤ m) (hm : m < 2 ^ 30) : mm_R2 mm_K mm_K mJ6_getChars_ba4f3 [.int (nI v), .int (nI (p + 2)), .ref b] h (some (nI p, ms_I (ms_I h b (p + 1) (sb_b (v % 10 + 48))) b p (sb_b (v / 10 + 48)))) lf_ie := by
  refine mm_body (L := [some (.int (nI v)), some (.int (nI (p + 2))), some (.ref b), none, none, none, none]) rfl (by decide +kernel) (Nat.le_of_ble_eq_true rfl) rfl ?_
  refine me_iload_n (pc' := 1) (i := 1) dJ6_getChars_ba4f3_0 rfl rfl rfl ?_
  refine me_istore (pc' := 3) (i := 5) (L' := [some (.int (nI v)), some (.int (nI (p + 2))), some (.ref b), none, none, some (.int (nI (p + 2))), none]) dJ6_getChars_ba4f3_1 rfl (Nat.le_of_ble_eq_true rfl) (Nat.le_of_ble_eq_true rfl) rfl ?_
  refine me_iload_n (pc' := 4) (i := 0) dJ6_getChars_ba4f3_3 rfl rfl rfl ?_
  refine mm_neg (c := nI v < 0) (o2 := none) (nI_pos (by omega)) (me_if_ge (pc' := 7) (tgt := 11) dJ6_getChars_ba4f3_4 (by decide) rfl (fun _ => ?_) (fun c9 => absurd c9 (nI_pos (by omega))))
  refine me_iconst (pc' := 12) (v := 0) dJ6_getChars_ba4f3_11 rfl kc_i0 ?_
  refine me_istore (pc' := 14) (i := 6) (L' := [some (.int (nI v)), some (.int (nI (p + 2))), some (.ref b), none, none, some (.int (nI (p + 2))), some (.int 0)]) dJ6_getChars_ba4f3_12 rfl (Nat.le_of_ble_eq_true rfl) (Nat.le_of_ble_eq_true rfl) rfl ?_
  refine me_iload (pc' := 16) (i := 6) dJ6_getChars_ba4f3_14 rfl rfl ?_
  refine mm_pos (c := (0 : Int32) = 0) (o2 := none) (rfl : (0 : Int32) = 0) (me_if_ne (pc' := 19) (tgt := 22) dJ6_getChars_ba4f3_16 (by decide) rfl (fun c9 => absurd (rfl : (0 : Int32) = 0) c9) (fun _ => ?_))
  refine me_iload_n (pc' := 20) (i := 0) dJ6_getChars_ba4f3_19 rfl rfl rfl ?_
  refine me_ineg (pc' := 21) dJ6_getChars_ba4f3_20 rfl ?_
  refine me_istore_n (pc' := 22) (i := 0) (L' := [some (.int (-(nI v))), some (.int (nI (p + 2))), some (.ref b), none, none, some (.int (nI (p + 2))), some (.int 0)]) dJ6_getChars_ba4f3_21 rfl rfl (Nat.le_of_ble_eq_true rfl) (Nat.le_of_ble_eq_true rfl) rfl ?_
  refine me_iload_n (pc' := 23) (i := 0) dJ6_getChars_ba4f3_22 rfl rfl rfl ?_
  refine me_bipush (pc' := 25) (v := (-100)) dJ6_getChars_ba4f3_23 rfl kc_bm100 ?_
  refine mm_pos (c := (-100 : Int32) < -(nI v)) (o2 := none) (show -nI 100 < -nI v from (sb_nlt (by decide) (by omega)).mpr (by omega)) (me_icmp_gt (pc' := 28) (tgt := 72) dJ6_getChars_ba4f3_25 (by decide) rfl (fun _ => ?_) (fun c9 => absurd (show -nI 100 < -nI v from (sb_nlt (by decide) (by omega)).mpr (by omega)) c9))
  refine me_aload_n (pc' := 73) (i := 2) dJ6_getChars_ba4f3_72 rfl rfl rfl ?_
  refine me_iinc (pc' := 76) (i := 5) (y := (nI (p + 1))) (L' := [some (.int (-(nI v))), some (.int (nI (p + 2))), some (.ref b), none, none, some (.int (nI (p + 1))), some (.int 0)]) dJ6_getChars_ba4f3_73 rfl (Nat.le_of_ble_eq_true rfl) (Nat.le_of_ble_eq_true rfl) rfl (show nI (p + 2) + Int32.ofInt (-1) = nI (p + 1) from sb_m1 (p := p + 2) (by omega)) rfl ?_
  refine me_iload (pc' := 78) (i := 5) dJ6_getChars_ba4f3_76 rfl rfl ?_
  refine me_digits (pc' := 81) (a := 1) (q := 602) (Or.inl rfl) rfl (mm_gw_of (List.mem_of_getElem? (i := 1175) (by decide +kernel)) rfl) dJ6_getChars_ba4f3_78 rfl ?_
  refine me_iload_n (pc' := 82) (i := 0) dJ6_getChars_ba4f3_81 rfl rfl rfl ?_
  refine me_ineg (pc' := 83) dJ6_getChars_ba4f3_82 rfl ?_
  rw [show ((-(-(nI v))) : Int32) = nI v from Int32.neg_neg]
  refine me_digit (a := 1) (q := 602) (pc' := 84) (Or.inl rfl) rfl (si_in (show v < 100 by omega) (by omega)) dJ6_getChars_ba4f3_83 rfl ?_
  rw [show nI (if 1 = 1 then (nI v).toNatClampNeg % 10 + 48 else (nI v).toNatClampNeg / 10 + 48) = nI (v % 10 + 48) from by rw [if_pos rfl, nI_clamp (show v < 2 ^ 31 by omega)]]
  refine me_bast (F' := mm_K) (pc' := 85) (n := m) (w := sb_b (v % 10 + 48)) dJ6_getChars_ba4f3_84 rfl (fun _ => hk) (fun _ => hb) (si_in (show p + 1 < m by omega) (by omega)) (sb_bd v (by omega)).1 (fun z => mm_K_I z) ?_
  rw [nI_clamp (show p + 1 < 2 ^ 31 by omega)]
  refine me_iload_n (pc' := 86) (i := 0) dJ6_getChars_ba4f3_85 rfl rfl rfl ?_
  refine me_bipush (pc' := 88) (v := (-9)) dJ6_getChars_ba4f3_86 rfl kc_bm9 ?_
  refine mm_pos (c := -(nI v) < (-9 : Int32)) (o2 := none) (show -nI v < -nI 9 from (sb_nlt (by omega) (by decide)).mpr (by omega)) (me_icmp_ge (pc' := 91) (tgt := 104) dJ6_getChars_ba4f3_88 (by decide) rfl (fun c9 => absurd (show -nI v < -nI 9 from (sb_nlt (by omega) (by decide)).mpr (by omega)) c9) (fun _ => ?_))
  refine me_aload_n (pc' := 92) (i := 2) dJ6_getChars_ba4f3_91 rfl rfl rfl ?_
  refine me_iinc (pc' := 95) (i := 5) (y := (nI p)) (L' := [some (.int (-(nI v))), some (.int (nI (p + 2))), some (.ref b), none, none, some (.int (nI p)), some (.int 0)]) dJ6_getChars_ba4f3_92 rfl (Nat.le_of_ble_eq_true rfl) (Nat.le_of_ble_eq_true rfl) rfl (show nI (p + 1) + Int32.ofInt (-1) = nI p from sb_m1 (p := p + 1) (by omega)) rfl ?_
  refine me_iload (pc' := 97) (i := 5) dJ6_getChars_ba4f3_95 rfl rfl ?_
  refine me_digits (pc' := 100) (a := 2) (q := 603) (Or.inr rfl) rfl (mm_gw_of (List.mem_of_getElem? (i := 1177) (by decide +kernel)) rfl) dJ6_getChars_ba4f3_97 rfl ?_
  refine me_iload_n (pc' := 101) (i := 0) dJ6_getChars_ba4f3_100 rfl rfl rfl ?_
  refine me_ineg (pc' := 102) dJ6_getChars_ba4f3_101 rfl ?_
  rw [show ((-(-(nI v))) : Int32) = nI v from Int32.neg_neg]
  refine me_digit (a := 2) (q := 603) (pc' := 103) (Or.inr rfl) rfl (si_in (show v < 100 by omega) (by omega)) dJ6_getChars_ba4f3_102 rfl ?_
  rw [show nI (if 2 = 1 then (nI v).toNatClampNeg % 10 + 48 else (nI v).toNatClampNeg / 10 + 48) = nI (v / 10 + 48) from by rw [if_neg (by decide), nI_clamp (show v < 2 ^ 31 by omega)]]
  refine me_bast (F' := mm_K) (pc' := 104) (n := m) (w := sb_b (v / 10 + 48)) dJ6_getChars_ba4f3_103 rfl (fun _ => (mm_kk_I h b (p + 1) b (sb_b (v % 10 + 48))).trans hk) (fun _ => Nat.lt_of_lt_of_eq hb (mm_n_I h b (p + 1) (sb_b (v % 10 + 48))).symm) (si_in (show p < m by omega) (by omega)) (sb_bd v (by omega)).2 (fun z => mm_K_I z) ?_
  rw [nI_clamp (show p < 2 ^ 31 by omega)]
  refine me_iload (pc' := 106) (i := 6) dJ6_getChars_ba4f3_104 rfl rfl ?_
  refine mm_pos (c := (0 : Int32) = 0) (o2 := none) (rfl : (0 : Int32) = 0) (me_if_eq (pc' := 109) (tgt := 118) dJ6_getChars_ba4f3_106 (by decide) rfl (fun _ => ?_) (fun c9 => absurd (rfl : (0 : Int32) = 0) c9))
  refine me_iload (pc' := 120) (i := 5) dJ6_getChars_ba4f3_118 rfl rfl ?_
  exact me_iret dJ6_getChars_ba4f3_120 rfl (fun z => z) rfl
theorem rJ6_stringSize {v : Nat} (hv : v < 100) (h : mm_H) : mm_R2 F F mJ6_stringSize_0f7a4 [.int (nI v)] h (some (nI (sb_dg v))) (lf_i h) := by
  by_cases h1 : v < 10
  · exact rJ6_stringSize1 h1 h
  · exact rJ6_stringSize2 ⟨by omega, hv⟩ h
theorem rJ6_getChars {v p b : Nat} (hv : v < 100) (hk : mm_kk h b = (3, m)) (hb : b < mh_n h) (hp : p + sb_dg v ≤ m) (hm : m < 2 ^ 30) : ∃ f : Nat → Int32, ((∀ j, j < p → f j = mh_I h b j) ∧ (∀ i, i < sb_dg v → sb_dec v i < 256 ∧ f (p + i) = sb_b (sb_dec v i)) ∧ (sb_Fit (mh_I h b) → sb_Fit f)) ∧ mm_R2 mm_K mm_K mJ6_getChars_ba4f3 [.int (nI v), .int (nI (p + sb_dg v)), .ref b] h (some (nI p, ms_Y h b f)) lf_ie := by
  by_cases h1 : v < 10
  · obtain ⟨e1, e2⟩ := sb_dg1 h1
    rw [e1] at hp ⊢
    refine ⟨upd (mh_I h b) p (sb_b (v % 10 + 48)), ⟨fun j hj => pk_un (by omega), fun i hi => ?_, fun z => sb_fitU z (sb_fitB _)⟩, ?_⟩
    · obtain rfl : i = 0 := by omega
      rw [e2]
      exact ⟨by omega, pk_us⟩
    · have r := rJ6_getChars1 (h := h) h1 hk hb hp hm
      rw [sx_IY] at r
      exact r
  · have hv2 : 10 ≤ v ∧ v < 100 := ⟨by omega, hv⟩
    obtain ⟨e1, e2, e3⟩ := sb_dg2 hv2
    rw [e1] at hp ⊢
    refine ⟨upd (upd (mh_I h b) (p + 1) (sb_b (v % 10 + 48))) p (sb_b (v / 10 + 48)), ⟨fun j hj => (pk_un (by omega)).trans (pk_un (by omega)), fun i hi => ?_, fun z => sb_fitU (sb_fitU z (sb_fitB _)) (sb_fitB _)⟩, ?_⟩
    · rcases (show i = 0 ∨ i = 1 by omega) with rfl | rfl
      · rw [e2]
        exact ⟨by omega, pk_us⟩
      · rw [e3]
        exact ⟨by omega, (pk_un (by omega)).trans pk_us⟩
    · have r := rJ6_getChars2 (h := h) hv2 hk hb hp hm
      rw [sx_IY h b (p + 1), sx_IY _ b p, sx_YY, sx_Y1] at r
      exact r
theorem rJ5_appendI {v : Nat} (hv : v < 100) (W : sb_W h0 g m n t h) (hn : n + sb_dg v ≤ 300) : ∃ h' g' m', sb_W h0 g' m' (n + sb_dg v) (sb_cat t n (sb_dec v)) h' ∧ mm_R2 mm_K mm_K mJ5_append_c97b9 [.ref 352, .int (nI v)] h (some (352, h')) lf_ae := by
  have dg := sb_dg_in v
  obtain ⟨h1, g1, m1, W1, hm1, r1⟩ := rJ5_ensure (q := n + sb_dg v) W (by omega) hn
  have m7 := W1.2.1.2.1.2.2
  obtain ⟨f, ⟨f1, f2, f3⟩, r2⟩ := rJ6_getChars (p := n) hv (sb_vk W1) (sb_vl W1) hm1 (by omega)
  have W2 : sb_W h0 g1 m1 n t (ms_Y h1 (353 + g1) f) := sb_row W1 (sb_latKeep W1.2.1.2.2.1 f1) (f3 W1.2.1.2.2.2)
  refine ⟨ms_I (ms_Y h1 (353 + g1) f) 352 3 (nI (n + sb_dg v)), g1, m1, sb_len W2 hm1 ?_, ?_⟩
  · rw [sx_Y1]
    exact sb_latPut W1.2.1.2.2.1 f1 f2
  · skip
    refine mm_body (L := [some (.ref 352), some (.int (nI v)), none, none]) rfl (by decide +kernel) (Nat.le_of_ble_eq_true rfl) rfl ?_
    refine me_aload_n (pc' := 1) (i := 0) dJ5_append_c97b9_0 rfl rfl rfl ?_
    refine me_getI (pc' := 4) dJ5_append_c97b9_1 rfl fkJ5_79 (fun _ => sb_k W) (fun _ => sb_l W) rfl ?_
    rw [sb_n W]
    refine me_istore_n (pc' := 5) (i := 2) (L' := [some (.ref 352), some (.int (nI v)), some (.int (nI n)), none]) dJ5_append_c97b9_4 rfl rfl (Nat.le_of_ble_eq_true rfl) (Nat.le_of_ble_eq_true rfl) rfl ?_
    refine me_iload_n (pc' := 6) (i := 2) dJ5_append_c97b9_5 rfl rfl rfl ?_
    refine me_iload_n (pc' := 7) (i := 1) dJ5_append_c97b9_6 rfl rfl rfl ?_
    refine me_callSt (As := [.int (nI v)]) (st := [.int (nI n)]) (F' := mm_K) (G' := mm_K) (F'' := mm_K) (pc' := 10) dJ5_append_c97b9_7 rfl mfJ6_stringSize_0f7a4 rfl lkJ5_245 ⟨Nat.le_of_ble_eq_true rfl, Nat.le_of_ble_eq_true rfl⟩ (Nat.le_of_ble_eq_true rfl) (fun z => z) (rJ6_stringSize hv h) rfl (fun z => z) ?_
    show mm_E2 _ _ _ _ _ [.int (nI (sb_dg v)), .int (nI n)] h _ _
    refine me_iadd (pc' := 11) dJ5_append_c97b9_10 rfl ?_
    rw [show (((nI n) + (nI (sb_dg v))) : Int32) = nI (n + sb_dg v) from nI_add n (sb_dg v)]
    refine me_istore_n (pc' := 12) (i := 3) (L' := [some (.ref 352), some (.int (nI v)), some (.int (nI n)), some (.int (nI (n + sb_dg v)))]) dJ5_append_c97b9_11 rfl rfl (Nat.le_of_ble_eq_true rfl) (Nat.le_of_ble_eq_true rfl) rfl ?_
    refine me_aload_n (pc' := 13) (i := 0) dJ5_append_c97b9_12 rfl rfl rfl ?_
    refine me_iload_n (pc' := 14) (i := 3) dJ5_append_c97b9_13 rfl rfl rfl ?_
    refine me_callU (b0 := prog_15_method_9_code) (m0 := 3) (r0 := (Option.none : Option Jvm.ClassFile.FieldType)) (x := ⟨"java/lang/AbstractStringBuilder", "ensureCapacityInternal", "(I)V"⟩) (As := [.int (nI (n + sb_dg v))]) (st := []) (F' := mm_K) (G' := mm_K) (F'' := mm_K) (pc' := 17) dJ5_append_c97b9_14 rfl mfJ5_ensureCapacityInternal_d00df rfl (mm_gw_of (List.mem_of_getElem? (i := 1053) (by decide +kernel)) rfl) (mm_gw_of (List.mem_of_getElem? (i := 1312) (by decide +kernel)) rfl) ⟨(mm_gw_of (List.mem_of_getElem? (i := 1055) (by decide +kernel)) rfl), (mm_gw_of (List.mem_of_getElem? (i := 1056) (by decide +kernel)) rfl)⟩ (Or.inr ⟨rfl, (mm_gw_of (List.mem_of_getElem? (i := 1016) (by decide +kernel)) rfl), (List.mem_of_getElem? (i := 1054) (by decide +kernel))⟩) ⟨by decide, by decide +kernel⟩ (fun _ => sb_k W) rfl (fun _ => sb_l W) ⟨Nat.le_of_ble_eq_true rfl, Nat.le_of_ble_eq_true rfl⟩ (Nat.le_of_ble_eq_true rfl) (fun z => z) r1 rfl (fun z => z) ?_
    show mm_E2 _ _ _ _ _ [] h1 _ _
    refine me_aload_n (pc' := 18) (i := 0) dJ5_append_c97b9_17 rfl rfl rfl ?_
    refine me_callU (b0 := prog_15_method_68_code) (m0 := 1) (r0 := (Option.some Jvm.ClassFile.FieldType.boolean)) (x := ⟨"java/lang/AbstractStringBuilder", "isLatin1", "()Z"⟩) (As := []) (st := []) (F' := mm_K) (G' := mm_K) (F'' := mm_K) (pc' := 21) dJ5_append_c97b9_18 rfl mfJ5_isLatin1_aae02 rfl (mm_gw_of (List.mem_of_getElem? (i := 1081) (by decide +kernel)) rfl) (mm_gw_of (List.mem_of_getElem? (i := 1083) (by decide +kernel)) rfl) ⟨(mm_gw_of (List.mem_of_getElem? (i := 1082) (by decide +kernel)) rfl), (mm_gw_of (List.mem_of_getElem? (i := 1085) (by decide +kernel)) rfl)⟩ (Or.inl (mm_gw_of (List.mem_of_getElem? (i := 1084) (by decide +kernel)) rfl)) ⟨by decide, by decide +kernel⟩ (fun _ => sb_k W1) rfl (fun _ => sb_l W1) ⟨Nat.le_of_ble_eq_true rfl, Nat.le_of_ble_eq_true rfl⟩ (Nat.le_of_ble_eq_true rfl) (fun z => z) (rJ5_isLatin1 (sb_V_of W1)) rfl (fun z => z) ?_
    show mm_E2 _ _ _ _ _ [.int 1] h1 _ _
    refine mm_neg (c := (1 : Int32) = 0) (o2 := none) (by decide : ¬ (1 : Int32) = 0) (me_if_eq (pc' := 24) (tgt := 37) dJ5_append_c97b9_21 (by decide) rfl (fun c9 => absurd c9 (by decide : ¬ (1 : Int32) = 0)) (fun _ => ?_))
    refine me_iload_n (pc' := 25) (i := 1) dJ5_append_c97b9_24 rfl rfl rfl ?_
    refine me_iload_n (pc' := 26) (i := 3) dJ5_append_c97b9_25 rfl rfl rfl ?_
    refine me_aload_n (pc' := 27) (i := 0) dJ5_append_c97b9_26 rfl rfl rfl ?_
    refine me_getR (pc' := 30) (q' := (353 + g1)) dJ5_append_c97b9_27 rfl fkJ5_15 (fun _ => sb_k W1) (fun _ => sb_l W1) rfl (fun _ => sb_r W1) ?_
    refine me_callSt (As := [.int (nI v), .int (nI (n + sb_dg v)), .ref (353 + g1)]) (st := []) (F' := mm_K) (G' := mm_K) (F'' := mm_K) (pc' := 33) dJ5_append_c97b9_30 rfl mfJ6_getChars_ba4f3 rfl lkJ5_248 ⟨Nat.le_of_ble_eq_true rfl, Nat.le_of_ble_eq_true rfl⟩ (Nat.le_of_ble_eq_true rfl) (fun z => z) r2 rfl (fun z => z) ?_
    show mm_E2 _ _ _ _ _ [.int (nI n)] (ms_Y h1 (353 + g1) f) _ _
    refine me_pop (v := .int (nI n)) (pc' := 34) dJ5_append_c97b9_33 rfl rfl ?_
    refine me_goto (tgt := 48) dJ5_append_c97b9_34 (by decide) ?_
    refine me_aload_n (pc' := 49) (i := 0) dJ5_append_c97b9_48 rfl rfl rfl ?_
    refine me_iload_n (pc' := 50) (i := 3) dJ5_append_c97b9_49 rfl rfl rfl ?_
    refine me_putI (F' := mm_K) (pc' := 53) dJ5_append_c97b9_50 rfl fkJ5_79 (fun _ => sb_k W2) (fun _ => sb_l W2) rfl pgJ4_3 (fun z => z) ?_
    refine me_aload_n (pc' := 54) (i := 0) dJ5_append_c97b9_53 rfl rfl rfl ?_
    exact me_aret dJ5_append_c97b9_54 rfl (fun z => z) rfl
theorem rJ4_appendC {c : Nat} (hc : c < 256) (W : sb_W h0 g m n t h) (hn : n + 1 ≤ 300) : ∃ h' g' m', sb_W h0 g' m' (n + 1) (sb_cat t n (fun _ => c)) h' ∧ mm_R2 mm_K mm_K mJ4_append_cf468 [.ref 352, .int (nI c)] h (some (352, h')) lf_ae := by
  obtain ⟨h1, g1, m1, W1, r1⟩ := rJ5_appendC hc W hn
  refine ⟨h1, g1, m1, W1, ?_⟩
  refine mm_body (L := [some (.ref 352), some (.int (nI c))]) rfl (by decide +kernel) (Nat.le_of_ble_eq_true rfl) rfl ?_
  refine me_aload_n (pc' := 1) (i := 0) dJ4_append_cf468_0 rfl rfl rfl ?_
  refine me_iload_n (pc' := 2) (i := 1) dJ4_append_cf468_1 rfl rfl rfl ?_
  refine me_callSU (As := [.int (nI c)]) (st := []) (F' := mm_K) (G' := mm_K) (F'' := mm_K) (pc' := 5) dJ4_append_cf468_2 rfl mfJ5_append_3fe6f rfl (mm_gw_of (List.mem_of_getElem? (i := 1153) (by decide +kernel)) rfl) (mm_gw_of (List.mem_of_getElem? (i := 1317) (by decide +kernel)) rfl) (mm_gw_of (List.mem_of_getElem? (i := 1047) (by decide +kernel)) rfl) (by decide) (fun _ => sb_k W) rfl (fun _ => sb_l W) ⟨Nat.le_of_ble_eq_true rfl, Nat.le_of_ble_eq_true rfl⟩ (Nat.le_of_ble_eq_true rfl) (fun z => z) r1 rfl (fun z => z) ?_
  show mm_E2 _ _ _ _ _ [.ref 352] h1 _ _
  refine me_pop (v := .ref 352) (pc' := 6) dJ4_append_cf468_5 rfl rfl ?_
  refine me_aload_n (pc' := 7) (i := 0) dJ4_append_cf468_6 rfl rfl rfl ?_
  exact me_aret dJ4_append_cf468_7 rfl (fun z => z) rfl
theorem rJ4_appendI {v : Nat} (hv : v < 100) (W : sb_W h0 g m n t h) (hn : n + sb_dg v ≤ 300) : ∃ h' g' m', sb_W h0 g' m' (n + sb_dg v) (sb_cat t n (sb_dec v)) h' ∧ mm_R2 mm_K mm_K mJ4_append_bf812 [.ref 352, .int (nI v)] h (some (352, h')) lf_ae := by
  obtain ⟨h1, g1, m1, W1, r1⟩ := rJ5_appendI hv W hn
  refine ⟨h1, g1, m1, W1, ?_⟩
  refine mm_body (L := [some (.ref 352), some (.int (nI v))]) rfl (by decide +kernel) (Nat.le_of_ble_eq_true rfl) rfl ?_
  refine me_aload_n (pc' := 1) (i := 0) dJ4_append_bf812_0 rfl rfl rfl ?_
  refine me_iload_n (pc' := 2) (i := 1) dJ4_append_bf812_1 rfl rfl rfl ?_
  refine me_callSU (As := [.int (nI v)]) (st := []) (F' := mm_K) (G' := mm_K) (F'' := mm_K) (pc' := 5) dJ4_append_bf812_2 rfl mfJ5_append_c97b9 rfl (mm_gw_of (List.mem_of_getElem? (i := 1166) (by decide +kernel)) rfl) (mm_gw_of (List.mem_of_getElem? (i := 1318) (by decide +kernel)) rfl) (mm_gw_of (List.mem_of_getElem? (i := 1047) (by decide +kernel)) rfl) (by decide) (fun _ => sb_k W) rfl (fun _ => sb_l W) ⟨Nat.le_of_ble_eq_true rfl, Nat.le_of_ble_eq_true rfl⟩ (Nat.le_of_ble_eq_true rfl) (fun z => z) r1 rfl (fun z => z) ?_
  show mm_E2 _ _ _ _ _ [.ref 352] h1 _ _
  refine me_pop (v := .ref 352) (pc' := 6) dJ4_append_bf812_5 rfl rfl ?_
  refine me_aload_n (pc' := 7) (i := 0) dJ4_append_bf812_6 rfl rfl rfl ?_
  exact me_aret dJ4_append_bf812_7 rfl (fun z => z) rfl
/-- a StringBuilder that is just made, at 352 -/
def sb_B (h0 h : mm_H) : Prop := ((mh_n h = 353 ∧ mh_c h = 353 ∧ mh_w h ≤ mh_w h0 + 4) ∧ (mh_D h 352 0 = 0 ∧ mh_D h 352 1 = 12) ∧ mh_I h 352 3 = 0) ∧ (∀ o, o < 352 → mh_I h o = mh_I h0 o ∧ mh_R h o = mh_R h0 o) ∧ (∀ k, mh_I h 400 k = mh_I h0 400 k) ∧ ∀ o, 353 ≤ o → o < 400 → ∀ k, mh_I h o k = 0
/-- with its first bytes -/
def ms_B (h : mm_H) : mm_H := ms_R (ms_K (ms_I h 352 1 0) 26 3 26) 352 0 (some 353)
theorem sb_B0 (B : sb_B h0 h) : sb_W h0 0 26 0 (fun _ => 0) (ms_B h) := by
  obtain ⟨⟨⟨b1, b2, b3⟩, ⟨b4, b5⟩, b6⟩, b7, b8, b9⟩ := B
  have eI : ∀ o, o ≠ 352 → mh_I (ms_B h) o = mh_I h o := fun o ho => funext fun k => if_neg (fun z => ho z.1)
  have eD : ∀ o, o ≠ 353 → ∀ k, mh_D (ms_B h) o k = mh_D h o k := fun o ho k => if_neg (by show ¬ o = mh_n h; rw [b1]; exact ho)
  have d2 : mh_D (ms_B h) 353 0 = 3 ∧ mh_D (ms_B h) 353 1 = 26 := by
    rw [← b1]
    constructor
    · show (if mh_n h = mh_n h then (if 0 = 0 then 3 else _) else _) = 3
      rw [if_pos rfl, if_pos rfl]
    · show (if mh_n h = mh_n h then (if 1 = 0 then 3 else if 1 = 1 then 26 else 0) else _) = 26
      rw [if_pos rfl, if_neg (by decide), if_pos rfl]
  refine ⟨⟨⟨?_, ?_, ?_⟩, ⟨(eD 352 (by decide) 0).trans b4, (eD 352 (by decide) 1).trans b5⟩, sx_R1 _ 352 0 (some 353), sx_I1 h 352 1 0, (sx_I2 h 352 1 3 0 (by decide)).trans b6⟩, ⟨d2, ⟨by decide, by decide, by decide⟩, fun j hj => absurd hj (Nat.not_lt_zero j), ?_⟩, fun o ho => ⟨(eI o (by omega)).trans (b7 o ho).1, ?_⟩, fun k => (congrFun (eI 400 (by decide)) k).trans (b8 k), fun o h1 h2 k => (congrFun (eI o (by omega)) k).trans (b9 o (by omega) h2 k)⟩
  · show mh_n h + 1 = 354
    omega
  · show mh_c h + 1 = 354
    omega
  · show mh_w h + 26 ≤ mh_w h0 + 4 + 2 * 26
    omega
  · rw [eI 353 (by decide)]
    intro j
    rw [b9 353 (by decide) (by decide) j]
    exact sb_fit0 j
  · show mm_up (mh_R h) 352 0 (some 353) o = _
    rw [show mm_up (mh_R h) 352 0 (some 353) o = mh_R h o from funext fun j => if_neg (fun z => by omega)]
    exact (b7 o ho).2
theorem sb_Bk (B : sb_B h0 h) : mm_kk h 352 = (0, 12) := by
  unfold mm_kk
  rw [if_neg (by decide), B.1.2.1.1, B.1.2.1.2]
theorem rJ5_init {i : Nat} (hi : i < 17) (hT : sb_Lat (mm_sT i) (mm_sn i) (mm_sbs i)) (hs : mm_sn i = 10) (B : sb_B h0 h) : ∃ h' g' m', sb_W h0 g' m' (0 + mm_sn i) (sb_cat (fun _ => 0) 0 (mm_sT i)) h' ∧ mm_R2 mm_K mm_K mJ5_init_a7421 [.ref 352, .ref (mm_NN + 1 + i)] h (some h') lf_v := by
  obtain ⟨h1, g1, m1, W1, r1⟩ := rJ4_appendB hi hT (sb_B0 B) (by omega) (by omega)
  have hn : mh_n h = 353 := B.1.1.1
  have es : mm_sl i = 10 := by
    unfold mm_sl
    rw [hs]
    rfl
  refine ⟨h1, g1, m1, W1, ?_⟩
  refine mm_body (L := [some (.ref 352), some (.ref (mm_NN + 1 + i)), none, none, none]) rfl (by decide +kernel) (Nat.le_of_ble_eq_true rfl) rfl ?_
  refine me_aload_n (pc' := 1) (i := 0) dJ5_init_a7421_0 rfl rfl rfl ?_
  refine me_objInit (pc' := 4) dJ5_init_a7421_1 rfl ljJ5_3 ⟨Nat.le_of_ble_eq_true rfl, Nat.le_of_ble_eq_true rfl⟩ (Nat.le_of_ble_eq_true rfl) ?_
  refine me_aload_n (pc' := 5) (i := 1) dJ5_init_a7421_4 rfl rfl rfl ?_
  refine me_callT (i := i) (As := []) (st := []) (F' := mm_K) (G' := mm_K) (F'' := mm_K) (pc' := 8) hi dJ5_init_a7421_5 rfl mfJ0_length_8abf5 rfl lkJ5_32 rfl ⟨Nat.le_of_ble_eq_true rfl, Nat.le_of_ble_eq_true rfl⟩ (Nat.le_of_ble_eq_true rfl) (fun z => z) (rJ0_length hi h) rfl (fun z => z) ?_
  show mm_E2 _ _ _ _ _ [.int (mm_sl i)] h _ _
  rw [show ((mm_sl i) : Int32) = 10 from es]
  refine me_istore_n (pc' := 9) (i := 2) (L' := [some (.ref 352), some (.ref (mm_NN + 1 + i)), some (.int 10), none, none]) dJ5_init_a7421_8 rfl rfl (Nat.le_of_ble_eq_true rfl) (Nat.le_of_ble_eq_true rfl) rfl ?_
  refine me_iload_n (pc' := 10) (i := 2) dJ5_init_a7421_9 rfl rfl rfl ?_
  refine me_ldcI (pc' := 12) (v := 2147483631) dJ5_init_a7421_10 rfl (mm_gw_of (List.mem_of_getElem? (i := 1026) (by decide +kernel)) rfl) ?_
  refine mm_pos (c := (10 : Int32) < 2147483631) (o2 := none) (by decide : (10 : Int32) < 2147483631) (me_icmp_ge (pc' := 15) (tgt := 22) dJ5_init_a7421_12 (by decide) rfl (fun c9 => absurd (by decide : (10 : Int32) < 2147483631) c9) (fun _ => ?_))
  refine me_iload_n (pc' := 16) (i := 2) dJ5_init_a7421_15 rfl rfl rfl ?_
  refine me_bipush (pc' := 18) (v := 16) dJ5_init_a7421_16 rfl kc_b16 ?_
  refine me_iadd (pc' := 19) dJ5_init_a7421_18 rfl ?_
  rw [show ((10 + 16) : Int32) = 26 from by decide]
  refine me_goto (tgt := 24) dJ5_init_a7421_19 (by decide) ?_
  refine me_istore_n (pc' := 25) (i := 3) (L' := [some (.ref 352), some (.ref (mm_NN + 1 + i)), some (.int 10), some (.int 26), none]) dJ5_init_a7421_24 rfl rfl (Nat.le_of_ble_eq_true rfl) (Nat.le_of_ble_eq_true rfl) rfl ?_
  refine me_aload_n (pc' := 26) (i := 1) dJ5_init_a7421_25 rfl rfl rfl ?_
  refine me_callT (i := i) (As := []) (st := []) (F' := mm_K) (G' := mm_K) (F'' := mm_K) (pc' := 29) hi dJ5_init_a7421_26 rfl mfJ0_coder_7d493 rfl lkJ5_40 rfl ⟨Nat.le_of_ble_eq_true rfl, Nat.le_of_ble_eq_true rfl⟩ (Nat.le_of_ble_eq_true rfl) (fun z => z) (rJ0_coder hi h) rfl (fun z => z) ?_
  show mm_E2 _ _ _ _ _ [.int 0] h _ _
  refine me_istore (pc' := 31) (i := 4) (L' := [some (.ref 352), some (.ref (mm_NN + 1 + i)), some (.int 10), some (.int 26), some (.int 0)]) dJ5_init_a7421_29 rfl (Nat.le_of_ble_eq_true rfl) (Nat.le_of_ble_eq_true rfl) rfl ?_
  refine me_aload_n (pc' := 32) (i := 0) dJ5_init_a7421_31 rfl rfl rfl ?_
  refine me_iload (pc' := 34) (i := 4) dJ5_init_a7421_32 rfl rfl ?_
  refine me_putC (F' := mm_K) (pc' := 37) (sb_Bk B) (show 352 < mh_n h by omega) dJ5_init_a7421_34 rfl fkJ5_22 (fun z => z) ?_
  refine me_aload_n (pc' := 38) (i := 0) dJ5_init_a7421_37 rfl rfl rfl ?_
  refine me_iload (pc' := 40) (i := 4) dJ5_init_a7421_38 rfl rfl ?_
  refine mm_pos (c := (0 : Int32) = 0) (o2 := none) (rfl : (0 : Int32) = 0) (me_if_ne (pc' := 43) (tgt := 49) dJ5_init_a7421_40 (by decide) rfl (fun c9 => absurd (rfl : (0 : Int32) = 0) c9) (fun _ => ?_))
  refine me_iload_n (pc' := 44) (i := 3) dJ5_init_a7421_43 rfl rfl rfl ?_
  refine me_newaBK (F' := mm_K) (pc' := 46) (N := 26) (show 352 ≤ mh_n h by omega) (show mh_n h < 400 by omega) dJ5_init_a7421_44 rfl (by decide) (by decide) (by decide) (fun z => z) (fun z => congrArg (· + 1) z) ?_
  rw [show mh_n (ms_I h 352 1 0) = 353 from hn]
  refine me_goto (tgt := 53) dJ5_init_a7421_46 (by decide) ?_
  refine me_putVal (F' := mm_K) (pc' := 56) (show mm_kk (ms_K (ms_I h 352 1 0) 26 3 26) 352 = (0, 12) from (mm_kk_Ko (h := ms_I h 352 1 0) (show 352 ≠ mh_n h by omega)).trans (show mm_kk (ms_I h 352 1 0) 352 = (0, 12) from (show mm_kk h 352 = (0, 12) from sb_Bk B))) (show 352 < mh_n h + 1 by omega) dJ5_init_a7421_53 rfl fkJ5_15 (fun z => z) ?_
  show mm_E2 _ _ _ _ _ [] (ms_B h) _ _
  refine me_aload_n (pc' := 57) (i := 0) dJ5_init_a7421_56 rfl rfl rfl ?_
  refine me_aload_n (pc' := 58) (i := 1) dJ5_init_a7421_57 rfl rfl rfl ?_
  refine me_callU (b0 := prog_15_method_22_code) (m0 := 3) (r0 := (Option.some (Jvm.ClassFile.FieldType.object "java/lang/AbstractStringBuilder"))) (x := ⟨"java/lang/AbstractStringBuilder", "append", "(Ljava/lang/String;)Ljava/lang/AbstractStringBuilder;"⟩) (As := [.ref (mm_NN + 1 + i)]) (st := []) (F' := mm_K) (G' := mm_K) (F'' := mm_K) (pc' := 61) dJ5_init_a7421_58 rfl mfJ4_append_cf1ce rfl (mm_gw_of (List.mem_of_getElem? (i := 1036) (by decide +kernel)) rfl) (mm_gw_of (List.mem_of_getElem? (i := 1038) (by decide +kernel)) rfl) ⟨(mm_gw_of (List.mem_of_getElem? (i := 1037) (by decide +kernel)) rfl), (mm_gw_of (List.mem_of_getElem? (i := 1048) (by decide +kernel)) rfl)⟩ (Or.inl (mm_gw_of (List.mem_of_getElem? (i := 1039) (by decide +kernel)) rfl)) ⟨by decide, by decide +kernel⟩ (fun _ => sb_k (sb_B0 B)) rfl (fun _ => sb_l (sb_B0 B)) ⟨Nat.le_of_ble_eq_true rfl, Nat.le_of_ble_eq_true rfl⟩ (Nat.le_of_ble_eq_true rfl) (fun z => z) r1 rfl (fun z => z) ?_
  show mm_E2 _ _ _ _ _ [.ref 352] h1 _ _
  refine me_pop (v := .ref 352) (pc' := 62) dJ5_init_a7421_61 rfl rfl ?_
  exact me_vret dJ5_init_a7421_62 rfl (fun z => z) rfl
theorem rJ4_init {i : Nat} (hi : i < 17) (hT : sb_Lat (mm_sT i) (mm_sn i) (mm_sbs i)) (hs : mm_sn i = 10) (B : sb_B h0 h) : ∃ h' g' m', sb_W h0 g' m' (0 + mm_sn i) (sb_cat (fun _ => 0) 0 (mm_sT i)) h' ∧ mm_R2 mm_K mm_K mJ4_init_a7421 [.ref 352, .ref (mm_NN + 1 + i)] h (some h') lf_v := by
  obtain ⟨h1, g1, m1, W1, r1⟩ := rJ5_init hi hT hs B
  refine ⟨h1, g1, m1, W1, ?_⟩
  refine mm_body (L := [some (.ref 352), some (.ref (mm_NN + 1 + i))]) rfl (by decide +kernel) (Nat.le_of_ble_eq_true rfl) rfl ?_
  refine me_aload_n (pc' := 1) (i := 0) dJ4_init_a7421_0 rfl rfl rfl ?_
  refine me_aload_n (pc' := 2) (i := 1) dJ4_init_a7421_1 rfl rfl rfl ?_
  refine me_callIt (As := [.ref (mm_NN + 1 + i)]) (st := []) (F' := mm_K) (G' := mm_K) (F'' := mm_K) (pc' := 5) dJ4_init_a7421_2 rfl mfJ5_init_a7421 rfl lkJ4_7 ⟨Nat.le_of_ble_eq_true rfl, Nat.le_of_ble_eq_true rfl⟩ (Nat.le_of_ble_eq_true rfl) (fun z => z) r1 rfl (fun z => z) ?_
  show mm_E2 _ _ _ _ _ [] h1 _ _
  exact me_vret dJ4_init_a7421_5 rfl (fun z => z) rfl
end MMSB5

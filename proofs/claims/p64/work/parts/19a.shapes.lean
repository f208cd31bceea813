section MMSH
/-! the law's own Stock at o, the setup text at t: kinds and references; String.length and charAt of the text -/
def mm_St (q : mm_q) (o : Nat) : Prop := (352 ≤ o ∧ o + 13 ≤ q.1) ∧ ((q.2.2.1 o 0 = 0 ∧ q.2.2.1 o 1 = 11) ∧ (q.2.2.1 (o + 1) 0 = 1 ∧ q.2.2.1 (o + 1) 1 = 20) ∧ (q.2.2.1 (o + 2) 0 = 7 ∧ q.2.2.1 (o + 2) 1 = 10) ∧ ∀ r, r < 10 → q.2.2.1 (o + 3 + r) 0 = 1 ∧ q.2.2.1 (o + 3 + r) 1 = 20) ∧ (q.2.2.2 o 0 = some 0 ∧ q.2.2.2 o 1 = some (o + 1) ∧ q.2.2.2 o 2 = some (o + 2) ∧ ∀ r, r < 10 → q.2.2.2 (o + 2) r = some (o + 3 + r))
def mm_Tx (q : mm_q) (t : Nat) : Prop := (352 ≤ t ∧ t + 2 ≤ q.1) ∧ (q.2.2.1 t 0 = 0 ∧ q.2.2.1 t 1 = 13) ∧ (q.2.2.1 (t + 1) 0 = 3 ∧ q.2.2.1 (t + 1) 1 ≤ 60000) ∧ q.2.2.2 t 0 = some (t + 1)
variable {q : mm_q} {o t : Nat} {h : mm_H} {i : Int32}
theorem mm_in10 (hi : vp_in i 10) : i.toNatClampNeg < 10 := by
  unfold vp_in at hi
  omega
theorem mm_St_ls (hS : mm_St q o) : mm_Sq q h → mm_kk h o = (0, 11) := mm_qD hS.1.1 hS.2.1.1.1 hS.2.1.1.2
theorem mm_St_lsn (hS : mm_St q o) : mm_Sq q h → o < mh_n h := mm_qn (by have := hS.1.2; omega)
theorem mm_St_lq (hS : mm_St q o) : mm_Sq q h → mm_kk h (o + 1) = (1, 20) := mm_qD (by have := hS.1.1; omega) hS.2.1.2.1.1 hS.2.1.2.1.2
theorem mm_St_lqn (hS : mm_St q o) : mm_Sq q h → o + 1 < mh_n h := mm_qn (by have := hS.1.2; omega)
theorem mm_St_lp (hS : mm_St q o) : mm_Sq q h → mm_kk h (o + 2) = (7, 10) := mm_qD (by have := hS.1.1; omega) hS.2.1.2.2.1.1 hS.2.1.2.2.1.2
theorem mm_St_lpn (hS : mm_St q o) : mm_Sq q h → o + 2 < mh_n h := mm_qn (by have := hS.1.2; omega)
theorem mm_St_lr (hi : vp_in i 10) (hS : mm_St q o) : mm_Sq q h → mm_kk h (o + 3 + i.toNatClampNeg) = (1, 20) := mm_qD (by have := hS.1.1; omega) (hS.2.1.2.2.2 _ (mm_in10 hi)).1 (hS.2.1.2.2.2 _ (mm_in10 hi)).2
theorem mm_St_lrn (hi : vp_in i 10) (hS : mm_St q o) : mm_Sq q h → o + 3 + i.toNatClampNeg < mh_n h := mm_qn (by have := hS.1.2; have := mm_in10 hi; omega)
theorem mm_St_x (hS : mm_St q o) : mm_Sq q h → mh_R h o 0 = some 0 := mm_qR hS.1.1 hS.2.2.1
theorem mm_St_1 (hS : mm_St q o) : mm_Sq q h → mh_R h o 1 = some (o + 1) := mm_qR hS.1.1 hS.2.2.2.1
theorem mm_St_2 (hS : mm_St q o) : mm_Sq q h → mh_R h o 2 = some (o + 2) := mm_qR hS.1.1 hS.2.2.2.2.1
theorem mm_St_r (hi : vp_in i 10) (hS : mm_St q o) : mm_Sq q h → mh_R h (o + 2) i.toNatClampNeg = some (o + 3 + i.toNatClampNeg) := mm_qR (by have := hS.1.1; omega) (hS.2.2.2.2.2 _ (mm_in10 hi))
def mm_tn (q : mm_q) (t : Nat) : Nat := q.2.2.1 (t + 1) 1
theorem mm_Tx_k (hT : mm_Tx q t) : mm_Sq q h → mm_kk h t = (0, 13) := mm_qD hT.1.1 hT.2.1.1 hT.2.1.2
theorem mm_Tx_n (hT : mm_Tx q t) : mm_Sq q h → t < mh_n h := mm_qn (by have := hT.1.2; omega)
theorem mm_Tx_vk (hT : mm_Tx q t) : mm_Sq q h → mm_kk h (t + 1) = (3, mm_tn q t) := mm_qD (by have := hT.1.1; omega) hT.2.2.1.1 rfl
theorem mm_Tx_vn (hT : mm_Tx q t) : mm_Sq q h → t + 1 < mh_n h := mm_qn (by have := hT.1.2; omega)
theorem mm_Tx_r (hT : mm_Tx q t) : mm_Sq q h → mh_R h t 0 = some (t + 1) := mm_qR hT.1.1 hT.2.2.2
theorem mm_tn_lt (hT : mm_Tx q t) : mm_tn q t < 2 ^ 31 := Nat.lt_of_le_of_lt hT.2.2.1.2 (by decide)
theorem rT_coder (hT : mm_Tx q t) (hc : mh_I h t 1 = 0) : mm_R2 (mm_Sq q) (mm_Sq q) mJ0_coder_7d493 [.ref t] h (some 0) (lf_i h) := by
  refine mm_body (L := [some (.ref t)]) rfl (by decide +kernel) (Nat.le_of_ble_eq_true rfl) rfl ?_
  refine me_strS (pc' := 3) rfl dJ0_coder_7d493_0 rfl ?_
  refine mm_neg (c := (1 : Int32) = 0) (o2 := none) (by decide) (me_if_eq (pc' := 6) (tgt := 13) dJ0_coder_7d493_3 (by decide) rfl (fun c => absurd c (by decide)) (fun _ => ?_))
  refine me_aload_n (pc' := 7) (i := 0) dJ0_coder_7d493_6 rfl rfl rfl ?_
  refine me_getI (pc' := 10) dJ0_coder_7d493_7 rfl fkJ0_15 (mm_Tx_k hT) (mm_Tx_n hT) rfl ?_
  rw [hc]
  refine me_goto (tgt := 14) dJ0_coder_7d493_10 (by decide) ?_
  exact me_nret (ty := .byte) dJ0_coder_7d493_14 rfl rfl (fun z => z) rfl
theorem rT_isLatin1 (hT : mm_Tx q t) (hc : mh_I h t 1 = 0) : mm_R2 (mm_Sq q) (mm_Sq q) mJ0_isLatin1_aae02 [.ref t] h (some true) (lf_z h) := by
  refine mm_body (L := [some (.ref t)]) rfl (by decide +kernel) (Nat.le_of_ble_eq_true rfl) rfl ?_
  refine me_strS (pc' := 3) rfl dJ0_isLatin1_aae02_0 rfl ?_
  refine mm_neg (c := (1 : Int32) = 0) (o2 := none) (by decide) (me_if_eq (pc' := 6) (tgt := 17) dJ0_isLatin1_aae02_3 (by decide) rfl (fun c => absurd c (by decide)) (fun _ => ?_))
  refine me_aload_n (pc' := 7) (i := 0) dJ0_isLatin1_aae02_6 rfl rfl rfl ?_
  refine me_getI (pc' := 10) dJ0_isLatin1_aae02_7 rfl fkJ0_15 (mm_Tx_k hT) (mm_Tx_n hT) rfl ?_
  rw [hc]
  refine mm_pos (c := (0 : Int32) = 0) (o2 := none) rfl (me_if_ne (pc' := 13) (tgt := 17) dJ0_isLatin1_aae02_10 (by decide) rfl (fun c => absurd rfl c) (fun _ => ?_))
  refine me_iconst (pc' := 14) (v := 1) dJ0_isLatin1_aae02_13 rfl kc_i1 ?_
  refine me_goto (tgt := 18) dJ0_isLatin1_aae02_14 (by decide) ?_
  exact me_zret (b := true) dJ0_isLatin1_aae02_18 rfl (fun z => z) rfl
theorem rT_length (hT : mm_Tx q t) (hc : mh_I h t 1 = 0) : mm_R2 (mm_Sq q) (mm_Sq q) mJ0_length_8abf5 [.ref t] h (some (nI (mm_tn q t))) (lf_i h) := by
  refine mm_body (L := [some (.ref t)]) rfl (by decide +kernel) (Nat.le_of_ble_eq_true rfl) rfl ?_
  refine me_aload_n (pc' := 1) (i := 0) dJ0_length_8abf5_0 rfl rfl rfl ?_
  refine me_getR (pc' := 4) (q' := t + 1) dJ0_length_8abf5_1 rfl fkJ0_9 (mm_Tx_k hT) (mm_Tx_n hT) rfl (mm_Tx_r hT) ?_
  refine me_alen (pc' := 5) (v := nI (mm_tn q t)) dJ0_length_8abf5_4 rfl (mm_Tx_vk hT) (mm_Tx_vn hT) rfl ?_
  refine me_aload_n (pc' := 6) (i := 0) dJ0_length_8abf5_5 rfl rfl rfl ?_
  refine me_callVt (As := []) (st := [.int (nI (mm_tn q t))]) (F' := mm_Sq q) (G' := mm_Sq q) (F'' := mm_Sq q) (pc' := 9) dJ0_length_8abf5_6 rfl mfJ0_coder_7d493 rfl lkJ0_335 (mm_Tx_k hT) rfl (mm_Tx_n hT) ⟨Nat.le_of_ble_eq_true rfl, Nat.le_of_ble_eq_true rfl⟩ (Nat.le_of_ble_eq_true rfl) (fun z => z) (rT_coder hT hc) rfl (fun z => z) ?_
  refine me_ishr (pc' := 10) dJ0_length_8abf5_9 rfl ?_
  rw [show (nI (mm_tn q t)) >>> ((0 : Int32) &&& 31) = nI (mm_tn q t) by rw [show ((0 : Int32) &&& 31) = 0 by decide]; simp]
  exact me_iret dJ0_length_8abf5_10 rfl (fun z => z) rfl
theorem rT_charAtL (hT : mm_Tx q t) {k : Int32} (hk : vp_in k (mm_tn q t)) : mm_R2 (mm_Sq q) (mm_Sq q) mJ1_charAt_3b067 [.ref (t + 1), .int k] h (some (mh_I h (t + 1) k.toNatClampNeg &&& 255)) (lf_i h) := by
  refine mm_body (L := [some (.ref (t + 1)), some (.int k)]) rfl (by decide +kernel) (Nat.le_of_ble_eq_true rfl) rfl ?_
  refine me_iload_n (pc' := 1) (i := 1) dJ1_charAt_3b067_0 rfl rfl rfl ?_
  refine me_aload_n (pc' := 2) (i := 0) dJ1_charAt_3b067_1 rfl rfl rfl ?_
  refine me_alen (pc' := 3) (v := nI (mm_tn q t)) dJ1_charAt_3b067_2 rfl (mm_Tx_vk hT) (mm_Tx_vn hT) rfl ?_
  refine me_callSt (As := [.int k, .int (nI (mm_tn q t))]) (st := []) (F' := mm_Sq q) (G' := mm_Sq q) (F'' := mm_Sq q) (pc' := 6) dJ1_charAt_3b067_3 rfl mfJ0_checkIndex_df160 rfl lkJ1_9 ⟨Nat.le_of_ble_eq_true rfl, Nat.le_of_ble_eq_true rfl⟩ (Nat.le_of_ble_eq_true rfl) (fun z => z) (rJ0_checkIndex hk (mm_tn_lt hT) h) rfl (fun z => z) ?_
  refine me_aload_n (pc' := 7) (i := 0) dJ1_charAt_3b067_6 rfl rfl rfl ?_
  refine me_iload_n (pc' := 8) (i := 1) dJ1_charAt_3b067_7 rfl rfl rfl ?_
  refine me_bald (pc' := 9) dJ1_charAt_3b067_8 rfl (mm_Tx_vk hT) (mm_Tx_vn hT) hk ?_
  refine me_sipush (pc' := 12) (v := 255) dJ1_charAt_3b067_9 rfl (by decide) ?_
  refine me_iand (pc' := 13) dJ1_charAt_3b067_12 rfl ?_
  refine me_i2c (pc' := 14) (v := mh_I h (t + 1) k.toNatClampNeg &&& 255) dJ1_charAt_3b067_13 rfl (sc_c2 _) ?_
  exact me_nret (ty := .char) dJ1_charAt_3b067_14 rfl (sc_nar _) (fun z => z) rfl
theorem rT_charAt (hT : mm_Tx q t) (hc : mh_I h t 1 = 0) {k : Int32} (hk : vp_in k (mm_tn q t)) : mm_R2 (mm_Sq q) (mm_Sq q) mJ0_charAt_5068e [.ref t, .int k] h (some (mh_I h (t + 1) k.toNatClampNeg &&& 255)) (lf_i h) := by
  refine mm_body (L := [some (.ref t), some (.int k)]) rfl (by decide +kernel) (Nat.le_of_ble_eq_true rfl) rfl ?_
  refine me_aload_n (pc' := 1) (i := 0) dJ0_charAt_5068e_0 rfl rfl rfl ?_
  refine me_callVt (As := []) (st := []) (F' := mm_Sq q) (G' := mm_Sq q) (F'' := mm_Sq q) (pc' := 4) dJ0_charAt_5068e_1 rfl mfJ0_isLatin1_aae02 rfl lkJ0_492 (mm_Tx_k hT) rfl (mm_Tx_n hT) ⟨Nat.le_of_ble_eq_true rfl, Nat.le_of_ble_eq_true rfl⟩ (Nat.le_of_ble_eq_true rfl) (fun z => z) (rT_isLatin1 hT hc) rfl (fun z => z) ?_
  show mm_E2 _ _ _ _ _ [.int (mx_bi true)] h _ _
  refine mm_pos (c := true = true) (o2 := none) rfl (me_ifB_eq (pc' := 7) (tgt := 16) dJ0_charAt_5068e_4 (by decide) rfl (fun c => absurd rfl c) (fun _ => ?_))
  refine me_aload_n (pc' := 8) (i := 0) dJ0_charAt_5068e_7 rfl rfl rfl ?_
  refine me_getR (pc' := 11) (q' := t + 1) dJ0_charAt_5068e_8 rfl fkJ0_9 (mm_Tx_k hT) (mm_Tx_n hT) rfl (mm_Tx_r hT) ?_
  refine me_iload_n (pc' := 12) (i := 1) dJ0_charAt_5068e_11 rfl rfl rfl ?_
  refine me_callSt (As := [.ref (t + 1), .int k]) (st := []) (F' := mm_Sq q) (G' := mm_Sq q) (F'' := mm_Sq q) (pc' := 15) dJ0_charAt_5068e_12 rfl mfJ1_charAt_3b067 rfl lkJ0_495 ⟨Nat.le_of_ble_eq_true rfl, Nat.le_of_ble_eq_true rfl⟩ (Nat.le_of_ble_eq_true rfl) (fun z => z) (rT_charAtL hT hk) rfl (fun z => z) ?_
  exact me_nret (ty := .char) dJ0_charAt_5068e_15 rfl (sc_nar _) (fun z => z) rfl
variable {τ : Type} {G : mm_H → Prop} {M : mm_M} {pc pc' idx : Nat} {L : List (Option Value)} {st : List Value} {o9 : Option τ} {lf : τ → mm_O}
theorem me_tlen (d : decode (my_b M) pc = .ok (.invokevirtual idx, 3)) (hp : pc + 3 = pc') (hk : mm_lk (my_y M).cls idx mJ0_length_8abf5) (hT : mm_Tx q t) (hc : mh_I h t 1 = 0) (hfr : 3 ≤ my_f M ∧ 40 ≤ my_w M) (hcat : (st.map fun v => v.category).sum ≤ 8) (K : mm_E2 (mm_Sq q) G M pc' L (.int (nI (mm_tn q t)) :: st) h o9 lf) : mm_E2 (mm_Sq q) G M pc L (.ref t :: st) h o9 lf :=
  me_callVt (As := []) (F' := mm_Sq q) (G' := mm_Sq q) (F'' := mm_Sq q) d hp mfJ0_length_8abf5 rfl hk (mm_Tx_k hT) rfl (mm_Tx_n hT) hfr hcat (fun z => z) (rT_length hT hc) rfl (fun z => z) K
theorem me_tchar {k : Int32} (d : decode (my_b M) pc = .ok (.invokevirtual idx, 3)) (hp : pc + 3 = pc') (hk : mm_lk (my_y M).cls idx mJ0_charAt_5068e) (hT : mm_Tx q t) (hc : mh_I h t 1 = 0) (hi : vp_in k (mm_tn q t)) (hfr : 5 ≤ my_f M ∧ 85 ≤ my_w M) (hcat : (st.map fun v => v.category).sum ≤ 8) (K : mm_E2 (mm_Sq q) G M pc' L (.int (mh_I h (t + 1) k.toNatClampNeg &&& 255) :: st) h o9 lf) : mm_E2 (mm_Sq q) G M pc L (.int k :: .ref t :: st) h o9 lf :=
  me_callVt (As := [.int k]) (F' := mm_Sq q) (G' := mm_Sq q) (F'' := mm_Sq q) d hp mfJ0_charAt_5068e rfl hk (mm_Tx_k hT) rfl (mm_Tx_n hT) hfr hcat (fun z => z) (rT_charAt hT hc hi) rfl (fun z => z) K
theorem mm_tnD (hF : mm_Sq q h) : mm_tn q t = mh_D h (t + 1) 1 := by
  rw [hF.2.2.2.1]
  rfl
theorem me_tlenD (d : decode (my_b M) pc = .ok (.invokevirtual idx, 3)) (hp : pc + 3 = pc') (hk : mm_lk (my_y M).cls idx mJ0_length_8abf5) (hT : mm_Tx q t) (hc : mh_I h t 1 = 0) (hfr : 3 ≤ my_f M ∧ 40 ≤ my_w M) (hcat : (st.map fun v => v.category).sum ≤ 8) (K : mm_E2 (mm_Sq q) G M pc' L (.int (nI (mh_D h (t + 1) 1)) :: st) h o9 lf) : mm_E2 (mm_Sq q) G M pc L (.ref t :: st) h o9 lf :=
  fun x hx hF => me_tlen d hp hk hT hc hfr hcat (by rw [mm_tnD hF]; exact K) x hx hF
theorem me_tcharD {k : Int32} (d : decode (my_b M) pc = .ok (.invokevirtual idx, 3)) (hp : pc + 3 = pc') (hk : mm_lk (my_y M).cls idx mJ0_charAt_5068e) (hT : mm_Tx q t) (hc : mh_I h t 1 = 0) (hi : vp_in k (mh_D h (t + 1) 1)) (hfr : 5 ≤ my_f M ∧ 85 ≤ my_w M) (hcat : (st.map fun v => v.category).sum ≤ 8) (K : mm_E2 (mm_Sq q) G M pc' L (.int (mh_I h (t + 1) k.toNatClampNeg &&& 255) :: st) h o9 lf) : mm_E2 (mm_Sq q) G M pc L (.int k :: .ref t :: st) h o9 lf :=
  fun x hx hF => me_tchar d hp hk hT hc (by rw [mm_tnD hF]; exact hi) hfr hcat K x hx hF
theorem mm_out11 {x : Int32} (c0 : ¬ x = 0) (c1 : ¬ x = 1) (c2 : ¬ x = 2) (c3 : ¬ x = 3) (c4 : ¬ x = 4) (c5 : ¬ x = 5) (c6 : ¬ x = 6) (c7 : ¬ x = 7) (c8 : ¬ x = 8) (c9 : ¬ x = 9) (c10 : ¬ x = 10) (c11 : ¬ x = 11) : x.toInt < 0 ∨ 11 < x.toInt := by
  rcases mm_out8 c0 c1 c2 c3 c4 c5 c6 c7 c8 with h | h
  · exact Or.inl h
  · by_cases h2 : 11 < x.toInt
    · exact Or.inr h2
    · exfalso
      have : x.toInt = (9 : Nat) ∨ x.toInt = (10 : Nat) ∨ x.toInt = (11 : Nat) := by omega
      rcases this with e | e | e
      · exact c9 (mm_i32 (by decide) e)
      · exact c10 (mm_i32 (by decide) e)
      · exact c11 (mm_i32 (by decide) e)
end MMSH

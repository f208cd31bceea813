section MML
/-! the law's own instructions, and contracts for it -/
variable {τ : Type} {F G : mm_H → Prop} {M N : mm_M} {pc pc' : Nat} {L : List (Option Value)} {st as : List Value} {h : mm_H} {o : Option τ} {lf : τ → mm_O}
def mm_SQ (h : mm_H) : Prop := ∃ t, mm_Sq (360, t) h
theorem mm_ltQ {o t n : Nat} (hk : mm_kd o = (t, n)) (hn : ¬ t = 9 := by decide) : mm_SQ h → o < mh_n h := fun ⟨_, hs⟩ => mm_ltw hk (Nat.le_refl _) hn hs
theorem mm_RQ (H : ∀ t, mm_R2 (mm_Sq (360, t)) (mm_Sq (360, t)) N as h o lf) : mm_R2 mm_SQ mm_SQ N as h o lf := by
  intro x hx ⟨t, ht⟩
  obtain ⟨a, b, c⟩ := H t x hx ht
  exact ⟨a, ⟨t, b⟩, c⟩
theorem mm_RQ1 (H : ∀ t, mm_R2 (mm_Sq (360, t)) (mm_Sq (360, 1)) N as h o lf) : mm_R2 mm_SQ mm_SQ N as h o lf := by
  intro x hx ⟨t, ht⟩
  obtain ⟨a, b, c⟩ := H t x hx ht
  exact ⟨a, ⟨1, b⟩, c⟩
theorem mx_ad_scr (X : mm_X) : mx_ad X 360 = mx_b X := by
  unfold mx_ad
  rw [if_neg (by show ¬ 360 < 360; omega), if_pos (show 360 = mm_NN from rfl)]
theorem me_sclen (d : decode (my_b M) pc = .ok (.arraylength, 1)) (hp : pc + 1 = pc') (K : mm_E2 F G M pc' L (.int (mh_I h 360 0) :: st) h o lf) : mm_E2 F G M pc L (.ref 360 :: st) h o lf := by
  subst hp
  refine mm_lift (st' := .int (mh_I h 360 0) :: st) (fun X p l e R s m args below meth c H locs ls cells slots Q hC hP hS hL hF _ _ kk => ?_) K
  obtain ⟨hl, hx, hb, hr, hml, hown, hlk, hts, hE, hte, hin0, hRf, hRl⟩ := hC
  show W p l e R s m args below meth c H locs cells slots Q (F0 m pc ls (.ref (mx_ad X 360) :: st.map (mx_cv X)))
  rw [mx_ad_scr]
  have e1 : mh_I h 360 0 = nI (mx_L X) := hP.2.2.1.1
  have kk2 : W p l e R s m args below meth c H locs cells slots Q (F0 m (pc + 1) ls (.int (mh_I h 360 0) :: st.map (mx_cv X))) := kk
  rw [e1] at kk2
  exact va_slen hx hb hE.2.1 (Nat.lt_of_lt_of_le hE.1.1 hE.1.2.2) (show ¬ mx_base X ≤ mx_b X from Nat.not_le.mpr hE.1.1) hS d kk2
def mm_isb (i n : Int32) : Bool := decide (¬ i < 0 ∧ i < n)
theorem me_scld {i : Int32} (d : decode (my_b M) pc = .ok (.iaload, 1)) (hp : pc + 1 = pc') (hi : mm_isb i (mh_I h 360 0) = true) (K : mm_E2 F G M pc' L (.int (mh_I h 360 (Int32.toNatClampNeg i + 1)) :: st) h o lf) : mm_E2 F G M pc L (.int i :: .ref 360 :: st) h o lf := by
  subst hp
  refine mm_lift (st' := .int (mh_I h 360 (Int32.toNatClampNeg i + 1)) :: st) (fun X p l e R s m args below meth c H locs ls cells slots Q hC hP hS hL hF _ _ kk => ?_) K
  obtain ⟨hl, hx, hb, hr, hml, hown, hlk, hts, hE, hte, hin0, hRf, hRl⟩ := hC
  show W p l e R s m args below meth c H locs cells slots Q (F0 m pc ls (.int i :: .ref (mx_ad X 360) :: st.map (mx_cv X)))
  rw [mx_ad_scr]
  have hL9 := hE.1.2.1
  obtain ⟨i1, i2⟩ := of_decide_eq_true (p := ¬ i < 0 ∧ i < mh_I h 360 0) hi
  have e1 : mh_I h 360 0 = nI (mx_L X) := hP.2.2.1.1
  rw [e1] at i2
  obtain ⟨j, hj, rfl⟩ := nI_of i1
  have hjL : j < mx_L X := (nI_ltI hj (by omega)).mp i2
  have e2 : mh_I h 360 (j + 1) = mx_xs X j := hP.2.2.1.2 j hjL
  have kk2 : W p l e R s m args below meth c H locs cells slots Q (F0 m (pc + 1) ls (.int (mh_I h 360 (Int32.toNatClampNeg (nI j) + 1)) :: st.map (mx_cv X))) := kk
  rw [nI_clamp hj, e2] at kk2
  refine va_sld hx hb hE.2.1 (Nat.lt_of_lt_of_le hE.1.1 hE.1.2.2) (show ¬ mx_base X ≤ mx_b X from Nat.not_le.mpr hE.1.1) hS (vp_in_nI hjL (by omega)) d ?_
  rw [nI_clamp hj]
  exact kk2
theorem mm_out60 {x : Int32} (c0 : ¬ x = 0) (c1 : ¬ x = 1) (c2 : ¬ x = 2) (c3 : ¬ x = 3) (c4 : ¬ x = 4) (c5 : ¬ x = 5) (c6 : ¬ x = 6) (c7 : ¬ x = 7) (c8 : ¬ x = 8) (c9 : ¬ x = 9) (c10 : ¬ x = 10) (c11 : ¬ x = 11) (c12 : ¬ x = 12) (c13 : ¬ x = 13) (c14 : ¬ x = 14) (c15 : ¬ x = 15) (c16 : ¬ x = 16) (c17 : ¬ x = 17) (c18 : ¬ x = 18) (c19 : ¬ x = 19) (c20 : ¬ x = 20) (c21 : ¬ x = 21) (c22 : ¬ x = 22) (c23 : ¬ x = 23) (c24 : ¬ x = 24) (c25 : ¬ x = 25) (c26 : ¬ x = 26) (c27 : ¬ x = 27) (c28 : ¬ x = 28) (c29 : ¬ x = 29) (c30 : ¬ x = 30) (c31 : ¬ x = 31) (c32 : ¬ x = 32) (c33 : ¬ x = 33) (c34 : ¬ x = 34) (c35 : ¬ x = 35) (c36 : ¬ x = 36) (c37 : ¬ x = 37) (c38 : ¬ x = 38) (c39 : ¬ x = 39) (c40 : ¬ x = 40) (c41 : ¬ x = 41) (c42 : ¬ x = 42) (c43 : ¬ x = 43) (c44 : ¬ x = 44) (c45 : ¬ x = 45) (c46 : ¬ x = 46) (c47 : ¬ x = 47) (c48 : ¬ x = 48) (c49 : ¬ x = 49) (c50 : ¬ x = 50) (c51 : ¬ x = 51) (c52 : ¬ x = 52) (c53 : ¬ x = 53) (c54 : ¬ x = 54) (c55 : ¬ x = 55) (c56 : ¬ x = 56) (c57 : ¬ x = 57) (c58 : ¬ x = 58) (c59 : ¬ x = 59) (c60 : ¬ x = 60) : x.toInt < 0 ∨ 60 < x.toInt := by
  by_cases h1 : x.toInt < 0
  · exact Or.inl h1
  · by_cases h2 : 60 < x.toInt
    · exact Or.inr h2
    · exfalso
      obtain ⟨k, hk⟩ : ∃ k : Nat, x.toInt = (k : Int) := ⟨x.toInt.toNat, by omega⟩
      have hx : x = nI k := mm_i32 (by omega) hk
      have hk61 : k < 61 := by omega
      match k, hk61, hx with
      | 0, _, hx => exact c0 hx
      | 1, _, hx => exact c1 hx
      | 2, _, hx => exact c2 hx
      | 3, _, hx => exact c3 hx
      | 4, _, hx => exact c4 hx
      | 5, _, hx => exact c5 hx
      | 6, _, hx => exact c6 hx
      | 7, _, hx => exact c7 hx
      | 8, _, hx => exact c8 hx
      | 9, _, hx => exact c9 hx
      | 10, _, hx => exact c10 hx
      | 11, _, hx => exact c11 hx
      | 12, _, hx => exact c12 hx
      | 13, _, hx => exact c13 hx
      | 14, _, hx => exact c14 hx
      | 15, _, hx => exact c15 hx
      | 16, _, hx => exact c16 hx
      | 17, _, hx => exact c17 hx
      | 18, _, hx => exact c18 hx
      | 19, _, hx => exact c19 hx
      | 20, _, hx => exact c20 hx
      | 21, _, hx => exact c21 hx
      | 22, _, hx => exact c22 hx
      | 23, _, hx => exact c23 hx
      | 24, _, hx => exact c24 hx
      | 25, _, hx => exact c25 hx
      | 26, _, hx => exact c26 hx
      | 27, _, hx => exact c27 hx
      | 28, _, hx => exact c28 hx
      | 29, _, hx => exact c29 hx
      | 30, _, hx => exact c30 hx
      | 31, _, hx => exact c31 hx
      | 32, _, hx => exact c32 hx
      | 33, _, hx => exact c33 hx
      | 34, _, hx => exact c34 hx
      | 35, _, hx => exact c35 hx
      | 36, _, hx => exact c36 hx
      | 37, _, hx => exact c37 hx
      | 38, _, hx => exact c38 hx
      | 39, _, hx => exact c39 hx
      | 40, _, hx => exact c40 hx
      | 41, _, hx => exact c41 hx
      | 42, _, hx => exact c42 hx
      | 43, _, hx => exact c43 hx
      | 44, _, hx => exact c44 hx
      | 45, _, hx => exact c45 hx
      | 46, _, hx => exact c46 hx
      | 47, _, hx => exact c47 hx
      | 48, _, hx => exact c48 hx
      | 49, _, hx => exact c49 hx
      | 50, _, hx => exact c50 hx
      | 51, _, hx => exact c51 hx
      | 52, _, hx => exact c52 hx
      | 53, _, hx => exact c53 hx
      | 54, _, hx => exact c54 hx
      | 55, _, hx => exact c55 hx
      | 56, _, hx => exact c56 hx
      | 57, _, hx => exact c57 hx
      | 58, _, hx => exact c58 hx
      | 59, _, hx => exact c59 hx
      | 60, _, hx => exact c60 hx
      | n + 61, hn, _ => omega
end MML

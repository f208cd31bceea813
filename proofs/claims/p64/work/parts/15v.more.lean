section MMV
/-! more instructions: shifts, numbers of the constant pool, the script -/
variable {τ : Type} {F G : mm_H → Prop} {M : mm_M} {pc pc' : Nat} {L : List (Option Value)} {st : List Value} {h : mm_H} {o : Option τ} {lf : τ → mm_O}
theorem me_ishl {x y : Int32} (d : decode (my_b M) pc = .ok (.ishl, 1)) (hp : pc + 1 = pc') (k : mm_E2 F G M pc' L (.int (x <<< (y &&& 31)) :: st) h o lf) : mm_E2 F G M pc L (.int y :: .int x :: st) h o lf := by
  subst hp
  exact mm_lift (fun X p l e R s m args below meth c H locs ls cells slots Q hC hP hS hL hF _ _ kk => lv_ishl hC.2.1 hC.2.2.1 d kk) k
theorem me_ior {x y : Int32} (d : decode (my_b M) pc = .ok (.ior, 1)) (hp : pc + 1 = pc') (k : mm_E2 F G M pc' L (.int (x ||| y) :: st) h o lf) : mm_E2 F G M pc L (.int y :: .int x :: st) h o lf := by
  subst hp
  exact mm_lift (fun X p l e R s m args below meth c H locs ls cells slots Q hC hP hS hL hF _ _ kk => lv_ior hC.2.1 hC.2.2.1 d kk) k
theorem me_ldcI {idx : Nat} {v : Int32} (d : decode (my_b M) pc = .ok (.ldc idx, 2)) (hp : pc + 2 = pc') (hw : Cond.constant (my_y M).cls idx v ∈ mm_gw) (k : mm_E2 F G M pc' L (.int v :: st) h o lf) : mm_E2 F G M pc L st h o lf := by
  subst hp
  exact mm_lift (st' := .int v :: st) (fun X p l e R s m args below meth c H locs ls cells slots Q hC hP hS hL hF _ _ kk => lv_ldc hC.2.1 hC.2.2.1 hC.2.2.2.2.2.1 (hC.2.2.2.2.2.2.2.1 _ hw) d kk) k
theorem mx_ad_scr (X : mm_X) : mx_ad X 400 = mx_b X := by
  unfold mx_ad
  rw [if_neg (show ¬ 400 < mm_NN by decide), if_pos (show 400 = mm_NN from rfl)]
theorem me_scln (d : decode (my_b M) pc = .ok (.arraylength, 1)) (hp : pc + 1 = pc') (K : mm_E2 F G M pc' L (.int (mh_I h 400 0) :: st) h o lf) : mm_E2 F G M pc L (.ref 400 :: st) h o lf := by
  subst hp
  refine mm_lift (st' := .int (mh_I h 400 0) :: st) (fun X p l e R s m args below meth c H locs ls cells slots Q hC hP hS hL hF _ _ kk => ?_) K
  obtain ⟨hl, hx, hb, hr, hml, hown, hlk, hts, hE, hte, hin0, hRf, hRl⟩ := hC
  show W p l e R s m args below meth c H locs cells slots Q (F0 m pc ls (.ref (mx_ad X 400) :: st.map (mx_cv X)))
  rw [mx_ad_scr]
  have e1 : mh_I h 400 0 = nI (mx_L X) := hP.2.2.1.1
  have kk2 : W p l e R s m args below meth c H locs cells slots Q (F0 m (pc + 1) ls (.int (mh_I h 400 0) :: st.map (mx_cv X))) := kk
  rw [e1] at kk2
  exact va_slen hx hb hE.2.1 (Nat.lt_of_lt_of_le hE.1.1 hE.1.2.2) (show ¬ mx_base X ≤ mx_b X from Nat.not_le.mpr hE.1.1) hS d kk2
def mm_isb (i n : Int32) : Bool := decide (¬ i < 0 ∧ i < n)
theorem me_scld {i : Int32} (d : decode (my_b M) pc = .ok (.iaload, 1)) (hp : pc + 1 = pc') (hi : mm_isb i (mh_I h 400 0) = true) (K : mm_E2 F G M pc' L (.int (mh_I h 400 (Int32.toNatClampNeg i + 1)) :: st) h o lf) : mm_E2 F G M pc L (.int i :: .ref 400 :: st) h o lf := by
  subst hp
  refine mm_lift (st' := .int (mh_I h 400 (Int32.toNatClampNeg i + 1)) :: st) (fun X p l e R s m args below meth c H locs ls cells slots Q hC hP hS hL hF _ _ kk => ?_) K
  obtain ⟨hl, hx, hb, hr, hml, hown, hlk, hts, hE, hte, hin0, hRf, hRl⟩ := hC
  show W p l e R s m args below meth c H locs cells slots Q (F0 m pc ls (.int i :: .ref (mx_ad X 400) :: st.map (mx_cv X)))
  rw [mx_ad_scr]
  have hL9 := hE.1.2.1
  obtain ⟨i1, i2⟩ := of_decide_eq_true (p := ¬ i < 0 ∧ i < mh_I h 400 0) hi
  have e1 : mh_I h 400 0 = nI (mx_L X) := hP.2.2.1.1
  rw [e1] at i2
  obtain ⟨j, hj, rfl⟩ := nI_of i1
  have hjL : j < mx_L X := (nI_ltI hj (by omega)).mp i2
  have e2 : mh_I h 400 (j + 1) = mx_xs X j := hP.2.2.1.2 j hjL
  have kk2 : W p l e R s m args below meth c H locs cells slots Q (F0 m (pc + 1) ls (.int (mh_I h 400 (Int32.toNatClampNeg (nI j) + 1)) :: st.map (mx_cv X))) := kk
  rw [nI_clamp hj, e2] at kk2
  refine va_sld hx hb hE.2.1 (Nat.lt_of_lt_of_le hE.1.1 hE.1.2.2) (show ¬ mx_base X ≤ mx_b X from Nat.not_le.mpr hE.1.1) hS (vp_in_nI hjL (by omega)) d ?_
  rw [nI_clamp hj]
  exact kk2
end MMV
